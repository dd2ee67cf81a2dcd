section
-- ===== PART A: goes FIRST, ahead of the names: the tables' words, and 'selects' of the private methods out of them =====
/-- a private method of a class that the tables say can be made, by its rows of tables_1 -/
def lw_okq (q : MethodName × Nat) : Prop := (q.1.cls ≠ "java/lang/invoke/MethodHandle" ∧ q.1.cls ≠ "java/lang/invoke/VarHandle") ∧ Cond.instantiable q.1.cls q.2 ∈ tables_1 ∧ Cond.privateMethod q.1 ∈ tables_1 ∧ Cond.instanceMethod q.1 ∈ tables_1
theorem lw_p0 : lw_okq (⟨"java/lang/Throwable", "fillInStackTrace", "(I)Ljava/lang/Throwable;"⟩, 6) := ⟨⟨by decide +kernel, by decide +kernel⟩, List.mem_of_getElem? (i := 185) (by decide +kernel), List.mem_of_getElem? (i := 183) (by decide +kernel), List.mem_of_getElem? (i := 184) (by decide +kernel)⟩
theorem lw_p1 : lw_okq (⟨"java/util/ArrayList", "add", "(Ljava/lang/Object;[Ljava/lang/Object;I)V"⟩, 3) := ⟨⟨by decide +kernel, by decide +kernel⟩, List.mem_of_getElem? (i := 38) (by decide +kernel), List.mem_of_getElem? (i := 326) (by decide +kernel), List.mem_of_getElem? (i := 327) (by decide +kernel)⟩
theorem lw_p2 : lw_okq (⟨"java/util/ArrayList", "grow", "()[Ljava/lang/Object;"⟩, 3) := ⟨⟨by decide +kernel, by decide +kernel⟩, List.mem_of_getElem? (i := 38) (by decide +kernel), List.mem_of_getElem? (i := 330) (by decide +kernel), List.mem_of_getElem? (i := 331) (by decide +kernel)⟩
theorem lw_p3 : lw_okq (⟨"java/util/ArrayList", "grow", "(I)[Ljava/lang/Object;"⟩, 3) := ⟨⟨by decide +kernel, by decide +kernel⟩, List.mem_of_getElem? (i := 38) (by decide +kernel), List.mem_of_getElem? (i := 334) (by decide +kernel), List.mem_of_getElem? (i := 335) (by decide +kernel)⟩
theorem lw_p4 : lw_okq (⟨"PipewrightExchange", "isNoDistrict", "(I)Z"⟩, 9) := ⟨⟨by decide +kernel, by decide +kernel⟩, List.mem_of_getElem? (i := 30) (by decide +kernel), List.mem_of_getElem? (i := 389) (by decide +kernel), List.mem_of_getElem? (i := 390) (by decide +kernel)⟩
theorem lw_p5 : lw_okq (⟨"PipewrightExchange", "orderBids", "()V"⟩, 9) := ⟨⟨by decide +kernel, by decide +kernel⟩, List.mem_of_getElem? (i := 30) (by decide +kernel), List.mem_of_getElem? (i := 492) (by decide +kernel), List.mem_of_getElem? (i := 493) (by decide +kernel)⟩
theorem lw_p6 : lw_okq (⟨"PipewrightExchange", "bidsAheadOf", "(LPipewrightExchange$District;)I"⟩, 9) := ⟨⟨by decide +kernel, by decide +kernel⟩, List.mem_of_getElem? (i := 30) (by decide +kernel), List.mem_of_getElem? (i := 500) (by decide +kernel), List.mem_of_getElem? (i := 501) (by decide +kernel)⟩
theorem lw_p7 : lw_okq (⟨"java/util/ArrayList", "rangeCheckForAdd", "(I)V"⟩, 3) := ⟨⟨by decide +kernel, by decide +kernel⟩, List.mem_of_getElem? (i := 38) (by decide +kernel), List.mem_of_getElem? (i := 512) (by decide +kernel), List.mem_of_getElem? (i := 513) (by decide +kernel)⟩
theorem lw_p8 : lw_okq (⟨"java/util/ArrayList", "outOfBoundsMsg", "(I)Ljava/lang/String;"⟩, 3) := ⟨⟨by decide +kernel, by decide +kernel⟩, List.mem_of_getElem? (i := 38) (by decide +kernel), List.mem_of_getElem? (i := 517) (by decide +kernel), List.mem_of_getElem? (i := 518) (by decide +kernel)⟩
theorem lw_p9 : lw_okq (⟨"PipewrightExchange", "beginFlowing", "()V"⟩, 9) := ⟨⟨by decide +kernel, by decide +kernel⟩, List.mem_of_getElem? (i := 30) (by decide +kernel), List.mem_of_getElem? (i := 754) (by decide +kernel), List.mem_of_getElem? (i := 755) (by decide +kernel)⟩
theorem lw_p10 : lw_okq (⟨"PipewrightExchange", "findFlows", "()V"⟩, 9) := ⟨⟨by decide +kernel, by decide +kernel⟩, List.mem_of_getElem? (i := 30) (by decide +kernel), List.mem_of_getElem? (i := 758) (by decide +kernel), List.mem_of_getElem? (i := 759) (by decide +kernel)⟩
theorem lw_p11 : lw_okq (⟨"PipewrightExchange$Net", "findWay", "(II)I"⟩, 7) := ⟨⟨by decide +kernel, by decide +kernel⟩, List.mem_of_getElem? (i := 64) (by decide +kernel), List.mem_of_getElem? (i := 774) (by decide +kernel), List.mem_of_getElem? (i := 775) (by decide +kernel)⟩
theorem lw_p12 : lw_okq (⟨"PipewrightExchange$Net", "flowOnWay", "(II)V"⟩, 7) := ⟨⟨by decide +kernel, by decide +kernel⟩, List.mem_of_getElem? (i := 64) (by decide +kernel), List.mem_of_getElem? (i := 778) (by decide +kernel), List.mem_of_getElem? (i := 779) (by decide +kernel)⟩
theorem lw_p13 : lw_okq (⟨"PipewrightExchange", "isNoPipe", "(I)Z"⟩, 9) := ⟨⟨by decide +kernel, by decide +kernel⟩, List.mem_of_getElem? (i := 30) (by decide +kernel), List.mem_of_getElem? (i := 793) (by decide +kernel), List.mem_of_getElem? (i := 794) (by decide +kernel)⟩
theorem lw_p14 : lw_okq (⟨"PipewrightExchange", "flowLess", "()I"⟩, 9) := ⟨⟨by decide +kernel, by decide +kernel⟩, List.mem_of_getElem? (i := 30) (by decide +kernel), List.mem_of_getElem? (i := 799) (by decide +kernel), List.mem_of_getElem? (i := 800) (by decide +kernel)⟩
theorem lw_p15 : lw_okq (⟨"PipewrightExchange", "together", "(I)I"⟩, 9) := ⟨⟨by decide +kernel, by decide +kernel⟩, List.mem_of_getElem? (i := 30) (by decide +kernel), List.mem_of_getElem? (i := 851) (by decide +kernel), List.mem_of_getElem? (i := 852) (by decide +kernel)⟩
def lw_privs_1 : List (MethodName × Nat) := [(⟨"java/lang/Throwable", "fillInStackTrace", "(I)Ljava/lang/Throwable;"⟩, 6), (⟨"java/util/ArrayList", "add", "(Ljava/lang/Object;[Ljava/lang/Object;I)V"⟩, 3), (⟨"java/util/ArrayList", "grow", "()[Ljava/lang/Object;"⟩, 3), (⟨"java/util/ArrayList", "grow", "(I)[Ljava/lang/Object;"⟩, 3), (⟨"PipewrightExchange", "isNoDistrict", "(I)Z"⟩, 9), (⟨"PipewrightExchange", "orderBids", "()V"⟩, 9), (⟨"PipewrightExchange", "bidsAheadOf", "(LPipewrightExchange$District;)I"⟩, 9), (⟨"java/util/ArrayList", "rangeCheckForAdd", "(I)V"⟩, 3), (⟨"java/util/ArrayList", "outOfBoundsMsg", "(I)Ljava/lang/String;"⟩, 3), (⟨"PipewrightExchange", "beginFlowing", "()V"⟩, 9), (⟨"PipewrightExchange", "findFlows", "()V"⟩, 9), (⟨"PipewrightExchange$Net", "findWay", "(II)I"⟩, 7), (⟨"PipewrightExchange$Net", "flowOnWay", "(II)V"⟩, 7), (⟨"PipewrightExchange", "isNoPipe", "(I)Z"⟩, 9), (⟨"PipewrightExchange", "flowLess", "()I"⟩, 9), (⟨"PipewrightExchange", "together", "(I)I"⟩, 9)]
theorem lw_r1 : ∀ q ∈ lw_privs_1, lw_okq q := List.forall_mem_cons.mpr ⟨lw_p0, List.forall_mem_cons.mpr ⟨lw_p1, List.forall_mem_cons.mpr ⟨lw_p2, List.forall_mem_cons.mpr ⟨lw_p3, List.forall_mem_cons.mpr ⟨lw_p4, List.forall_mem_cons.mpr ⟨lw_p5, List.forall_mem_cons.mpr ⟨lw_p6, List.forall_mem_cons.mpr ⟨lw_p7, List.forall_mem_cons.mpr ⟨lw_p8, List.forall_mem_cons.mpr ⟨lw_p9, List.forall_mem_cons.mpr ⟨lw_p10, List.forall_mem_cons.mpr ⟨lw_p11, List.forall_mem_cons.mpr ⟨lw_p12, List.forall_mem_cons.mpr ⟨lw_p13, List.forall_mem_cons.mpr ⟨lw_p14, List.forall_mem_cons.mpr ⟨lw_p15, fun _ h => absurd h List.not_mem_nil⟩⟩⟩⟩⟩⟩⟩⟩⟩⟩⟩⟩⟩⟩⟩⟩
theorem lw_p16 : lw_okq (⟨"PipewrightExchange", "sumGot", "()I"⟩, 9) := ⟨⟨by decide +kernel, by decide +kernel⟩, List.mem_of_getElem? (i := 30) (by decide +kernel), List.mem_of_getElem? (i := 881) (by decide +kernel), List.mem_of_getElem? (i := 882) (by decide +kernel)⟩
theorem lw_p17 : lw_okq (⟨"PipewrightExchange", "sumWater", "()I"⟩, 9) := ⟨⟨by decide +kernel, by decide +kernel⟩, List.mem_of_getElem? (i := 30) (by decide +kernel), List.mem_of_getElem? (i := 885) (by decide +kernel), List.mem_of_getElem? (i := 886) (by decide +kernel)⟩
theorem lw_p18 : lw_okq (⟨"PipewrightExchange", "sumPaidLessPaidBack", "()I"⟩, 9) := ⟨⟨by decide +kernel, by decide +kernel⟩, List.mem_of_getElem? (i := 30) (by decide +kernel), List.mem_of_getElem? (i := 889) (by decide +kernel), List.mem_of_getElem? (i := 890) (by decide +kernel)⟩
theorem lw_p19 : lw_okq (⟨"PipewrightExchangeModel", "can", "(I)Z"⟩, 35) := ⟨⟨by decide +kernel, by decide +kernel⟩, List.mem_of_getElem? (i := 893) (by decide +kernel), List.mem_of_getElem? (i := 1017) (by decide +kernel), List.mem_of_getElem? (i := 1018) (by decide +kernel)⟩
theorem lw_p20 : lw_okq (⟨"PipewrightExchangeModel", "isDistrict", "(I)Z"⟩, 35) := ⟨⟨by decide +kernel, by decide +kernel⟩, List.mem_of_getElem? (i := 893) (by decide +kernel), List.mem_of_getElem? (i := 1025) (by decide +kernel), List.mem_of_getElem? (i := 1026) (by decide +kernel)⟩
theorem lw_p21 : lw_okq (⟨"PipewrightExchangeModel", "toldNow", "()I"⟩, 35) := ⟨⟨by decide +kernel, by decide +kernel⟩, List.mem_of_getElem? (i := 893) (by decide +kernel), List.mem_of_getElem? (i := 1041) (by decide +kernel), List.mem_of_getElem? (i := 1042) (by decide +kernel)⟩
theorem lw_p22 : lw_okq (⟨"PipewrightExchangeModel", "begins", "()V"⟩, 35) := ⟨⟨by decide +kernel, by decide +kernel⟩, List.mem_of_getElem? (i := 893) (by decide +kernel), List.mem_of_getElem? (i := 1049) (by decide +kernel), List.mem_of_getElem? (i := 1050) (by decide +kernel)⟩
theorem lw_p23 : lw_okq (⟨"PipewrightExchangeModel", "settles", "()V"⟩, 35) := ⟨⟨by decide +kernel, by decide +kernel⟩, List.mem_of_getElem? (i := 893) (by decide +kernel), List.mem_of_getElem? (i := 1053) (by decide +kernel), List.mem_of_getElem? (i := 1054) (by decide +kernel)⟩
theorem lw_p24 : lw_okq (⟨"PipewrightExchangeModel", "dries", "()V"⟩, 35) := ⟨⟨by decide +kernel, by decide +kernel⟩, List.mem_of_getElem? (i := 893) (by decide +kernel), List.mem_of_getElem? (i := 1057) (by decide +kernel), List.mem_of_getElem? (i := 1058) (by decide +kernel)⟩
theorem lw_p25 : lw_okq (⟨"PipewrightExchangeModel", "standing", "()I"⟩, 35) := ⟨⟨by decide +kernel, by decide +kernel⟩, List.mem_of_getElem? (i := 893) (by decide +kernel), List.mem_of_getElem? (i := 1061) (by decide +kernel), List.mem_of_getElem? (i := 1062) (by decide +kernel)⟩
theorem lw_p26 : lw_okq (⟨"PipewrightExchangeModel", "at", "(I)I"⟩, 35) := ⟨⟨by decide +kernel, by decide +kernel⟩, List.mem_of_getElem? (i := 893) (by decide +kernel), List.mem_of_getElem? (i := 1065) (by decide +kernel), List.mem_of_getElem? (i := 1066) (by decide +kernel)⟩
theorem lw_p27 : lw_okq (⟨"PipewrightExchangeModel", "placeOf", "(I)I"⟩, 35) := ⟨⟨by decide +kernel, by decide +kernel⟩, List.mem_of_getElem? (i := 893) (by decide +kernel), List.mem_of_getElem? (i := 1069) (by decide +kernel), List.mem_of_getElem? (i := 1070) (by decide +kernel)⟩
theorem lw_p28 : lw_okq (⟨"PipewrightExchangeModel", "isAhead", "(II)Z"⟩, 35) := ⟨⟨by decide +kernel, by decide +kernel⟩, List.mem_of_getElem? (i := 893) (by decide +kernel), List.mem_of_getElem? (i := 1073) (by decide +kernel), List.mem_of_getElem? (i := 1074) (by decide +kernel)⟩
theorem lw_p29 : lw_okq (⟨"PipewrightExchangeModel", "flows", "(II)I"⟩, 35) := ⟨⟨by decide +kernel, by decide +kernel⟩, List.mem_of_getElem? (i := 893) (by decide +kernel), List.mem_of_getElem? (i := 1077) (by decide +kernel), List.mem_of_getElem? (i := 1078) (by decide +kernel)⟩
theorem lw_p30 : lw_okq (⟨"PipewrightExchangeModel", "finds", "(I)Z"⟩, 35) := ⟨⟨by decide +kernel, by decide +kernel⟩, List.mem_of_getElem? (i := 893) (by decide +kernel), List.mem_of_getElem? (i := 1081) (by decide +kernel), List.mem_of_getElem? (i := 1082) (by decide +kernel)⟩
theorem lw_p31 : lw_okq (⟨"PipewrightExchangeModel", "room", "(IZ)I"⟩, 35) := ⟨⟨by decide +kernel, by decide +kernel⟩, List.mem_of_getElem? (i := 893) (by decide +kernel), List.mem_of_getElem? (i := 1085) (by decide +kernel), List.mem_of_getElem? (i := 1086) (by decide +kernel)⟩
def lw_privs_2 : List (MethodName × Nat) := [(⟨"PipewrightExchange", "sumGot", "()I"⟩, 9), (⟨"PipewrightExchange", "sumWater", "()I"⟩, 9), (⟨"PipewrightExchange", "sumPaidLessPaidBack", "()I"⟩, 9), (⟨"PipewrightExchangeModel", "can", "(I)Z"⟩, 35), (⟨"PipewrightExchangeModel", "isDistrict", "(I)Z"⟩, 35), (⟨"PipewrightExchangeModel", "toldNow", "()I"⟩, 35), (⟨"PipewrightExchangeModel", "begins", "()V"⟩, 35), (⟨"PipewrightExchangeModel", "settles", "()V"⟩, 35), (⟨"PipewrightExchangeModel", "dries", "()V"⟩, 35), (⟨"PipewrightExchangeModel", "standing", "()I"⟩, 35), (⟨"PipewrightExchangeModel", "at", "(I)I"⟩, 35), (⟨"PipewrightExchangeModel", "placeOf", "(I)I"⟩, 35), (⟨"PipewrightExchangeModel", "isAhead", "(II)Z"⟩, 35), (⟨"PipewrightExchangeModel", "flows", "(II)I"⟩, 35), (⟨"PipewrightExchangeModel", "finds", "(I)Z"⟩, 35), (⟨"PipewrightExchangeModel", "room", "(IZ)I"⟩, 35)]
theorem lw_r2 : ∀ q ∈ lw_privs_2, lw_okq q := List.forall_mem_cons.mpr ⟨lw_p16, List.forall_mem_cons.mpr ⟨lw_p17, List.forall_mem_cons.mpr ⟨lw_p18, List.forall_mem_cons.mpr ⟨lw_p19, List.forall_mem_cons.mpr ⟨lw_p20, List.forall_mem_cons.mpr ⟨lw_p21, List.forall_mem_cons.mpr ⟨lw_p22, List.forall_mem_cons.mpr ⟨lw_p23, List.forall_mem_cons.mpr ⟨lw_p24, List.forall_mem_cons.mpr ⟨lw_p25, List.forall_mem_cons.mpr ⟨lw_p26, List.forall_mem_cons.mpr ⟨lw_p27, List.forall_mem_cons.mpr ⟨lw_p28, List.forall_mem_cons.mpr ⟨lw_p29, List.forall_mem_cons.mpr ⟨lw_p30, List.forall_mem_cons.mpr ⟨lw_p31, fun _ h => absurd h List.not_mem_nil⟩⟩⟩⟩⟩⟩⟩⟩⟩⟩⟩⟩⟩⟩⟩⟩
theorem lw_p32 : lw_okq (⟨"PipewrightExchangeModel", "before", "(I)I"⟩, 35) := ⟨⟨by decide +kernel, by decide +kernel⟩, List.mem_of_getElem? (i := 893) (by decide +kernel), List.mem_of_getElem? (i := 1092) (by decide +kernel), List.mem_of_getElem? (i := 1093) (by decide +kernel)⟩
theorem lw_p33 : lw_okq (⟨"PipewrightExchangeModel", "isPipe", "(I)Z"⟩, 35) := ⟨⟨by decide +kernel, by decide +kernel⟩, List.mem_of_getElem? (i := 893) (by decide +kernel), List.mem_of_getElem? (i := 1100) (by decide +kernel), List.mem_of_getElem? (i := 1101) (by decide +kernel)⟩
theorem lw_p34 : lw_okq (⟨"PipewrightExchangeModel", "burstPipes", "()I"⟩, 35) := ⟨⟨by decide +kernel, by decide +kernel⟩, List.mem_of_getElem? (i := 893) (by decide +kernel), List.mem_of_getElem? (i := 1140) (by decide +kernel), List.mem_of_getElem? (i := 1141) (by decide +kernel)⟩
theorem lw_p35 : lw_okq (⟨"PipewrightExchangeModel", "sum", "([I)I"⟩, 35) := ⟨⟨by decide +kernel, by decide +kernel⟩, List.mem_of_getElem? (i := 893) (by decide +kernel), List.mem_of_getElem? (i := 1144) (by decide +kernel), List.mem_of_getElem? (i := 1145) (by decide +kernel)⟩
def lw_privs_3 : List (MethodName × Nat) := [(⟨"PipewrightExchangeModel", "before", "(I)I"⟩, 35), (⟨"PipewrightExchangeModel", "isPipe", "(I)Z"⟩, 35), (⟨"PipewrightExchangeModel", "burstPipes", "()I"⟩, 35), (⟨"PipewrightExchangeModel", "sum", "([I)I"⟩, 35)]
theorem lw_r3 : ∀ q ∈ lw_privs_3, lw_okq q := List.forall_mem_cons.mpr ⟨lw_p32, List.forall_mem_cons.mpr ⟨lw_p33, List.forall_mem_cons.mpr ⟨lw_p34, List.forall_mem_cons.mpr ⟨lw_p35, fun _ h => absurd h List.not_mem_nil⟩⟩⟩⟩
def lw_privs : List (MethodName × Nat) := lw_privs_1 ++ (lw_privs_2 ++ (lw_privs_3))
def lw_tbl : List Cond := k2_sels lw_privs ++ tables_1
theorem lw_privs_ok : ∀ q ∈ lw_privs, lw_okq q := by
  show ∀ q ∈ lw_privs_1 ++ (lw_privs_2 ++ (lw_privs_3)), lw_okq q
  exact List.forall_mem_append.mpr ⟨lw_r1, List.forall_mem_append.mpr ⟨lw_r2, lw_r3⟩⟩
end
section
/-- the class of arrays over an array of ty: the word that the printed laws name but don't define -/
def va_AOA (ty : FieldType) (U : State) : Prop := (Cond.arrayOver (.array ty)).before #[] U = true
theorem va_AOA.use {ty : FieldType} {A : Array Value} {U : State} (h : va_AOA ty U) : (Cond.arrayOver (.array ty)).before A U = true := h
theorem va_AOA.of {ty : FieldType} {A : Array Value} {U : State} (h : (Cond.arrayOver (.array ty)).before A U = true) : va_AOA ty U := h
/-! ===== BEGIN words of one list among another's, by their places ===== -/
theorem goodIn_r {big : List Cond} (ws : List Cond) (ps : List Nat) (hp : ws = ps.filterMap (fun i => big[i]?)) (h : ws.all goodWord = true) : GoodIn big ws := by
  intro w hw
  have h1 := List.all_eq_true.mp h w hw
  rw [hp] at hw
  obtain ⟨i, -, hi⟩ := List.mem_filterMap.mp hw
  have hm : w ∈ big := by first | exact List.mem_of_getElem? hi | exact List.getElem?_mem hi
  exact ⟨hm, good_of_word h1⟩
theorem goodIn_app {big a b : List Cond} (ha : GoodIn big a) (hb : GoodIn big b) : GoodIn big (a ++ b) := fun w h => (List.mem_append.mp h).elim (ha w) (hb w)
theorem goodIn_ca {big a b : List Cond} {c : Cond} (ha : GoodIn big (c :: a)) (hb : GoodIn big b) : GoodIn big (c :: (a ++ b)) := fun w h => (List.mem_cons.mp h).elim (fun e => ha w (List.mem_cons.mpr (Or.inl e))) (fun h => (List.mem_append.mp h).elim (fun h => ha w (List.mem_cons.mpr (Or.inr h))) (hb w))
theorem goodIn_sub {big ws : List Cond} (hm : ∀ w ∈ ws, w ∈ big) (h : ws.all goodWord = true) : GoodIn big ws := fun w hw => ⟨hm w hw, good_of_word (List.all_eq_true.mp h w hw)⟩
/-! ===== END ===== -/

/-! ===== BEGIN new T[n][m]: the outer array a place, the inner ones among the pooled ===== -/
/-- f, but v at every address of l -/
def vr_up {α : Type} (f : Nat → α) (l : List Nat) (v : α) : Nat → α := fun a => if a ∈ l then v else f a
theorem vr_up_in {α : Type} {f : Nat → α} {l : List Nat} {v : α} {a : Nat} (h : a ∈ l) : vr_up f l v a = v := if_pos h
theorem vr_up_ne {α : Type} {f : Nat → α} {l : List Nat} {v : α} {a : Nat} (h : a ∉ l) : vr_up f l v a = f a := if_neg h
theorem vr_rows {L l : List Nat} {f : Nat → va_E} {e : va_E} (h : ∀ a, a ∈ l → a ∉ L) : va_pl L f ++ l.map (fun a => (a, e)) = va_pl (L ++ l) (vr_up f l e) := by
  unfold va_pl
  rw [List.map_append]
  congr 1
  · apply List.map_congr_left
    intro a ha
    rw [vr_up_ne (fun q => h a q ha)]
  · apply List.map_congr_left
    intro a ha
    rw [vr_up_in ha]
theorem vr_lay {X rows : va_W} {x : Nat × va_E} {pl : va_W} {D : va_G} {cl : List vw_C} {H : Heap} (hP : va_P D cl (((X ++ pl) ++ [x]) ++ rows) H) : va_P D cl ((X ++ [x]) ++ (pl ++ rows)) H := by
  rw [List.append_assoc (X ++ pl)] at hP
  have h := va_P.swap hP
  rw [← List.append_assoc X] at h
  have h2 := va_P.swap h
  rw [List.append_assoc (X ++ [x])] at h2
  exact h2
theorem vr_layD {X rows : va_W} {x : Nat × va_E} {pl : va_W} {A : Nat → Prop} (hD : va_D A (((X ++ pl) ++ [x]) ++ rows)) : va_D A ((X ++ [x]) ++ (pl ++ rows)) := by
  rw [List.append_assoc (X ++ pl)] at hD
  have h := va_D.swap hD
  rw [← List.append_assoc X] at h
  have h2 := va_D.swap h
  rw [List.append_assoc (X ++ [x])] at h2
  exact h2
theorem vr_outer (c : ClassId) (N h0 : Nat) : ∀ i : Nat, Jvm.Free.Multi.outerC c N h0 i = arrV c N (fun j => va_rf (if j < i then some (h0 + 1 + j) else none))
  | 0 => by
    show ({ cls := c, slots := Array.replicate N .null, vm := .none } : Cell) = _
    rw [arrV_new]
    refine congrArg (arrV c N) (funext fun j => ?_)
    simp [va_rf]
  | i + 1 => by
    show (Jvm.Free.Multi.outerC c N h0 i).setSlot i (.ref (h0 + 1 + i)) = _
    rw [vr_outer c N h0 i, arrV_store]
    refine congrArg (arrV c N) (funext fun j => ?_)
    by_cases e : j = i
    · subst e
      simp [updV, va_rf]
    · by_cases h : j < i
      · simp [updV, e, h, Nat.lt_succ_of_lt h]
      · simp [updV, e, h, show ¬ j < i + 1 by omega]
section VGM
variable {p : Program} {l : Launch} {e : Env} {R : Room} {s : State} {m : MethodId} {args : Array Value} {below : List Frame} {meth : Method} {c : Code} {H : Heap} {locs : List Loc} {cells slots : Nat} {Q : State → Prop}
variable {cc : ByteArray} {pc : Nat} {ls : Array Slot} {rest : List Value} {D : va_G} {cl : List vw_C} {A : Nat → Prop} {a : Nat} {tys : List (ClassId × FieldType)} {ws : va_W} {H0 : Heap}
theorem va_mna {X : va_W} {L : List Nat} {f : Nat → va_E} {cc : ByteArray} (hexec : p.tables.exec = Jvm.exec) (hb : c.code = cc) {own : String} {index : Nat} {ty : FieldType} {cy : ClassId} (hown : s.vm.findClass own = some m.cls) (hclink : (Cond.classLink own index ("[" ++ (FieldType.array ty).toString)).before args s = true) (hover : va_AOA ty s) (harr : (Cond.arrayClass ty).before args s = true) (hcy : s.vm.findClass (FieldType.array ty).toString = some cy)
    (hK : va_K D cl tys s) (hP : va_P D cl (X ++ va_pl L f) H) (hD : va_D A (X ++ va_pl L f)) (hS : va_S A H0 H locs) (hA : ∀ q, H0.size ≤ q → A q) {n k : Int32} {N' K' : Nat} {z : vp_A} (hn : ¬ n < 0) (hk : ¬ k < 0) (hN : n.toNatClampNeg = N') (hM : k.toNatClampNeg = K')
    (hb1 : N' * 4 ≤ 536870912) (hb2 : K' * componentBytes ty ≤ 536870912) (hb3 : K' ≤ 536870912) (hdf : fits ty (defaultValue ty) = true) (hdd : (defaultValue ty).isDefault = true) (hcells : cells + (1 + N') ≤ R.cells) (hslots : slots + (N' + N' * K') ≤ R.slots) (hz : ∀ c : ClassId, Jvm.Free.Multi.innerC c K' (defaultValue ty) = vp_cell c z) (hdg : decode cc pc = .ok (.multianewarray index 2, 4))
    (kk : ∀ (q : Nat) (r : Nat → Nat) (cA : ClassId) (H1 : Heap), (∀ i j : Nat, i < N' → j < N' → r i = r j → i = j) → (∀ i : Nat, i < N' → r i ∉ L) → va_K D cl (tys ++ [(cA, .array ty)]) s →
      va_P D cl ((X ++ [(q, .inl (cA, N', .inr (.inr (.inr (.inr (fun i => if i < N' then some (r i) else none))))))]) ++ va_pl (L ++ (List.range N').map r) (vr_up f ((List.range N').map r) (.inl (cy, z)))) H1 → va_D A ((X ++ [(q, .inl (cA, N', .inr (.inr (.inr (.inr (fun i => if i < N' then some (r i) else none))))))]) ++ va_pl (L ++ (List.range N').map r) (vr_up f ((List.range N').map r) (.inl (cy, z)))) → va_S A H0 H1 locs →
      W p l e R s m args below meth c H1 locs (cells + 1 + N') (slots + N' + N' * K') Q (F0 m (pc + 4) ls (.ref q :: rest))) : W p l e R s m args below meth c H locs cells slots Q (F0 m pc ls (.int k :: .int n :: rest)) := by
  subst hN
  subst hM
  intro T hT Xs
  obtain ⟨vm₁, cA, comp, -, fA, fC, hO, -, X', step⟩ := Xs.multianewarray2F hexec hown hclink (va_AOA.use hover) harr (g := F0 m pc ls (.int k :: .int n :: rest)) rfl (by rw [hb]; exact hdg) rfl hn hk hb1 hb2 hb3 hdf hdd hcells hslots
  have ec : some cy = some comp := hcy.symm.trans fC
  cases ec
  generalize hF : Jvm.Free.Multi.fill (T.setVm vm₁) cA cy n.toNatClampNeg k.toNatClampNeg (defaultValue ty) n.toNatClampNeg = F at X' step
  have hTh : (T.setVm vm₁).heap = H := hT
  obtain ⟨f1, f2, -, -⟩ := Jvm.Free.Multi.fill_facts (T.setVm vm₁) cA cy n.toNatClampNeg k.toNatClampNeg (defaultValue ty) n.toNatClampNeg
  rw [hF, hTh] at f1 f2
  have hold : ∀ x : Nat, x < H.size → F.heap[x]? = H[x]? := fun x hx => by
    have := Jvm.Free.Multi.fill_old (T.setVm vm₁) cA cy n.toNatClampNeg k.toNatClampNeg (defaultValue ty) (a := x) (by rw [hTh]; exact hx) n.toNatClampNeg
    rw [hF, hTh] at this
    exact this
  have hrow : ∀ j : Nat, j < n.toNatClampNeg → F.heap[H.size + 1 + j]? = some (vp_cell cy z) := fun j hj => by
    have := Jvm.Free.Multi.fill_inner (T.setVm vm₁) cA cy n.toNatClampNeg k.toNatClampNeg (defaultValue ty) n.toNatClampNeg j hj
    rw [hF, hTh, hz] at this
    exact this
  have hout : Jvm.Free.Multi.outerC cA n.toNatClampNeg H.size n.toNatClampNeg = vp_cell cA (n.toNatClampNeg, .inr (.inr (.inr (.inr (fun i => if i < n.toNatClampNeg then some (H.size + 1 + i) else none))))) := by
    rw [vp_cell_q]
    exact vr_outer cA n.toNatClampNeg H.size n.toNatClampNeg
  rw [hout] at f2
  have hlt : ∀ a, a ∈ L → a < H.size := fun a ha => by
    obtain ⟨k9, hk9⟩ := va_pl_get (X := X) (f := f) ha
    exact (hP k9 _ hk9).lt
  have hnl : ∀ i : Nat, i < n.toNatClampNeg → H.size + 1 + i ∉ L := fun i _ h => by
    have := hlt _ h
    omega
  have hnm : ∀ a, a ∈ (List.range n.toNatClampNeg).map (fun i => H.size + 1 + i) → a ∉ L := fun a ha h => by
    obtain ⟨i, -, rfl⟩ := List.mem_map.mp ha
    have := hlt _ h
    omega
  have hP0 : va_P D cl (X ++ va_pl L f) F.heap := hP.kept (fun k9 x hx => hold x.1 ((hP k9 x hx).lt))
  have hP1 : va_P D cl ((X ++ va_pl L f) ++ [(H.size, .inl (cA, n.toNatClampNeg, .inr (.inr (.inr (.inr (fun i => if i < n.toNatClampNeg then some (H.size + 1 + i) else none))))))]) F.heap := hP0.app (fun k9 x hx => by
    have h0 : k9 < 1 := (List.getElem?_eq_some_iff.mp hx).1
    rw [show k9 = 0 by omega] at hx
    cases hx
    exact f2)
  have hP2 : va_P D cl (((X ++ va_pl L f) ++ [(H.size, .inl (cA, n.toNatClampNeg, .inr (.inr (.inr (.inr (fun i => if i < n.toNatClampNeg then some (H.size + 1 + i) else none))))))]) ++ ((List.range n.toNatClampNeg).map (fun i => H.size + 1 + i)).map (fun a => (a, .inl (cy, z)))) F.heap := hP1.app (fun k9 x hx => by
    obtain ⟨a, ha, rfl⟩ := List.mem_map.mp (List.mem_of_getElem? hx)
    obtain ⟨i, hi, rfl⟩ := List.mem_map.mp ha
    exact hrow i (List.mem_range.mp hi))
  have hD2 : va_D A (((X ++ va_pl L f) ++ [(H.size, .inl (cA, n.toNatClampNeg, .inr (.inr (.inr (.inr (fun i => if i < n.toNatClampNeg then some (H.size + 1 + i) else none))))))]) ++ ((List.range n.toNatClampNeg).map (fun i => H.size + 1 + i)).map (fun a => (a, .inl (cy, z)))) := by
    have hD1 := hD.push (e := .inl (cA, n.toNatClampNeg, .inr (.inr (.inr (.inr (fun i => if i < n.toNatClampNeg then some (H.size + 1 + i) else none)))))) hP rfl (hA _ hS.1)
    generalize hW1 : (X ++ va_pl L f) ++ [(H.size, .inl (cA, n.toNatClampNeg, .inr (.inr (.inr (.inr (fun i => if i < n.toNatClampNeg then some (H.size + 1 + i) else none))))))] = W1 at hD1 hP1 ⊢
    have hle : ∀ (k9 : Nat) (x : Nat × va_E), W1[k9]? = some x → x.1 ≤ H.size := fun k9 x hx => by
      rw [← hW1] at hx
      by_cases hl : k9 < (X ++ va_pl L f).length
      · rw [List.getElem?_append_left hl] at hx
        exact Nat.le_of_lt ((hP k9 x hx).lt)
      · rw [List.getElem?_append_right (by omega)] at hx
        have h0 : k9 - (X ++ va_pl L f).length < 1 := (List.getElem?_eq_some_iff.mp hx).1
        rw [show k9 - (X ++ va_pl L f).length = 0 by omega] at hx
        cases hx
        exact Nat.le_refl _
    have hr : ∀ (k9 : Nat) (x : Nat × va_E), (((List.range n.toNatClampNeg).map (fun i => H.size + 1 + i)).map (fun a => ((a, .inl (cy, z)) : Nat × va_E)))[k9]? = some x → x.1 = H.size + 1 + k9 := fun k9 x hx => by
      rw [List.getElem?_map, List.getElem?_map] at hx
      by_cases h9 : k9 < n.toNatClampNeg
      · rw [List.getElem?_range h9] at hx
        cases hx
        rfl
      · have hn0 : (List.range n.toNatClampNeg)[k9]? = none := List.getElem?_eq_none (by rw [List.length_range]; omega)
        rw [hn0] at hx
        cases hx
    refine ⟨fun i j x y hi hj hxy => ?_, fun k9 x hx => ?_⟩
    · by_cases h1 : i < W1.length <;> by_cases h2 : j < W1.length
      · rw [List.getElem?_append_left h1] at hi
        rw [List.getElem?_append_left h2] at hj
        exact hD1.1 i j x y hi hj hxy
      · rw [List.getElem?_append_left h1] at hi
        rw [List.getElem?_append_right (by omega)] at hj
        have := hle _ _ hi
        have := hr _ _ hj
        omega
      · rw [List.getElem?_append_right (by omega)] at hi
        rw [List.getElem?_append_left h2] at hj
        have := hle _ _ hj
        have := hr _ _ hi
        omega
      · rw [List.getElem?_append_right (by omega)] at hi hj
        have := hr _ _ hi
        have := hr _ _ hj
        omega
    · by_cases h1 : k9 < W1.length
      · rw [List.getElem?_append_left h1] at hx
        exact hD1.2 k9 x hx
      · rw [List.getElem?_append_right (by omega)] at hx
        have := hr _ _ hx
        exact hA _ (by have := hS.1; omega)
  have hAr : ArrOfT s cA (.array ty) := fun N9 z9 => by
    obtain ⟨-, k9, hk9, cm9, hkk9⟩ := (hO 0 0 0).1
    exact ⟨(fun q hq => by cases hq), k9, hk9, cm9, hkk9⟩
  have hK2 : va_K D cl (tys ++ [(cA, .array ty)]) s := ⟨hK.1, fun k9 x hx => by
    by_cases hl : k9 < tys.length
    · rw [List.getElem?_append_left hl] at hx
      exact hK.2 k9 x hx
    · rw [List.getElem?_append_right (by omega)] at hx
      have h0 : k9 - tys.length < 1 := (List.getElem?_eq_some_iff.mp hx).1
      rw [show k9 - tys.length = 0 by omega] at hx
      cases hx
      exact ⟨hAr, fA⟩⟩
  obtain ⟨t, a1, b1⟩ := kk H.size (fun i => H.size + 1 + i) cA F.heap (fun i j _ _ h => by have h9 : H.size + 1 + i = H.size + 1 + j := h; omega) hnl hK2 (by rw [← vr_rows hnm]; exact vr_lay hP2) (by rw [← vr_rows hnm]; exact vr_layD hD2) ⟨by rw [f1]; have := hS.1; omega, fun x h1 h2 => (hold x (Nat.lt_of_lt_of_le h1 hS.1)).trans (hS.2.1 x h1 h2), hS.2.2⟩ F rfl X'
  refine ⟨t, step t ?_, b1⟩
  have e : T.heap.size = H.size := by rw [hT]
  rw [e]
  exact a1
end VGM
/-! ===== END ===== -/

/-! ===== BEGIN exceptions that leave a method, and their catching by the caller (launches without stack traces) ===== -/
section VXA
/-! The laws vx_back, vx_callV, vx_callS, vx_callSW, vx_throw0, vx_throwS follow proofs of the library, with one case more: JvmDerived/Free/Laws.lean (Back.of_free), Shelf42/LK1.lean (callV, callS), Shelf/KitTraced.lean (throwNew0V, throwNewS). -/
/-- where a method has thrown q: the class by its name, the cell, what was written, the world -/
def vx_T (XC : String → State → State → Prop) (st : State) (q : Addr) (t : State) (mc ms : Nat) (free : Addr → Prop) : Prop :=
  ∃ (E : String) (ce : Cell) (L : List Loc), XC E st t ∧ t.heap[q]? = some ce ∧ ce.vm = .none ∧ st.vm.findClass E = some ce.cls ∧ st.WarmedH t.vm ∧ st.sameButNew ({ t with vm := st.vm } : State) L mc ms ∧ ∀ z ∈ L, free z.base
def vx_Q (Qc : Array Value → State → Outcome → State → Prop) (XC : String → State → State → Prop) (mc ms : Nat) (free : Addr → Prop) : Array Value → State → Outcome → State → Prop := fun a st o t =>
  (Qc a st o t ∧ ∃ L, FrameEnd st o t L mc ms ∧ ∀ q ∈ L, free q.base) ∨ ∃ q, o = .threw q ∧ vx_T XC st q t mc ms free
/-- a callee that returns or throws -/
def vx_Met (l : Launch) (y : MethodName) (ws : List Cond) (rm : Room) (Pc : Array Value → State → Prop) (Qc : Array Value → State → Outcome → State → Prop) (XC : String → State → State → Prop) (mc ms : Nat) (free : Addr → Prop) : Prop :=
  MetFree l y (headSpec ws rm) Pc (fun _ _ _ _ _ => True) (vx_Q Qc XC mc ms free)
def vx_Post (XC : String → State → State → Prop) (mc ms : Nat) (free : Addr → Prop) : Pt → Array Value → Addr → Pt → Prop := fun A a q B =>
  ∃ (g : JFrame) (mk : MethodId) (t : State) (L : List Loc) (E : String) (ce : Cell), B.U.heap = t.heap ∧ B.U.vm = t.vm ∧ XC E (A.U.calling g mk a) t ∧ t.heap[q]? = some ce ∧ ce.vm = .none ∧ A.U.vm.findClass E = some ce.cls ∧ B.locs = A.locs ++ L ∧ (∀ z ∈ L, free z.base) ∧ B.cells = A.cells + mc ∧ B.slots = A.slots + ms
def vx_Back (l : Launch) (R : Room) (p : Program) (e : Env) (below : List Frame) (s : State) (sargs : Array Value) (y : MethodName) (len W9 : Nat)
    (Pre : Pt → Array Value → Prop) (Post : Pt → Array Value → Option Value → Pt → Prop) (PostX : Pt → Array Value → Addr → Pt → Prop) : Prop :=
  ∀ (m : MethodId) (meth : Method) (c : Code) (A : Pt) (g : JFrame) (ig : Instr) (mk : MethodId) (a : Array Value),
    Stand p l e R s m sargs below meth c A.U A.locs A.cells A.slots → g.method = m → g.locals.size = c.maxLocals → decode c.code g.pc = .ok (ig, len) →
    2 * g.monitorRoom + (g.stack.map fun v => v.category).sum ≤ W9 → A.U.methodNamed? y = some mk → Pre A a →
    (∃ (v : Option Value) (B : Pt), Stand p l e R s m sargs below meth c B.U B.locs B.cells B.slots ∧ Post A a v B ∧
      Steps p.tables e below (doInvoke e (A.U.setTop g) [] mk a).1 (B.U.setTop { g with pc := g.pc + len, stack := v.toList ++ g.stack })) ∨
    (∃ (q : Addr) (B : Pt), Stand p l e R s m sargs below meth c B.U B.locs B.cells B.slots ∧ PostX A a q B ∧
      Steps p.tables e below (doInvoke e (A.U.setTop g) [] mk a).1 ((B.U.setTop g).pushFrame (.throwing q)))
section Payer
variable {l : Launch} {R : Room} {p : Program} {e : Env} {below : List Frame} {s : State} {sargs : Array Value} {y : MethodName} {len W9 : Nat}
theorem vx_back {ws : List Cond} {rm : Room} {Pc : Array Value → State → Prop} {Qc : Array Value → State → Outcome → State → Prop} {XC : String → State → State → Prop} {mc ms : Nat} {free : Addr → Prop} {bytes : ByteArray} {maxL : Nat} {ret : Option FieldType}
    (hM : vx_Met l y ws rm Pc Qc XC mc ms free) (hblind : FrameBlind Pc) (hrc : rm.cells = mc) (hrs : rm.slots = ms)
    (hframes : rm.frames + 1 ≤ R.frames) (hlocals : W9 + (maxL + 11) + rm.locals ≤ R.locals)
    (hws : ∀ w ∈ ws, ∀ a' U, s.WarmedH U.vm → w.before a' U = true) (hcode : Cond.code y bytes maxL ret ∈ ws) (hinit : ∀ a' U, s.WarmedH U.vm → (Cond.initialized y.cls).before a' U = true) :
    vx_Back l R p e below s sargs y len W9 (PreOf R mc ms Pc) (PostOf Qc mc ms free) (vx_Post XC mc ms free) := by
  intro m meth c A g ig mk a X hg hsize hdg hW hn hp
  have h1 : (headSpec ws rm).pre.before a A.U = true := atoms_intro fun w hw => hws w hw _ _ X.warmed
  have h2 : (Cond.code y bytes maxL ret).before a A.U = true := hws _ hcode _ _ X.warmed
  have h3 : (Cond.initialized y.cls).before a A.U = true := hinit _ _ X.warmed
  have h4 : A.cells + (headSpec ws rm).room.cells ≤ R.cells := by rw [show (headSpec ws rm).room.cells = mc from hrc]; exact hp.1
  have h5 : A.slots + (headSpec ws rm).room.slots ≤ R.slots := by rw [show (headSpec ws rm).room.slots = ms from hrs]; exact hp.2.1
  have hPc : Pc a (A.U.calling g mk a) := hblind _ _ _ _ hp.2.2
  obtain ⟨U, Ls, c0, s0⟩ := A
  dsimp only [Pt.U, Pt.locs, Pt.cells, Pt.slots] at h1 h2 h3 h4 h5 X hn hPc ⊢
  obtain ⟨methY, cY, hmY, hcY, -, hlY, -, -, -, -⟩ := Cond.code_spec hn h2
  obtain ⟨kY, hkY, -⟩ := className_of_methodNamed hn
  have hinitY : kY.init = .initialized := Cond.initialized_spec (findClass_of_methodNamed hn) hkY h3
  have h : At U g.method c below := by rw [hg]; exact X.here
  have hlocals9 : W9 + (maxL + 11) + (headSpec ws rm).room.locals ≤ R.locals := hlocals
  have happ : (headSpec ws rm).appliesLoose y e.platform (U.calling g mk a) = true :=
    Spec.appliesLoose_calling (g := g) h hdg hn hkY hinitY
      (X.room_calling (g := g) (R' := (headSpec ws rm).room) hsize hmY hcY hframes (by rw [hlY]; omega) h4 h5) h1
  obtain ⟨mid, hmid⟩ := h.above
  have hfr : (U.setTop g).frames = (.java g :: mid) ++ below := by rw [State.frames_setTop' g h.top, hmid]; rfl
  obtain ⟨o, s₂, hsteps, -, hend, hq⟩ := Steps.callFree hM p X.admits X.cas X.clock (acts := []) hfr happ hPc trivial
  have hq' : vx_Q Qc XC mc ms free a (U.calling g mk a) o s₂ := hq
  rw [State.frames_setTop' g h.top] at hend
  obtain ⟨g₀, hg0⟩ := Option.isSome_iff_exists.mp h.top
  obtain ⟨r, hr⟩ := State.topJava?_eq_some.mp hg0
  have hr' : (({ U with heap := s₂.heap, slotsUsed := s₂.slotsUsed } : State).setVm s₂.vm).frames = .java g₀ :: r := hr
  rcases hq' with ⟨hqc, L, hfe, hL⟩ | ⟨q, rfl, E, ce, L, hx, hce, hcv, hcl, hW₂, hsm, hL⟩
  · obtain ⟨⟨v, rfl⟩, hW₂, e2, q2, q3, q4, q5, q6⟩ := id hfe
    have e3 : s₂ = ({ (U.calling g mk a).setFrames s₂.frames with heap := s₂.heap, slotsUsed := s₂.slotsUsed } : State).setVm s₂.vm := by
      have : s₂ = ({ s₂ with vm := (U.calling g mk a).vm } : State).setVm s₂.vm := rfl
      rw [e2] at this
      exact this
    obtain ⟨c₂, i₂, len₂, hc₂, hd₂, hf₂⟩ := hend
    have hW' : U.WarmedH s₂.vm := hW₂
    have hcc : c₂ = c := by
      have h1 : s₂.code? g.method = U.code? g.method := by
        rw [State.code?_eq, State.code?_eq, hW'.alike.method?]
      exact Option.some.inj (hc₂.symm.trans (h1.trans h.code))
    subst hcc
    have hlen : len₂ = len := by rw [hdg] at hd₂; cases hd₂; rfl
    subst hlen
    have hs₂ : s₂ = (({ U with heap := s₂.heap, slotsUsed := s₂.slotsUsed } : State).setVm s₂.vm).setTop { g with pc := g.pc + len₂, stack := v.toList ++ g.stack } := by
      refine e3.trans ?_
      rw [hf₂, State.calling_eq h.top, State.setFrames_setFrames, State.setTop_of_frames _ hr', hr]
      rfl
    have hsame : U.sameButNew ({ U with heap := s₂.heap, slotsUsed := s₂.slotsUsed } : State) L mc ms := by
      refine ⟨?_, q2, q3, q4, q5, q6⟩
      obtain ⟨t, ht, -⟩ := State.frames_cons hr
      show ({ U with heap := s₂.heap, slotsUsed := s₂.slotsUsed } : State) = { U.setFrames U.frames with heap := s₂.heap, slotsUsed := s₂.slotsUsed }
      rw [State.setFrames_self ht]
    subst hg
    refine Or.inl ⟨v, ⟨(({ U with heap := s₂.heap, slotsUsed := s₂.slotsUsed } : State).setVm s₂.vm), Ls ++ L, c0 + mc, s0 + ms⟩,
      ⟨X.admits, X.cas, X.clock, X.frames, X.room, X.hears, X.method, X.code, (X.here.setHeapUsed s₂.heap s₂.slotsUsed).setVm hW'.alike, X.tail, State.WarmedH.trans X.warmed hW', X.limits, X.bytes, X.same.trans (hsame.setVm s.vm)⟩,
      ⟨g, mk, s₂, L, rfl, rfl, hqc, rfl, hL, rfl, rfl⟩, ?_⟩
    show Steps p.tables e below _ ((({ U with heap := s₂.heap, slotsUsed := s₂.slotsUsed } : State).setVm s₂.vm).setTop { g with pc := g.pc + len₂, stack := v.toList ++ g.stack })
    rw [← hs₂]
    exact hsteps
  · obtain ⟨e2, q2, q3, q4, q5, q6⟩ := id hsm
    have e3 : s₂ = ({ (U.calling g mk a).setFrames s₂.frames with heap := s₂.heap, slotsUsed := s₂.slotsUsed } : State).setVm s₂.vm := by
      have : s₂ = ({ s₂ with vm := (U.calling g mk a).vm } : State).setVm s₂.vm := rfl
      rw [e2] at this
      exact this
    have hf₂ : s₂.frames = .throwing q :: .java g :: U.frames.tail := hend
    have hW' : U.WarmedH s₂.vm := hW₂
    have hs₂ : s₂ = ((({ U with heap := s₂.heap, slotsUsed := s₂.slotsUsed } : State).setVm s₂.vm).setTop g).pushFrame (.throwing q) := by
      refine e3.trans ?_
      rw [hf₂, State.calling_eq h.top, State.setFrames_setFrames, State.pushFrame, State.frames_setTop _ hr', State.setTop_of_frames _ hr', State.setFrames_setFrames, hr]
      rfl
    have hsame : U.sameButNew ({ U with heap := s₂.heap, slotsUsed := s₂.slotsUsed } : State) L mc ms := by
      refine ⟨?_, q2, q3, q4, q5, q6⟩
      obtain ⟨t, ht, -⟩ := State.frames_cons hr
      show ({ U with heap := s₂.heap, slotsUsed := s₂.slotsUsed } : State) = { U.setFrames U.frames with heap := s₂.heap, slotsUsed := s₂.slotsUsed }
      rw [State.setFrames_self ht]
    subst hg
    refine Or.inr ⟨q, ⟨(({ U with heap := s₂.heap, slotsUsed := s₂.slotsUsed } : State).setVm s₂.vm), Ls ++ L, c0 + mc, s0 + ms⟩,
      ⟨X.admits, X.cas, X.clock, X.frames, X.room, X.hears, X.method, X.code, (X.here.setHeapUsed s₂.heap s₂.slotsUsed).setVm hW'.alike, X.tail, State.WarmedH.trans X.warmed hW', X.limits, X.bytes, X.same.trans (hsame.setVm s.vm)⟩,
      ⟨g, mk, s₂, L, E, ce, rfl, rfl, hx, hce, hcv, hcl, rfl, hL, rfl, rfl⟩, ?_⟩
    show Steps p.tables e below _ (((({ U with heap := s₂.heap, slotsUsed := s₂.slotsUsed } : State).setVm s₂.vm).setTop g).pushFrame (.throwing q))
    rw [← hs₂]
    exact hsteps
end Payer
section Calls
variable {p : Program} {l : Launch} {e : Env} {R : Room} {s : State} {m : MethodId} {args : Array Value} {below : List Frame} {meth : Method} {c : Code} {T : State} {locs : List Loc} {cells slots : Nat}
theorem vx_callV (X : Stand p l e R s m args below meth c T locs cells slots) (hexec : p.tables.exec = Jvm.exec) {own C : String} {index : Nat} {y : MethodName} {bytes : ByteArray} {maxL : Nat} {ret : Option FieldType}
    (hown : s.vm.findClass own = some m.cls) (hlink : (Cond.methodLink own index y).before args s = true) (hinst : (Cond.instanceMethod y).before args s = true) (hsel : (Cond.selects C y y).before args s = true)
    (hcode : (Cond.code y bytes maxL ret).before args s = true) (hy : y.cls ≠ "java/lang/invoke/MethodHandle" ∧ y.cls ≠ "java/lang/invoke/VarHandle")
    {W9 : Nat} {Pre : Pt → Array Value → Prop} {Post : Pt → Array Value → Option Value → Pt → Prop} {PostX : Pt → Array Value → Addr → Pt → Prop} (hK : vx_Back l R p e below s args y 3 W9 Pre Post PostX)
    {b : Addr} {cellB : Cell} (hcell : T.heap[b]? = some cellB) (hobj : cellB.vm.isStatics = false) (hcls : s.vm.findClass C = some cellB.cls)
    {g : JFrame} (hg : g.method = m) (hsize : g.locals.size = c.maxLocals) {argsL rest : List Value} (hlen : ∀ sig, parseMethodDescriptor y.desc = some sig → argsL.length = sig.parameters.length)
    (hstack : g.stack = argsL.reverse ++ .ref b :: rest) (hW : 2 * g.monitorRoom + (rest.map fun v => v.category).sum ≤ W9) (hdg : decode c.code g.pc = .ok (.invokevirtual index, 3))
    (hpre : ∀ vm₁, s.WarmedH vm₁ → Pre ⟨T.setVm vm₁, locs, cells, slots⟩ (Value.ref b :: argsL).toArray) :
    (∃ (v : Option Value) (vm₁ : Vm) (B : Pt), s.WarmedH vm₁ ∧ Stand p l e R s m args below meth c B.U B.locs B.cells B.slots ∧ Post ⟨T.setVm vm₁, locs, cells, slots⟩ (Value.ref b :: argsL).toArray v B ∧
      ∀ target, Steps p.tables e below (B.U.setTop { g with pc := g.pc + 3, stack := v.toList ++ rest }) target → Steps p.tables e below (T.setTop g) target) ∨
    (∃ (q : Addr) (vm₁ : Vm) (B : Pt), s.WarmedH vm₁ ∧ Stand p l e R s m args below meth c B.U B.locs B.cells B.slots ∧ PostX ⟨T.setVm vm₁, locs, cells, slots⟩ (Value.ref b :: argsL).toArray q B ∧
      Steps p.tables e below (T.setTop g) ((B.U.setTop { g with stack := rest }).pushFrame (.throwing q))) := by
  obtain ⟨mk, methM, hnamed, hmethM, hstM, habM⟩ := Cond.instanceMethod_spec hinst
  obtain ⟨methM', cM, hmethM', -, -, -, -, -, -, hsigM⟩ := Cond.code_spec hnamed hcode
  cases hmethM.symm.trans hmethM'
  obtain ⟨c2, r2, m2, q1, q2, q3, q4, kP, hkP, hkPi⟩ := Cond.selects_spec hsel
  cases hcls.symm.trans q1
  cases (State.methodFound?_of_named hnamed hy).symm.trans q2
  cases hnamed.symm.trans q3
  have hselP : selectMethod e.platform s.vm cellB.cls mk = .method mk := by rw [Launch.admits_selectMethod X.admits]; exact q4
  obtain ⟨vm₁, X₁, hstep₁⟩ := X.invokevirtual hexec hown hlink hnamed hmethM hstM hkP hkPi hy (a := b) (cell := cellB) hcell
    (fun z h => by rw [h] at hobj; cases hobj) hselP hmethM habM hkP hkPi (g := g) hg (argsL := argsL) (rest := rest) (hlen _ hsigM) hstack hdg
  rcases hK m meth c ⟨T.setVm vm₁, locs, cells, slots⟩ { g with stack := rest } (.invokevirtual index) mk (Value.ref b :: argsL).toArray X₁ hg hsize hdg hW (X₁.named hnamed) (hpre vm₁ X₁.warmed) with ⟨v, B, X', hpost, hsteps⟩ | ⟨q, B, X', hpost, hsteps⟩
  · exact Or.inl ⟨v, vm₁, B, X₁.warmed, X', hpost, fun target h => hstep₁ _ fun acts => by rw [doInvoke_state]; exact hsteps.trans h⟩
  · exact Or.inr ⟨q, vm₁, B, X₁.warmed, X', hpost, hstep₁ _ fun acts => by rw [doInvoke_state]; exact hsteps⟩
theorem vx_callS (X : Stand p l e R s m args below meth c T locs cells slots) (hexec : p.tables.exec = Jvm.exec) {own : String} {index : Nat} {y : MethodName} {bytes : ByteArray} {maxL : Nat} {ret : Option FieldType}
    (hown : s.vm.findClass own = some m.cls) (hlink : (Cond.methodLink own index y).before args s = true) (hstat : (Cond.static y).before args s = true) (hinit : (Cond.initialized y.cls).before args s = true)
    (hcode : (Cond.code y bytes maxL ret).before args s = true) (hy : y.cls ≠ "java/lang/invoke/MethodHandle" ∧ y.cls ≠ "java/lang/invoke/VarHandle")
    {W9 : Nat} {Pre : Pt → Array Value → Prop} {Post : Pt → Array Value → Option Value → Pt → Prop} {PostX : Pt → Array Value → Addr → Pt → Prop} (hK : vx_Back l R p e below s args y 3 W9 Pre Post PostX)
    {g : JFrame} (hg : g.method = m) (hsize : g.locals.size = c.maxLocals) {argsL rest : List Value} (hlen : ∀ sig, parseMethodDescriptor y.desc = some sig → argsL.length = sig.parameters.length)
    (hstack : g.stack = argsL.reverse ++ rest) (hW : 2 * g.monitorRoom + (rest.map fun v => v.category).sum ≤ W9) (hdg : decode c.code g.pc = .ok (.invokestatic index, 3))
    (hpre : ∀ vm₁, s.WarmedH vm₁ → Pre ⟨T.setVm vm₁, locs, cells, slots⟩ argsL.toArray) :
    (∃ (v : Option Value) (vm₁ : Vm) (B : Pt), s.WarmedH vm₁ ∧ Stand p l e R s m args below meth c B.U B.locs B.cells B.slots ∧ Post ⟨T.setVm vm₁, locs, cells, slots⟩ argsL.toArray v B ∧
      ∀ target, Steps p.tables e below (B.U.setTop { g with pc := g.pc + 3, stack := v.toList ++ rest }) target → Steps p.tables e below (T.setTop g) target) ∨
    (∃ (q : Addr) (vm₁ : Vm) (B : Pt), s.WarmedH vm₁ ∧ Stand p l e R s m args below meth c B.U B.locs B.cells B.slots ∧ PostX ⟨T.setVm vm₁, locs, cells, slots⟩ argsL.toArray q B ∧
      Steps p.tables e below (T.setTop g) ((B.U.setTop { g with stack := rest }).pushFrame (.throwing q))) := by
  obtain ⟨mk, hnamed⟩ := Cond.code_named hcode
  obtain ⟨methM, cM, hmethM, -, -, -, -, -, -, hsigM⟩ := Cond.code_spec hnamed hcode
  have hstatic : methM.isStatic = true := Cond.static_spec hnamed hmethM hstat
  obtain ⟨kP, hkP, -⟩ := className_of_methodNamed hnamed
  have hinitP : kP.init = .initialized := Cond.initialized_spec (findClass_of_methodNamed hnamed) hkP hinit
  obtain ⟨vm₁, X₁, hstep₁⟩ := X.invokestatic hexec hown hlink hnamed hmethM hstatic hkP hinitP hy (g := g) hg (argsL := argsL) (rest := rest) (hlen _ hsigM) hstack hdg
  rcases hK m meth c ⟨T.setVm vm₁, locs, cells, slots⟩ { g with stack := rest } (.invokestatic index) mk argsL.toArray X₁ hg hsize hdg hW (X₁.named hnamed) (hpre vm₁ X₁.warmed) with ⟨v, B, X', hpost, hsteps⟩ | ⟨q, B, X', hpost, hsteps⟩
  · exact Or.inl ⟨v, vm₁, B, X₁.warmed, X', hpost, fun target h => hstep₁ _ fun acts => by rw [doInvoke_state]; exact hsteps.trans h⟩
  · exact Or.inr ⟨q, vm₁, B, X₁.warmed, X', hpost, hstep₁ _ fun acts => by rw [doInvoke_state]; exact hsteps⟩
end Calls
theorem vx_cls {s : State} {T : State} {vm₁ : Vm} {E : String} {k : ClassId} (hW : s.WarmedH vm₁) (h : (T.setVm vm₁).vm.findClass E = some k) : s.vm.findClass E = some k := by
  have h1 : vm₁.findClass E = some k := h
  rw [hW.alike.findClass] at h1
  exact h1
/-- the method's frame g, with q thrown over it -/
def vx_W (p : Program) (l : Launch) (e : Env) (R : Room) (s : State) (m : MethodId) (args : Array Value) (below : List Frame) (meth : Method) (c : Code) (H : Heap) (locs : List Loc) (cells slots : Nat) (Q : State → Prop) (g : JFrame) (q : Addr) : Prop :=
  ∀ T : State, T.heap = H → Stand p l e R s m args below meth c T locs cells slots → ∃ t, Steps p.tables e below ((T.setTop g).pushFrame (.throwing q)) t ∧ Q t
def vx_Run (p : Program) (l : Launch) (e : Env) (R : Room) (s : State) (m : MethodId) (args : Array Value) (below : List Frame) (meth : Method) (c : Code) (H : Heap) (locs : List Loc) (cells slots mc ms : Nat) (g : JFrame) (rest : List Value) (Qa : State → Outcome → State → Prop) (XC : String → State → State → Prop) (free : Addr → Prop) : Prop :=
  ∀ T : State, T.heap = H → Stand p l e R s m args below meth c T locs cells slots →
    (∃ (v : Option Value) (st₀ t T' : State) (L : List Loc), st₀.heap = H ∧ Stand p l e R s m args below meth c T' (locs ++ L) (cells + mc) (slots + ms) ∧ (∀ q ∈ L, free q.base) ∧ T'.heap = t.heap ∧ T'.vm = t.vm ∧ Qa st₀ (.returned v) t ∧
      Goes p e below T g T' { g with pc := g.pc + 3, stack := v.toList ++ rest }) ∨
    (∃ (q : Addr) (st₀ t T' : State) (L : List Loc) (E : String) (ce : Cell), st₀.heap = H ∧ Stand p l e R s m args below meth c T' (locs ++ L) (cells + mc) (slots + ms) ∧ (∀ z ∈ L, free z.base) ∧ T'.heap = t.heap ∧ T'.vm = t.vm ∧ XC E st₀ t ∧ t.heap[q]? = some ce ∧ ce.vm = .none ∧ s.vm.findClass E = some ce.cls ∧
      Steps p.tables e below (T.setTop g) ((T'.setTop { g with stack := rest }).pushFrame (.throwing q)))
def vx_X {S : Type} (px : S → Prop) (B : String → S → State → Prop) (A : Nat → Prop) : String → State → State → Prop := fun E st t => ∃ u : S, px u ∧ B E u t ∧ va_F A st t
section Runs
variable {p : Program} {l : Launch} {e : Env} {R : Room} {s : State} {m : MethodId} {args : Array Value} {below : List Frame} {meth : Method} {c : Code} {H : Heap} {locs : List Loc} {cells slots : Nat}
variable {y : MethodName} {bytes cc : ByteArray} {maxL nL mc ms n index : Nat} {ret : Option FieldType} {ws : List Cond} {rm : Room} {Pc : Array Value → State → Prop} {Qc : Array Value → State → Outcome → State → Prop} {XC : String → State → State → Prop} {free : Addr → Prop} {Ts : List Cond} {own C : String} {b : Addr} {As rest : List Value} {g : JFrame}
theorem vx_callBack (cb : CallB R s args own index y bytes maxL ret ws rm mc ms n) (hM : vx_Met l y ws rm Pc Qc XC mc ms free) (hbl : FrameBlind Pc) : vx_Back l R p e below s args y 3 8 (PreOf R mc ms Pc) (PostOf Qc mc ms free) (vx_Post XC mc ms free) := by
  obtain ⟨hrc, hrs, hfr, hlo, hws, hcw, -, hini, -⟩ := cb
  exact vx_back (bytes := bytes) (maxL := maxL) (ret := ret) hM hbl hrc hrs hfr hlo hws hcw (fun a' U hW => word_at hW (Or.inl (by first | rfl | simp [Cond.onTables, Cond.keeps, Cond.steady])) hini)
theorem vx_runV (S : CallFix p m c cc nL s args Ts own) (hM : vx_Met l y ws rm Pc Qc XC mc ms free) (cw : CallW R s args own C index y bytes maxL ret ws rm mc ms n) (hp : PreV s H C b Pc As)
    (hg : g.method = m) (hn : As.length = n) (hsize : g.locals.size = nL) (hstack : g.stack = As.reverse ++ .ref b :: rest) (hW : 2 * g.monitorRoom + (rest.map fun v => v.category).sum ≤ 8) (hdg : decode cc g.pc = .ok (.invokevirtual index, 3)) (hf : cells + mc ≤ R.cells ∧ slots + ms ≤ R.slots) :
    vx_Run p l e R s m args below meth c H locs cells slots mc ms g rest (Qc (Value.ref b :: As).toArray) XC free := by
  have hK : vx_Back l R p e below s args y 3 8 (PreOf R mc ms Pc) (PostOf Qc mc ms free) (vx_Post XC mc ms free) := vx_callBack cw.1 hM hp.1
  obtain ⟨⟨-, -, -, -, -, -, hcode, -, hy, hlen, hl⟩, hin, hse⟩ := cw
  obtain ⟨hx, hb, hml, ho, -⟩ := S
  obtain ⟨-, ⟨cellB, hcB, hoB, hclB⟩, hPc⟩ := hp
  intro T hT X
  rcases vx_callV X hx (C := C) (bytes := bytes) (maxL := maxL) (ret := ret) ho hl hin hse hcode hy hK (by rw [hT]; exact hcB) hoB hclB hg (hsize.trans hml.symm) (argsL := As) (rest := rest) (fun sig h => hn.trans (hlen sig h)) hstack hW (by rw [hb]; exact hdg)
    (fun vm₁ hW₁ => ⟨hf.1, hf.2, hPc (T.setVm vm₁) hT hW₁⟩) with ⟨v, vm₁, ⟨U', l2, c2, s2⟩, hW₁, X', ⟨g', mk, t, L, e1, e2, hq, h1, hL, h2, h3⟩, st⟩ | ⟨q, vm₁, ⟨U', l2, c2, s2⟩, hW₁, X', ⟨g', mk, t, L, E, ce, e1, e2, hq, hce, hcv, hcl, h1, hL, h2, h3⟩, st⟩
  · dsimp only [Pt.U, Pt.locs, Pt.cells, Pt.slots] at X' e1 e2 h1 h2 h3 st
    subst h1; subst h2; subst h3
    exact Or.inl ⟨v, (T.setVm vm₁).calling g' mk (Value.ref b :: As).toArray, t, U', L, hT, X', hL, e1, e2, hq, st⟩
  · dsimp only [Pt.U, Pt.locs, Pt.cells, Pt.slots] at X' e1 e2 h1 h2 h3 st hcl
    subst h1; subst h2; subst h3
    exact Or.inr ⟨q, (T.setVm vm₁).calling g' mk (Value.ref b :: As).toArray, t, U', L, E, ce, hT, X', hL, e1, e2, hq, hce, hcv, vx_cls hW₁ hcl, st⟩
theorem vx_runS (S : CallFix p m c cc nL s args Ts own) (hM : vx_Met l y ws rm Pc Qc XC mc ms free) (cw : CallB R s args own index y bytes maxL ret ws rm mc ms n ∧ (Cond.static y).before args s = true) (hp : PreS s H Pc As)
    (hg : g.method = m) (hn : As.length = n) (hsize : g.locals.size = nL) (hstack : g.stack = As.reverse ++ rest) (hW : 2 * g.monitorRoom + (rest.map fun v => v.category).sum ≤ 8) (hdg : decode cc g.pc = .ok (.invokestatic index, 3)) (hf : cells + mc ≤ R.cells ∧ slots + ms ≤ R.slots) :
    vx_Run p l e R s m args below meth c H locs cells slots mc ms g rest (Qc As.toArray) XC free := by
  have hK : vx_Back l R p e below s args y 3 8 (PreOf R mc ms Pc) (PostOf Qc mc ms free) (vx_Post XC mc ms free) := vx_callBack cw.1 hM hp.1
  obtain ⟨⟨-, -, -, -, -, -, hcode, hini, hy, hlen, hl⟩, hstt⟩ := cw
  obtain ⟨hx, hb, hml, ho, -⟩ := S
  intro T hT X
  rcases vx_callS X hx (bytes := bytes) (maxL := maxL) (ret := ret) ho hl hstt hini hcode hy hK hg (hsize.trans hml.symm) (argsL := As) (rest := rest) (fun sig h => hn.trans (hlen sig h)) hstack hW (by rw [hb]; exact hdg)
    (fun vm₁ hW₁ => ⟨hf.1, hf.2, hp.2 (T.setVm vm₁) hT hW₁⟩) with ⟨v, vm₁, ⟨U', l2, c2, s2⟩, hW₁, X', ⟨g', mk, t, L, e1, e2, hq, h1, hL, h2, h3⟩, st⟩ | ⟨q, vm₁, ⟨U', l2, c2, s2⟩, hW₁, X', ⟨g', mk, t, L, E, ce, e1, e2, hq, hce, hcv, hcl, h1, hL, h2, h3⟩, st⟩
  · dsimp only [Pt.U, Pt.locs, Pt.cells, Pt.slots] at X' e1 e2 h1 h2 h3 st
    subst h1; subst h2; subst h3
    exact Or.inl ⟨v, (T.setVm vm₁).calling g' mk As.toArray, t, U', L, hT, X', hL, e1, e2, hq, st⟩
  · dsimp only [Pt.U, Pt.locs, Pt.cells, Pt.slots] at X' e1 e2 h1 h2 h3 st hcl
    subst h1; subst h2; subst h3
    exact Or.inr ⟨q, (T.setVm vm₁).calling g' mk As.toArray, t, U', L, E, ce, hT, X', hL, e1, e2, hq, hce, hcv, vx_cls hW₁ hcl, st⟩
end Runs
section Rows
variable {p : Program} {l : Launch} {e : Env} {R : Room} {s : State} {m : MethodId} {args : Array Value} {below : List Frame} {meth : Method} {c : Code} {H : Heap} {locs : List Loc} {cells slots : Nat} {Q : State → Prop}
variable {mc ms : Nat} {free : Addr → Prop} {A0 A1 : Nat → Prop} {H0 : Heap} {a : Array Value} {pc : Nat} {ls : Array Slot} {st0 rest : List Value}
theorem vx_keep {st₀ t T' : State} {L : List Loc} (h0 : st₀.heap = H) (e1 : T'.heap = t.heap) (hS : va_S A0 H0 H locs) (hA : ∀ q, q < H.size → A1 q → A0 q) (hf : ∀ q, free q → A0 q) (hL : ∀ q ∈ L, free q.base) (hF : va_F A1 st₀ t) :
    H.size ≤ T'.heap.size ∧ (∀ q : Nat, q < H.size → ¬ A1 q → T'.heap[q]? = H[q]?) ∧ va_S A0 H0 T'.heap (locs ++ L) := by
  obtain ⟨hz, hk⟩ := hF
  rw [h0] at hz hk
  exact ⟨by rw [e1]; exact hz, fun q h1 h2 => by rw [e1]; exact hk q h1 h2,
    ⟨Nat.le_trans hS.1 (by rw [e1]; exact hz), fun q h1 h2 => by rw [e1, hk q (Nat.lt_of_lt_of_le h1 hS.1) (fun z => h2 (hA q (Nat.lt_of_lt_of_le h1 hS.1) z))]; exact hS.2.1 q h1 h2, fun q hq => by
      rcases List.mem_append.mp hq with h | h
      · exact hS.2.2 q h
      · exact hf _ (hL q h)⟩⟩
theorem vx_calli {S SX : Type} {post : Int32 → S → Prop} {px : SX → Prop} {B : S → State → Prop} {BX : String → SX → State → Prop} {AX : Nat → Prop} (hr : vx_Run p l e R s m args below meth c H locs cells slots mc ms (F0 m pc ls st0) rest (va_Qi post B A1 a) (vx_X px BX AX) free) (hS : va_S A0 H0 H locs) (hA : ∀ q, q < H.size → A1 q → A0 q) (hf : ∀ q, free q → A0 q) (hAX : ∀ q, q < H.size → AX q → A0 q)
    (kx : ∀ (E : String) (ce : Cell) (q9 : Addr) (u : SX) (t : State) (H1 : Heap) (locs1 : List Loc), t.heap = H1 → s.vm.Alike t.vm → px u → BX E u t → H.size ≤ H1.size → (∀ q : Nat, q < H.size → ¬ AX q → H1[q]? = H[q]?) → va_S A0 H0 H1 locs1 → H1[q9]? = some ce → ce.vm = .none → s.vm.findClass E = some ce.cls → vx_W p l e R s m args below meth c H1 locs1 (cells + mc) (slots + ms) Q (F0 m pc ls rest) q9)
    (kk : ∀ (r : Int32) (u : S) (t : State) (H1 : Heap) (locs1 : List Loc), t.heap = H1 → s.vm.Alike t.vm → post r u → B u t → H.size ≤ H1.size → (∀ q : Nat, q < H.size → ¬ A1 q → H1[q]? = H[q]?) → va_S A0 H0 H1 locs1 → W p l e R s m args below meth c H1 locs1 (cells + mc) (slots + ms) Q (F0 m (pc + 3) ls (.int r :: rest))) : W p l e R s m args below meth c H locs cells slots Q (F0 m pc ls st0) := by
  intro T hT X
  rcases hr T hT X with ⟨v, st₀, t, T', L, h0, X', hL, e1, e2, ⟨⟨r, u, hv, hp, hb⟩, hF⟩, st⟩ | ⟨q, st₀, t, T', L, E, ce, h0, X', hL, e1, e2, ⟨u, hp, hb, hF⟩, hce, hcv, hcl, st⟩
  · cases hv
    obtain ⟨k1, k2, k3⟩ := vx_keep h0 e1 hS hA hf hL hF
    obtain ⟨t2, a1, b1⟩ := kk r u t T'.heap (locs ++ L) e1.symm (by rw [← e2]; exact X'.warmed.alike) hp hb k1 k2 k3 T' rfl X'
    exact ⟨t2, st t2 a1, b1⟩
  · obtain ⟨k1, k2, k3⟩ := vx_keep h0 e1 hS hAX hf hL hF
    obtain ⟨t2, a1, b1⟩ := kx E ce q u t T'.heap (locs ++ L) e1.symm (by rw [← e2]; exact X'.warmed.alike) hp hb k1 k2 k3 (by rw [e1]; exact hce) hcv hcl T' rfl X'
    exact ⟨t2, st.trans a1, b1⟩
theorem vx_calll {S SX : Type} {post : Int64 → S → Prop} {px : SX → Prop} {B : S → State → Prop} {BX : String → SX → State → Prop} {AX : Nat → Prop} (hr : vx_Run p l e R s m args below meth c H locs cells slots mc ms (F0 m pc ls st0) rest (va_Ql post B A1 a) (vx_X px BX AX) free) (hS : va_S A0 H0 H locs) (hA : ∀ q, q < H.size → A1 q → A0 q) (hf : ∀ q, free q → A0 q) (hAX : ∀ q, q < H.size → AX q → A0 q)
    (kx : ∀ (E : String) (ce : Cell) (q9 : Addr) (u : SX) (t : State) (H1 : Heap) (locs1 : List Loc), t.heap = H1 → s.vm.Alike t.vm → px u → BX E u t → H.size ≤ H1.size → (∀ q : Nat, q < H.size → ¬ AX q → H1[q]? = H[q]?) → va_S A0 H0 H1 locs1 → H1[q9]? = some ce → ce.vm = .none → s.vm.findClass E = some ce.cls → vx_W p l e R s m args below meth c H1 locs1 (cells + mc) (slots + ms) Q (F0 m pc ls rest) q9)
    (kk : ∀ (r : Int64) (u : S) (t : State) (H1 : Heap) (locs1 : List Loc), t.heap = H1 → s.vm.Alike t.vm → post r u → B u t → H.size ≤ H1.size → (∀ q : Nat, q < H.size → ¬ A1 q → H1[q]? = H[q]?) → va_S A0 H0 H1 locs1 → W p l e R s m args below meth c H1 locs1 (cells + mc) (slots + ms) Q (F0 m (pc + 3) ls (.long r :: rest))) : W p l e R s m args below meth c H locs cells slots Q (F0 m pc ls st0) := by
  intro T hT X
  rcases hr T hT X with ⟨v, st₀, t, T', L, h0, X', hL, e1, e2, ⟨⟨r, u, hv, hp, hb⟩, hF⟩, st⟩ | ⟨q, st₀, t, T', L, E, ce, h0, X', hL, e1, e2, ⟨u, hp, hb, hF⟩, hce, hcv, hcl, st⟩
  · cases hv
    obtain ⟨k1, k2, k3⟩ := vx_keep h0 e1 hS hA hf hL hF
    obtain ⟨t2, a1, b1⟩ := kk r u t T'.heap (locs ++ L) e1.symm (by rw [← e2]; exact X'.warmed.alike) hp hb k1 k2 k3 T' rfl X'
    exact ⟨t2, st t2 a1, b1⟩
  · obtain ⟨k1, k2, k3⟩ := vx_keep h0 e1 hS hAX hf hL hF
    obtain ⟨t2, a1, b1⟩ := kx E ce q u t T'.heap (locs ++ L) e1.symm (by rw [← e2]; exact X'.warmed.alike) hp hb k1 k2 k3 (by rw [e1]; exact hce) hcv hcl T' rfl X'
    exact ⟨t2, st.trans a1, b1⟩
theorem vx_callf {S SX : Type} {post : UInt32 → S → Prop} {px : SX → Prop} {B : S → State → Prop} {BX : String → SX → State → Prop} {AX : Nat → Prop} (hr : vx_Run p l e R s m args below meth c H locs cells slots mc ms (F0 m pc ls st0) rest (va_Qf post B A1 a) (vx_X px BX AX) free) (hS : va_S A0 H0 H locs) (hA : ∀ q, q < H.size → A1 q → A0 q) (hf : ∀ q, free q → A0 q) (hAX : ∀ q, q < H.size → AX q → A0 q)
    (kx : ∀ (E : String) (ce : Cell) (q9 : Addr) (u : SX) (t : State) (H1 : Heap) (locs1 : List Loc), t.heap = H1 → s.vm.Alike t.vm → px u → BX E u t → H.size ≤ H1.size → (∀ q : Nat, q < H.size → ¬ AX q → H1[q]? = H[q]?) → va_S A0 H0 H1 locs1 → H1[q9]? = some ce → ce.vm = .none → s.vm.findClass E = some ce.cls → vx_W p l e R s m args below meth c H1 locs1 (cells + mc) (slots + ms) Q (F0 m pc ls rest) q9)
    (kk : ∀ (r : UInt32) (u : S) (t : State) (H1 : Heap) (locs1 : List Loc), t.heap = H1 → s.vm.Alike t.vm → post r u → B u t → H.size ≤ H1.size → (∀ q : Nat, q < H.size → ¬ A1 q → H1[q]? = H[q]?) → va_S A0 H0 H1 locs1 → W p l e R s m args below meth c H1 locs1 (cells + mc) (slots + ms) Q (F0 m (pc + 3) ls (.float r :: rest))) : W p l e R s m args below meth c H locs cells slots Q (F0 m pc ls st0) := by
  intro T hT X
  rcases hr T hT X with ⟨v, st₀, t, T', L, h0, X', hL, e1, e2, ⟨⟨r, u, hv, hp, hb⟩, hF⟩, st⟩ | ⟨q, st₀, t, T', L, E, ce, h0, X', hL, e1, e2, ⟨u, hp, hb, hF⟩, hce, hcv, hcl, st⟩
  · cases hv
    obtain ⟨k1, k2, k3⟩ := vx_keep h0 e1 hS hA hf hL hF
    obtain ⟨t2, a1, b1⟩ := kk r u t T'.heap (locs ++ L) e1.symm (by rw [← e2]; exact X'.warmed.alike) hp hb k1 k2 k3 T' rfl X'
    exact ⟨t2, st t2 a1, b1⟩
  · obtain ⟨k1, k2, k3⟩ := vx_keep h0 e1 hS hAX hf hL hF
    obtain ⟨t2, a1, b1⟩ := kx E ce q u t T'.heap (locs ++ L) e1.symm (by rw [← e2]; exact X'.warmed.alike) hp hb k1 k2 k3 (by rw [e1]; exact hce) hcv hcl T' rfl X'
    exact ⟨t2, st.trans a1, b1⟩
theorem vx_calld {S SX : Type} {post : UInt64 → S → Prop} {px : SX → Prop} {B : S → State → Prop} {BX : String → SX → State → Prop} {AX : Nat → Prop} (hr : vx_Run p l e R s m args below meth c H locs cells slots mc ms (F0 m pc ls st0) rest (va_Qd post B A1 a) (vx_X px BX AX) free) (hS : va_S A0 H0 H locs) (hA : ∀ q, q < H.size → A1 q → A0 q) (hf : ∀ q, free q → A0 q) (hAX : ∀ q, q < H.size → AX q → A0 q)
    (kx : ∀ (E : String) (ce : Cell) (q9 : Addr) (u : SX) (t : State) (H1 : Heap) (locs1 : List Loc), t.heap = H1 → s.vm.Alike t.vm → px u → BX E u t → H.size ≤ H1.size → (∀ q : Nat, q < H.size → ¬ AX q → H1[q]? = H[q]?) → va_S A0 H0 H1 locs1 → H1[q9]? = some ce → ce.vm = .none → s.vm.findClass E = some ce.cls → vx_W p l e R s m args below meth c H1 locs1 (cells + mc) (slots + ms) Q (F0 m pc ls rest) q9)
    (kk : ∀ (r : UInt64) (u : S) (t : State) (H1 : Heap) (locs1 : List Loc), t.heap = H1 → s.vm.Alike t.vm → post r u → B u t → H.size ≤ H1.size → (∀ q : Nat, q < H.size → ¬ A1 q → H1[q]? = H[q]?) → va_S A0 H0 H1 locs1 → W p l e R s m args below meth c H1 locs1 (cells + mc) (slots + ms) Q (F0 m (pc + 3) ls (.double r :: rest))) : W p l e R s m args below meth c H locs cells slots Q (F0 m pc ls st0) := by
  intro T hT X
  rcases hr T hT X with ⟨v, st₀, t, T', L, h0, X', hL, e1, e2, ⟨⟨r, u, hv, hp, hb⟩, hF⟩, st⟩ | ⟨q, st₀, t, T', L, E, ce, h0, X', hL, e1, e2, ⟨u, hp, hb, hF⟩, hce, hcv, hcl, st⟩
  · cases hv
    obtain ⟨k1, k2, k3⟩ := vx_keep h0 e1 hS hA hf hL hF
    obtain ⟨t2, a1, b1⟩ := kk r u t T'.heap (locs ++ L) e1.symm (by rw [← e2]; exact X'.warmed.alike) hp hb k1 k2 k3 T' rfl X'
    exact ⟨t2, st t2 a1, b1⟩
  · obtain ⟨k1, k2, k3⟩ := vx_keep h0 e1 hS hAX hf hL hF
    obtain ⟨t2, a1, b1⟩ := kx E ce q u t T'.heap (locs ++ L) e1.symm (by rw [← e2]; exact X'.warmed.alike) hp hb k1 k2 k3 (by rw [e1]; exact hce) hcv hcl T' rfl X'
    exact ⟨t2, st.trans a1, b1⟩
theorem vx_callv {S SX : Type} {post : S → Prop} {px : SX → Prop} {B : S → State → Prop} {BX : String → SX → State → Prop} {AX : Nat → Prop} (hr : vx_Run p l e R s m args below meth c H locs cells slots mc ms (F0 m pc ls st0) rest (va_Qv post B A1 a) (vx_X px BX AX) free) (hS : va_S A0 H0 H locs) (hA : ∀ q, q < H.size → A1 q → A0 q) (hf : ∀ q, free q → A0 q) (hAX : ∀ q, q < H.size → AX q → A0 q)
    (kx : ∀ (E : String) (ce : Cell) (q9 : Addr) (u : SX) (t : State) (H1 : Heap) (locs1 : List Loc), t.heap = H1 → s.vm.Alike t.vm → px u → BX E u t → H.size ≤ H1.size → (∀ q : Nat, q < H.size → ¬ AX q → H1[q]? = H[q]?) → va_S A0 H0 H1 locs1 → H1[q9]? = some ce → ce.vm = .none → s.vm.findClass E = some ce.cls → vx_W p l e R s m args below meth c H1 locs1 (cells + mc) (slots + ms) Q (F0 m pc ls rest) q9)
    (kk : ∀ (u : S) (t : State) (H1 : Heap) (locs1 : List Loc), t.heap = H1 → s.vm.Alike t.vm → post u → B u t → H.size ≤ H1.size → (∀ q : Nat, q < H.size → ¬ A1 q → H1[q]? = H[q]?) → va_S A0 H0 H1 locs1 → W p l e R s m args below meth c H1 locs1 (cells + mc) (slots + ms) Q (F0 m (pc + 3) ls (rest))) : W p l e R s m args below meth c H locs cells slots Q (F0 m pc ls st0) := by
  intro T hT X
  rcases hr T hT X with ⟨v, st₀, t, T', L, h0, X', hL, e1, e2, ⟨⟨u, hv, hp, hb⟩, hF⟩, st⟩ | ⟨q, st₀, t, T', L, E, ce, h0, X', hL, e1, e2, ⟨u, hp, hb, hF⟩, hce, hcv, hcl, st⟩
  · cases hv
    obtain ⟨k1, k2, k3⟩ := vx_keep h0 e1 hS hA hf hL hF
    obtain ⟨t2, a1, b1⟩ := kk u t T'.heap (locs ++ L) e1.symm (by rw [← e2]; exact X'.warmed.alike) hp hb k1 k2 k3 T' rfl X'
    exact ⟨t2, st t2 a1, b1⟩
  · obtain ⟨k1, k2, k3⟩ := vx_keep h0 e1 hS hAX hf hL hF
    obtain ⟨t2, a1, b1⟩ := kx E ce q u t T'.heap (locs ++ L) e1.symm (by rw [← e2]; exact X'.warmed.alike) hp hb k1 k2 k3 (by rw [e1]; exact hce) hcv hcl T' rfl X'
    exact ⟨t2, st.trans a1, b1⟩
/-- caught by the row x of this method's table; the rows ahead don't take it -/
theorem vx_catch {own name : String} {E : String} {ce : Cell} {q : Addr} (hown : s.vm.findClass own = some m.cls) (pre : List ExceptionTableEntry) (x : ExceptionTableEntry) (suf : List ExceptionTableEntry) (hsplit : c.exceptionTable.toList = pre ++ x :: suf)
    (hpass : ∀ z ∈ pre, covers z pc = false ∨ (z.catchType ≠ 0 ∧ ∃ nm : String, (Cond.classLink own z.catchType nm).before args s = true ∧ va_Nc E nm s)) (hx : covers x pc = true) (h0 : x.catchType ≠ 0)
    (hlink : (Cond.classLink own x.catchType name).before args s = true) (hcast : (Cond.castable E name).before args s = true) (hcell : H[q]? = some ce) (hv : ce.vm = .none) (hcl : s.vm.findClass E = some ce.cls)
    (kk : W p l e R s m args below meth c H locs cells slots Q (F0 m x.handlerPc ls [.ref q])) : vx_W p l e R s m args below meth c H locs cells slots Q (F0 m pc ls rest) q := by
  intro T hT X
  have hpl : e.platform.magicAccessors = ({} : Platform).magicAccessors := by rw [X.admits.platform]
  obtain ⟨c3, c4, hc3, hc4, hasg⟩ := Cond.castable_spec hcast
  cases Option.some.inj (hc3.symm.trans hcl)
  obtain ⟨c5, hc5, hcl5⟩ := Cond.classLink_spec hown hlink e.platform hpl
  cases Option.some.inj (hc4.symm.trans hc5)
  obtain ⟨vm', X', st⟩ := X.thenCaughtThrough q (g := F0 m pc ls rest) rfl (Steps.refl _) (by rw [hT]; exact hcell) (by rw [hv]; rfl) (by obtain ⟨k9, h9, -⟩ := Vm.findClass_spec hcl; exact ⟨k9, h9⟩) pre x suf hsplit
    (fun z hz => by
      rcases hpass z hz with h | ⟨hz0, nm, hl1, hn1⟩
      · exact Or.inl h
      · obtain ⟨c6, hc6, hcl6⟩ := Cond.classLink_spec hown hl1 e.platform hpl
        obtain ⟨a8, b8, h1, h2, h3⟩ := hn1
        cases Option.some.inj (h1.symm.trans hcl)
        cases Option.some.inj (h2.symm.trans hc6)
        exact Or.inr ⟨hz0, _, hcl6, h3⟩) hx (Or.inr ⟨h0, c4, hcl5, hasg⟩)
  obtain ⟨t, a1, b1⟩ := kk (T.setVm vm') hT X'
  exact ⟨t, st.trans a1, b1⟩
end Rows
section Ends
variable {p : Program} {l : Launch} {e : Env} {R : Room} {s : State} {m : MethodId} {args : Array Value} {below : List Frame} {meth : Method} {c : Code} {H : Heap} {locs : List Loc} {cells slots : Nat} {Q : State → Prop}
variable {mc ms : Nat} {free : Addr → Prop} {A0 A1 : Nat → Prop} {H0 : Heap} {a : Array Value} {ls : Array Slot} {st0 rest : List Value}
variable {Qc : Array Value → State → Outcome → State → Prop} {XC : String → State → State → Prop}
/-- what a body that may throw owes at its end -/
def vx_MQ (below : List Frame) (Qc : Array Value → State → Outcome → State → Prop) (XC : String → State → State → Prop) (a : Array Value) (s : State) (mc ms : Nat) (free : Addr → Prop) : State → Prop := fun t =>
  ∃ o, t.status = .running ∧ Ended t below o ∧ vx_Q Qc XC mc ms free a s o t
theorem vx_ret {g : JFrame} {mc ms : Nat} (k : W p l e R s m args below meth c H locs cells slots (MQ below Qc args s mc ms free) g) : W p l e R s m args below meth c H locs cells slots (vx_MQ below Qc XC args s mc ms free) g := by
  intro T hT X
  obtain ⟨t, a1, o, b1, b2, b3, b4⟩ := k T hT X
  exact ⟨t, a1, o, b1, b2, Or.inl ⟨b3, b4⟩⟩
/-- not caught here: it goes on to the caller -/
theorem vx_widen {g : JFrame} {q : Addr} {k n : Nat} (h1 : cells ≤ k) (h2 : slots ≤ n) (kk : vx_W p l e R s m args below meth c H locs k n Q g q) : vx_W p l e R s m args below meth c H locs cells slots Q g q := fun T hT X => kk T hT (stand_widen X h1 h2)
theorem vx_out {pc : Nat} {E : String} {ce : Cell} {q : Addr} {mc ms : Nat} (hout : ∀ x ∈ c.exceptionTable.toList, covers x pc = false) (hlocks : meth.locks = false) (hcell : H[q]? = some ce) (hv : ce.vm = .none) (hcl : s.vm.findClass E = some ce.cls)
    (hx : ∀ t : State, t.heap = H → s.vm.Alike t.vm → XC E s t) (hf : ∀ z ∈ locs, free z.base) (hc : cells ≤ mc) (hs : slots ≤ ms) :
    vx_W p l e R s m args below meth c H locs cells slots (vx_MQ below Qc XC args s mc ms free) (F0 m pc ls rest) q := by
  intro T hT X
  obtain ⟨st1, hrun, hend, hW, hsm⟩ := X.leaveThrown q (g := F0 m pc ls rest) rfl rfl rfl hout hlocks
  have hcell9 : (T.setFrames (.throwing q :: below)).heap[q]? = some ce := by
    show T.heap[q]? = some ce
    rw [hT]; exact hcell
  exact ⟨_, st1, .threw q, hrun, hend, Or.inr ⟨q, rfl, E, ce, locs, hx _ hT hW.alike, hcell9, hv, hcl, hW, hsm.mono hc hs, hf⟩⟩
theorem vx_frame {U : State} {k n : Nat} (h : s.sameButNew ({ U with vm := s.vm } : State) locs k n) : s.heap.size ≤ U.heap.size ∧ ∀ q : Nat, q < s.heap.size → (∀ z ∈ locs, z.base ≠ q) → U.heap[q]? = s.heap[q]? := by
  obtain ⟨-, h2, -, -, -, h6⟩ := h
  refine ⟨h2, fun q hq hz => ?_⟩
  obtain ⟨c9, e1, e2, e3, e4⟩ := h6 q _ (Array.getElem?_eq_getElem hq)
  have hs : c9.slots = (s.heap[q]).slots := Array.ext_getElem? fun i => e4 i fun hm => hz _ hm rfl
  have h9 : c9 = s.heap[q] := by
    rw [hs] at e2
    exact e2
  have e5 : U.heap[q]? = some c9 := e1
  rw [e5, h9, Array.getElem?_eq_getElem hq]
/-- the words of a throw but the four that speak of the heap -/
def vx_no (w : Cond) : Bool := decide (w ≠ .isRef (.static Bundle.tN "UNASSIGNED_STACK" Bundle.steD)) && decide (w ≠ .isRef (.static Bundle.tN "SUPPRESSED_SENTINEL" Bundle.listD)) && decide (w ≠ .laysStatic Bundle.tN "UNASSIGNED_STACK" Bundle.steD) && decide (w ≠ .laysStatic Bundle.tN "SUPPRESSED_SENTINEL" Bundle.listD)
def vx_at0 (own : String) (ic : Nat) (X : String) (names : List String) : List Cond := (Bundle.ownAtoms0 own ic X names).filter vx_no
def vx_atS (own : String) (ic : Nat) (X : String) (names : List String) : List Cond := (Bundle.ownAtoms own ic X names).filter vx_no
/-- a word that the tables alone decide, or a good one -/
def vx_ot (w : Cond) : Bool := w.onTables || goodWord w
theorem vx_ot_at {args a' : Array Value} {s U : State} {w : Cond} (hW : s.WarmedH U.vm) (hvm : s.vm = U.vm) (hg : vx_ot w = true) (h : w.before args s = true) : w.before a' U = true := by
  simp only [vx_ot, Bool.or_eq_true] at hg
  rcases hg with hg | hg
  · exact va_tabs hg hvm h
  · exact word_at hW (good_of_word hg) h
/-- a list's words: the good ones out of the method's own list, the others by premises of their own -/
theorem vx_hat {args : Array Value} {s : State} {L B : List Cond} (h1 : ∀ w ∈ L.filter goodWord, w.before args s = true) (h2 : ∀ w ∈ L.filter (fun w => !goodWord w), w ∈ B) (h3 : ∀ w ∈ B, w.before args s = true) : ∀ w ∈ L, w.before args s = true := by
  intro w hw
  by_cases g : goodWord w = true
  · exact h1 w (List.mem_filter.mpr ⟨hw, g⟩)
  · refine h3 w (h2 w (List.mem_filter.mpr ⟨hw, ?_⟩))
    show (!goodWord w) = true
    cases hgw : goodWord w
    · rfl
    · exact absurd hgw g
theorem vx_c {args : Array Value} {s : State} {w : Cond} {B : List Cond} (h : w.before args s = true) (t : ∀ w ∈ B, w.before args s = true) : ∀ w' ∈ w :: B, w'.before args s = true := fun w' h' => (List.mem_cons.mp h').elim (fun e => by rw [e]; exact h) (t w')
theorem vx_n {args : Array Value} {s : State} : ∀ w ∈ ([] : List Cond), w.before args s = true := fun _ h => nomatch h
theorem vx_own {args : Array Value} {s : State} {L : List Cond} (h1 : ∀ w ∈ L.filter vx_no, w.before args s = true)
    (hU : (Cond.isRef (.static Bundle.tN "UNASSIGNED_STACK" Bundle.steD)).before args s = true) (hN : (Cond.isRef (.static Bundle.tN "SUPPRESSED_SENTINEL" Bundle.listD)).before args s = true)
    (lU : (Cond.laysStatic Bundle.tN "UNASSIGNED_STACK" Bundle.steD).before args s = true) (lN : (Cond.laysStatic Bundle.tN "SUPPRESSED_SENTINEL" Bundle.listD).before args s = true) : ∀ w ∈ L, w.before args s = true := by
  intro w hw
  by_cases e1 : w = .isRef (.static Bundle.tN "UNASSIGNED_STACK" Bundle.steD)
  · rw [e1]; exact hU
  · by_cases e2 : w = .isRef (.static Bundle.tN "SUPPRESSED_SENTINEL" Bundle.listD)
    · rw [e2]; exact hN
    · by_cases e3 : w = .laysStatic Bundle.tN "UNASSIGNED_STACK" Bundle.steD
      · rw [e3]; exact lU
      · by_cases e4 : w = .laysStatic Bundle.tN "SUPPRESSED_SENTINEL" Bundle.listD
        · rw [e4]; exact lN
        · exact h1 w (List.mem_filter.mpr ⟨hw, by unfold vx_no; rw [decide_eq_true e1, decide_eq_true e2, decide_eq_true e3, decide_eq_true e4]; rfl⟩)
/-- where a static field lies, its class's statics cell in H -/
def vx_L (C n d : String) (A : Nat → Prop) (U : State) (H : Heap) : Prop := ∃ (c : ClassId) (k : Class) (i : Nat) (f : Field) (a : Nat) (cell : Cell), U.vm.findClass C = some c ∧ U.fieldFound? C n d = some (c, k, i, f) ∧ f.isStatic = true ∧ k.statics = some a ∧ H[a]? = some cell ∧ cell.vm.isStatics = true ∧ cell.cls = c ∧ f.slot < cell.slots.size ∧ k.staticTypes[f.slot]? = some f.type ∧ ¬ A a
theorem vx_L.moved {C n d : String} {A : Nat → Prop} {u U : State} {H : Heap} (hvm : u.vm.Alike U.vm) (h : vx_L C n d A u H) : vx_L C n d A U H := by
  obtain ⟨c, k, i, f, a, cell, h1, h2, h3, h4, h5, h6, h7, h8, h9, h10⟩ := h
  obtain ⟨k', hi', he⟩ := State.fieldFound?_setVm hvm h2
  exact ⟨c, k', i, f, a, cell, by rw [hvm.findClass]; exact h1, hi', h3, by rw [he]; exact h4, h5, h6, h7, h8, by rw [he]; exact h9, h10⟩
theorem vx_L.kept {C n d : String} {A : Nat → Prop} {U : State} {H H1 : Heap} (h : vx_L C n d A U H) (hq : ∀ a : Nat, a < H.size → ¬ A a → H1[a]? = H[a]?) : vx_L C n d A U H1 := by
  obtain ⟨c, k, i, f, a, cell, h1, h2, h3, h4, h5, h6, h7, h8, h9, h10⟩ := h
  exact ⟨c, k, i, f, a, cell, h1, h2, h3, h4, by rw [hq a (Array.getElem?_eq_some_iff.mp h5).1 h10]; exact h5, h6, h7, h8, h9, h10⟩
theorem vx_L.narrow {C n d : String} {A B : Nat → Prop} {U : State} {H : Heap} (h : vx_L C n d A U H) (hAB : ∀ q, B q → A q) : vx_L C n d B U H := by
  obtain ⟨c, k, i, f, a, cell, h1, h2, h3, h4, h5, h6, h7, h8, h9, h10⟩ := h
  exact ⟨c, k, i, f, a, cell, h1, h2, h3, h4, h5, h6, h7, h8, h9, fun z => h10 (hAB _ z)⟩
theorem vx_L.word {C n d : String} {A : Nat → Prop} {s : State} {args : Array Value} (h : vx_L C n d A s s.heap) : (Cond.laysStatic C n d).before args s = true := by
  obtain ⟨c, k, i, f, a, cell, h1, h2, h3, h4, h5, h6, h7, h8, h9, -⟩ := h
  show (Cond.laysStatic C n d).holds args s none s [] = true
  exact Cond.laysStatic_of h1 h2 h3 h4 h5 h6 h7 h8 h9
/-- .. and what it holds: null or some reference -/
def vx_Zq (C n d : String) (A : Nat → Prop) (U : State) (H : Heap) : Prop := va_Zq C n d A U H ∧ vx_L C n d A U H
theorem vx_Zq.moved {C n d : String} {A : Nat → Prop} {u U : State} {H : Heap} (hvm : u.vm.Alike U.vm) (h : vx_Zq C n d A u H) : vx_Zq C n d A U H := ⟨va_Zq.moved hvm h.1, vx_L.moved hvm h.2⟩
theorem vx_Zq.kept {C n d : String} {A : Nat → Prop} {U : State} {H H1 : Heap} (h : vx_Zq C n d A U H) (hq : ∀ a : Nat, a < H.size → ¬ A a → H1[a]? = H[a]?) : vx_Zq C n d A U H1 := ⟨va_Zq.kept h.1 hq, vx_L.kept h.2 hq⟩
theorem vx_Zq.narrow {C n d : String} {A B : Nat → Prop} {U : State} {H : Heap} (h : vx_Zq C n d A U H) (hAB : ∀ q, B q → A q) : vx_Zq C n d B U H := ⟨va_Zq.narrow h.1 hAB, vx_L.narrow h.2 hAB⟩
theorem vx_Zqof {args : Array Value} {s : State} {C n d : String} {A : Nat → Prop} (hl : (Cond.laysStatic C n d).before args s = true) (hini : (Cond.initialized C).before args s = true) (h : (Cond.isRef (.static C n d)).before args s = true) (hA : ∀ a : Nat, a < s.heap.size → ¬ A a) : vx_Zq C n d A s s.heap := by
  refine ⟨va_Zqof hl hini h hA, ?_⟩
  obtain ⟨c, k, i, f, a, cell, h1, h2, h3, h4, h5, h6, h7, h8, h9⟩ := Cond.laysStatic_spec hl
  exact ⟨c, k, i, f, a, cell, h1, h2, h3, h4, h5, h6, h7, h8, h9, hA a (Array.getElem?_eq_some_iff.mp h5).1⟩
theorem vx_isRef {C n d : String} {v : Value} {A : Nat → Prop} {s : State} {args : Array Value} (h : va_Z C n d v A s s.heap) (hv : v.isRef = true) : (Cond.isRef (.static C n d)).before args s = true := by
  obtain ⟨cf, kf, fi, f, a, cell, h1, h2, h3, h4, h5, h6, h7, -⟩ := h
  have he : (Term.static C n d).eval args s none [] s = some v := by
    simp [Term.eval, State.fieldNamed?, h1, h2, h4, h5, h6, h7]
  simp only [Cond.before, Cond.holds, Cond.value, he]
  cases v <;> simp_all [Value.isRef]
theorem vx_isRefq {C n d : String} {A : Nat → Prop} {s : State} {args : Array Value} (h : va_Zq C n d A s s.heap) : (Cond.isRef (.static C n d)).before args s = true := by
  rcases h with h | ⟨t, h⟩
  · exact vx_isRef h rfl
  · exact vx_isRef h rfl
/-- the same frame, seen from here: as if the method were called anew in this heap -/
theorem vx_rebase {T : State} (X : Stand p l e R s m args below meth c T locs cells slots) {R' : Room} (hf : R'.frames ≤ R.frames) (hl : R'.locals ≤ R.locals) (hc : cells + R'.cells ≤ R.cells) (hs : slots + R'.slots ≤ R.slots) :
    Stand p l e R' ((T.setVm s.vm).setFrames (.invoking m args :: below)) m args below meth c T [] 0 0 := by
  have htop : (T.setVm s.vm).topJava?.isSome := X.here.top
  have hF : ((T.setVm s.vm).setFrames (.invoking m args :: below)).frames = .invoking m args :: below := State.frames_setFrames _ (State.cur_lt_of_top htop)
  obtain ⟨g₀, hg0⟩ := Option.isSome_iff_exists.mp htop
  obtain ⟨r, hr⟩ := State.topJava?_eq_some.mp hg0
  have hl9 : e.platform.stackLimits (T.setVm s.vm).me = e.platform.stackLimits s.me := X.limits
  have hb9 : (T.setVm s.vm).me.stackBytes = s.me.stackBytes := X.bytes
  refine ⟨X.admits, X.cas, X.clock, hF, ?_, X.hears, X.method, X.code, X.here, X.tail, X.warmed, ?_, ?_, ?_⟩
  · have h := X.room
    have hU : ((T.setVm s.vm).setFrames (.invoking m args :: below)).localsInUse = s.localsInUse := by
      rw [State.localsInUse_invoking hF (meth := meth) (c := c) X.method X.code, State.localsInUse_invoking X.frames X.method X.code]
    simp only [State.hasRoom, Bool.and_eq_true, decide_eq_true_eq] at h ⊢
    obtain ⟨⟨⟨⟨h1, h2, h3, h4, h5, h6⟩, h7⟩, h8⟩, h9⟩ := h
    rw [X.frames, List.length_cons] at h2 h3
    have q1 := X.heapSize
    have q2 := X.used
    simp only [hF, hU, List.length_cons, State.stackLimits_setFrames, State.stackBytes_setFrames, hl9, hb9]
    refine ⟨⟨⟨⟨by omega, by omega, by omega, by omega, by omega, h6⟩, ?_⟩, ?_⟩, X.book⟩
    · show T.heap.size + R'.cells ≤ e.platform.maxCells
      omega
    · show T.slotsUsed + R'.slots ≤ e.platform.maxSlots
      omega
  · rw [State.stackLimits_setFrames]; rfl
  · rw [State.stackBytes_setFrames]; rfl
  · refine ⟨?_, Nat.le_refl _, Nat.le_refl _, ?_, ?_, fun a c9 h9 => ⟨c9, h9, rfl, rfl, fun _ _ => rfl⟩⟩
    · obtain ⟨t, ht, -⟩ := State.frames_cons hr
      show T.setVm s.vm = { ((T.setVm s.vm).setFrames (.invoking m args :: below)).setFrames (T.setVm s.vm).frames with heap := T.heap, slotsUsed := T.slotsUsed }
      rw [State.setFrames_setFrames, State.setFrames_self ht]
      rfl
    · show T.slotsUsed = T.slotsUsed + ((T.heap.toList.drop T.heap.size).map (·.slots.size)).sum
      rw [List.drop_eq_nil_of_le (Nat.le_of_eq Array.length_toList)]
      rfl
    · show ((T.heap.toList.drop T.heap.size).map (·.slots.size)).sum ≤ 0
      rw [List.drop_eq_nil_of_le (Nat.le_of_eq Array.length_toList)]
      exact Nat.le_refl _
/-- 'throw new E()': new; dup; invokespecial; athrow -/
theorem vx_throw0 {cc : ByteArray} {pc : Nat} (hexec : p.tables.exec = Jvm.exec) (hb : c.code = cc) (hl : l.stackTraces = false) {own cls : String} {names : List String} {ik ic mc ms : Nat} {A : Nat → Prop}
    (hown : s.vm.findClass own = some m.cls) (hcls : Bundle.fit cls = true) (hnames : ∀ n ∈ names, Bundle.fit n = true)
    (hk : (Cond.classLink own ik cls).before args s = true) (hini : (Cond.initialized cls).before args s = true) (hat : ∀ w ∈ vx_at0 own ic cls names, w.before args s = true)
    (hgood : ∀ w ∈ Cond.classLink own ik cls :: Cond.initialized cls :: vx_at0 own ic cls names, vx_ot w = true)
    (hU : vx_Zq Bundle.tN "UNASSIGNED_STACK" Bundle.steD A s s.heap) (hN : vx_Zq Bundle.tN "SUPPRESSED_SENTINEL" Bundle.listD A s s.heap) (hS : va_S A s.heap H locs) (hsize : ls.size = c.maxLocals)
    (d0 : decode cc pc = .ok (.new ik, 3)) (d3 : decode cc (pc + 3) = .ok (.dup, 1)) (d4 : decode cc (pc + 4) = .ok (.invokespecial ic, 3)) (d7 : decode cc (pc + 7) = .ok (.athrow, 1))
    (hout : ∀ x ∈ c.exceptionTable.toList, covers x (pc + 7) = false)
    (hRframes : names.length + 3 < R.frames) (hRlocals : (rest.map fun v => v.category).sum + (13 * (names.length + 1) + 42) ≤ R.locals) (hRcells : cells + 1 ≤ R.cells) (hRslots : slots + 6 ≤ R.slots) (hlocks : meth.locks = false)
    (hx : ∀ t : State, s.vm.Alike t.vm → H.size ≤ t.heap.size → (∀ q : Nat, q < H.size → t.heap[q]? = H[q]?) → XC cls s t)
    (hf : ∀ z ∈ locs, free z.base) (hc : cells + 1 ≤ mc) (hs : slots + 6 ≤ ms) :
    W p l e R s m args below meth c H locs cells slots (vx_MQ below Qc XC args s mc ms free) (F0 m pc ls rest) := by
  intro T hT X
  have htr : e.platform.stackTraces = false := (show e.platform.stackTraces = l.stackTraces by rw [X.admits.platform]).trans hl
  have Y := vx_rebase X (R' := { frames := R.frames, locals := R.locals, cells := 1, slots := 6 }) (Nat.le_refl _) (Nat.le_refl _) hRcells hRslots
  obtain ⟨s', hA⟩ : ∃ z, z = (T.setVm s.vm).setFrames (.invoking m args :: below) := ⟨_, rfl⟩
  rw [← hA] at Y
  have hvm : s'.vm = s.vm := by rw [hA]; rfl
  have hhp : s'.heap = H := by rw [hA]; exact hT
  have hW0 : s.WarmedH s'.vm := by rw [hvm]; exact State.WarmedH.refl s
  have hat' : ∀ w ∈ vx_at0 own ic cls names, w.before args s' = true := fun w hw => vx_ot_at hW0 hvm.symm (hgood w (List.mem_cons_of_mem _ (List.mem_cons_of_mem _ hw))) (hat w hw)
  have hk' : (Cond.classLink own ik cls).before args s' = true := vx_ot_at hW0 hvm.symm (hgood _ List.mem_cons_self) hk
  have hini' : (Cond.initialized cls).before args s' = true := vx_ot_at hW0 hvm.symm (hgood _ (List.mem_cons_of_mem _ List.mem_cons_self)) hini
  have hU' : vx_Zq Bundle.tN "UNASSIGNED_STACK" Bundle.steD A s' s'.heap := by rw [hhp]; exact vx_Zq.moved hW0.alike (hU.kept hS.2.1)
  have hN' : vx_Zq Bundle.tN "SUPPRESSED_SENTINEL" Bundle.listD A s' s'.heap := by rw [hhp]; exact vx_Zq.moved hW0.alike (hN.kept hS.2.1)
  have h : ∀ w ∈ Bundle.ownAtoms0 own ic cls names, w.before args s' = true := vx_own hat' (vx_isRefq hU'.1) (vx_isRefq hN'.1) hU'.2.word hN'.2.word
  have hown' : s'.vm.findClass own = some m.cls := by rw [hvm]; exact hown
  have hins : (Cond.instantiable cls 6).before args s' = true := h _ (by simp [Bundle.ownAtoms0])
  obtain ⟨vm₁, cX, kX, hfX, hkX, -, -, X₁, st1⟩ := Y.newCold hexec (own := own) (C := cls) (index := ik) (n := 6) hown' hk' hins hini'
    (g := F0 m pc ls rest) rfl (by rw [hb]; exact d0) (Nat.le_refl _) (Nat.le_refl _)
  generalize hT1 : (T.setVm vm₁).pushCell { cls := cX, slots := kX.instanceTypes.map defaultValue, vm := .none } = T1 at X₁ st1
  have hcat : (Value.ref T.heap.size).category = 1 := rfl
  have hcellA : T1.heap[T.heap.size]? = some (freshCell cX kX) := by rw [← hT1]; exact State.heap_pushCell_size _ _
  have d3' : decode c.code (pc + 3) = .ok (.dup, 1) := by rw [hb]; exact d3
  obtain ⟨U, hsteps, hrun, hend, hW, hsame, ce, hce, hO⟩ := X₁.ctorThrow0 hexec htr (own := own) (cls := cls) (names := names) (ic := ic) hown' hcls hnames h (fun x hx => nomatch hx) hfX hkX hcellA (by rw [hhp, hT]; exact Nat.le_refl _)
    (g := { method := m, pc := pc + 4, locals := ls, stack := .ref T.heap.size :: .ref T.heap.size :: rest, locked := none }) rfl hsize rfl rfl (rest := rest) rfl
    (by rw [hb]; exact d4) (by rw [hb]; exact d7) hout hRframes (by simp only [List.map_cons, List.sum_cons, hcat]; omega) hlocks
  obtain ⟨f1, f2⟩ := vx_frame hsame
  rw [hhp] at f1 f2
  have hWs : s.WarmedH U.vm := State.WarmedH.trans hW0 hW
  have hcl : s.vm.findClass cls = some ce.cls := by
    have h9 := hO.cls
    rw [hvm] at h9
    exact h9
  have hall : s.sameButNew ({ U with vm := s.vm } : State) locs mc ms := by
    subst hA
    obtain ⟨e1, e2⟩ := hsame
    rw [State.setFrames_setFrames] at e1
    have h2 : (T.setVm s.vm).sameButNew ({ U with vm := s.vm } : State) [] (0 + 1) (0 + 6) := ⟨e1, e2⟩
    have h3 := X.same.trans h2
    rw [List.append_nil] at h3
    exact h3.mono hc hs
  refine ⟨U, ?_, .threw T.heap.size, hrun, hend, Or.inr ⟨T.heap.size, rfl, cls, ce, locs, hx U hWs.alike f1 (fun q hq => f2 q hq (fun z hz => nomatch hz)), hce, hO.vm, hcl, hWs, hall, hf⟩⟩
  refine st1 _ ?_
  show Steps p.tables e below (T1.setTop { method := m, pc := pc + 3, locals := ls, stack := .ref T.heap.size :: rest, locked := none }) _
  jvm_step X₁.here [X₁.here.top, hexec, d3', Value.category]
  exact hsteps
/-- 'throw new E("text")': new; dup; ldc; invokespecial; athrow -/
theorem vx_throwS {cc : ByteArray} {pc : Nat} (hexec : p.tables.exec = Jvm.exec) (hb : c.code = cc) (hl : l.stackTraces = false) {own cls text : String} {names : List String} {ik is ic mc ms sa : Nat} {A : Nat → Prop}
    (hown : s.vm.findClass own = some m.cls) (hcls : Bundle.fit cls = true) (hnames : ∀ n ∈ names, Bundle.fit n = true)
    (hk : (Cond.classLink own ik cls).before args s = true) (hini : (Cond.initialized cls).before args s = true) (hstr : vk_R own is text sa s) (hat : ∀ w ∈ vx_atS own ic cls names, w.before args s = true)
    (hgood : ∀ w ∈ Cond.classLink own ik cls :: Cond.initialized cls :: vx_atS own ic cls names, vx_ot w = true)
    (hU : vx_Zq Bundle.tN "UNASSIGNED_STACK" Bundle.steD A s s.heap) (hN : vx_Zq Bundle.tN "SUPPRESSED_SENTINEL" Bundle.listD A s s.heap) (hS : va_S A s.heap H locs) (hsize : ls.size = c.maxLocals)
    (d0 : decode cc pc = .ok (.new ik, 3)) (d3 : decode cc (pc + 3) = .ok (.dup, 1)) (d4 : decode cc (pc + 4) = .ok (.ldc is, 2)) (d6 : decode cc (pc + 6) = .ok (.invokespecial ic, 3)) (d9 : decode cc (pc + 9) = .ok (.athrow, 1))
    (hout : ∀ x ∈ c.exceptionTable.toList, covers x (pc + 9) = false)
    (hRframes : names.length + 3 < R.frames) (hRlocals : (rest.map fun v => v.category).sum + (13 * (names.length + 1) + 43) ≤ R.locals) (hRcells : cells + 1 ≤ R.cells) (hRslots : slots + 6 ≤ R.slots) (hlocks : meth.locks = false)
    (hx : ∀ t : State, s.vm.Alike t.vm → H.size ≤ t.heap.size → (∀ q : Nat, q < H.size → t.heap[q]? = H[q]?) → XC cls s t)
    (hf : ∀ z ∈ locs, free z.base) (hc : cells + 1 ≤ mc) (hs : slots + 6 ≤ ms) :
    W p l e R s m args below meth c H locs cells slots (vx_MQ below Qc XC args s mc ms free) (F0 m pc ls rest) := by
  intro T hT X
  have htr : e.platform.stackTraces = false := (show e.platform.stackTraces = l.stackTraces by rw [X.admits.platform]).trans hl
  have Y := vx_rebase X (R' := { frames := R.frames, locals := R.locals, cells := 1, slots := 6 }) (Nat.le_refl _) (Nat.le_refl _) hRcells hRslots
  obtain ⟨s', hA⟩ : ∃ z, z = (T.setVm s.vm).setFrames (.invoking m args :: below) := ⟨_, rfl⟩
  rw [← hA] at Y
  have hvm : s'.vm = s.vm := by rw [hA]; rfl
  have hhp : s'.heap = H := by rw [hA]; exact hT
  have hW0 : s.WarmedH s'.vm := by rw [hvm]; exact State.WarmedH.refl s
  have hat' : ∀ w ∈ vx_atS own ic cls names, w.before args s' = true := fun w hw => vx_ot_at hW0 hvm.symm (hgood w (List.mem_cons_of_mem _ (List.mem_cons_of_mem _ hw))) (hat w hw)
  have hk' : (Cond.classLink own ik cls).before args s' = true := vx_ot_at hW0 hvm.symm (hgood _ List.mem_cons_self) hk
  have hini' : (Cond.initialized cls).before args s' = true := vx_ot_at hW0 hvm.symm (hgood _ (List.mem_cons_of_mem _ List.mem_cons_self)) hini
  have hU' : vx_Zq Bundle.tN "UNASSIGNED_STACK" Bundle.steD A s' s'.heap := by rw [hhp]; exact vx_Zq.moved hW0.alike (hU.kept hS.2.1)
  have hN' : vx_Zq Bundle.tN "SUPPRESSED_SENTINEL" Bundle.listD A s' s'.heap := by rw [hhp]; exact vx_Zq.moved hW0.alike (hN.kept hS.2.1)
  have h : ∀ w ∈ Bundle.ownAtoms own ic cls names, w.before args s' = true := vx_own hat' (vx_isRefq hU'.1) (vx_isRefq hN'.1) hU'.2.word hN'.2.word
  have hown' : s'.vm.findClass own = some m.cls := by rw [hvm]; exact hown
  have hins : (Cond.instantiable cls 6).before args s' = true := h _ (by simp [Bundle.ownAtoms])
  obtain ⟨vm₁, cX, kX, hfX, hkX, -, -, X₁, st1⟩ := Y.newCold hexec (own := own) (C := cls) (index := ik) (n := 6) hown' hk' hins hini'
    (g := F0 m pc ls rest) rfl (by rw [hb]; exact d0) (Nat.le_refl _) (Nat.le_refl _)
  generalize hT1 : (T.setVm vm₁).pushCell { cls := cX, slots := kX.instanceTypes.map defaultValue, vm := .none } = T1 at X₁ st1
  have hcat : (Value.ref T.heap.size).category = 1 := rfl
  have hcellA : T1.heap[T.heap.size]? = some (freshCell cX kX) := by rw [← hT1]; exact State.heap_pushCell_size _ _
  have d3' : decode c.code (pc + 3) = .ok (.dup, 1) := by rw [hb]; exact d3
  have d4' : decode c.code (pc + 4) = .ok (.ldc is, 2) := by rw [hb]; exact d4
  have hstr' : vk_R own is text sa s' := vk_R.warm hW0 hstr
  obtain ⟨U, hsteps, hrun, hend, hW, hsame, ce, hce, hO⟩ := X₁.ctorThrowS hexec htr (own := own) (cls := cls) (names := names) (ic := ic) hown' hcls hnames h (fun x hx => nomatch hx) hfX hkX hcellA (by rw [hhp, hT]; exact Nat.le_refl _) (msg := .ref sa) rfl
    (g := { method := m, pc := pc + 6, locals := ls, stack := .ref sa :: .ref T.heap.size :: .ref T.heap.size :: rest, locked := none }) rfl hsize rfl rfl (rest := rest) rfl
    (by rw [hb]; exact d6) (by rw [hb]; exact d9) hout hRframes (by simp only [List.map_cons, List.sum_cons, hcat]; omega) hlocks
  obtain ⟨f1, f2⟩ := vx_frame hsame
  rw [hhp] at f1 f2
  have hWs : s.WarmedH U.vm := State.WarmedH.trans hW0 hW
  have hcl : s.vm.findClass cls = some ce.cls := by
    have h9 := hO.cls
    rw [hvm] at h9
    exact h9
  have hall : s.sameButNew ({ U with vm := s.vm } : State) locs mc ms := by
    subst hA
    obtain ⟨e1, e2⟩ := hsame
    rw [State.setFrames_setFrames] at e1
    have h2 : (T.setVm s.vm).sameButNew ({ U with vm := s.vm } : State) [] (0 + 1) (0 + 6) := ⟨e1, e2⟩
    have h3 := X.same.trans h2
    rw [List.append_nil] at h3
    exact h3.mono hc hs
  refine ⟨U, ?_, .threw T.heap.size, hrun, hend, Or.inr ⟨T.heap.size, rfl, cls, ce, locs, hx U hWs.alike f1 (fun q hq => f2 q hq (fun z hz => nomatch hz)), hce, hO.vm, hcl, hWs, hall, hf⟩⟩
  refine st1 _ ?_
  show Steps p.tables e below (T1.setTop { method := m, pc := pc + 3, locals := ls, stack := .ref T.heap.size :: rest, locked := none }) _
  jvm_step X₁.here [X₁.here.top, hexec, d3', Value.category]
  exact X₁.ldcString hexec (own := own) (text := text) (index := is) (a := sa) hown' hstr'.1 hstr'.2
    (g := { method := m, pc := pc + 4, locals := ls, stack := .ref T.heap.size :: .ref T.heap.size :: rest, locked := none }) rfl d4' _ hsteps
/-- 'throw new E("text")', the text by a wide index -/
theorem vx_throwSW {cc : ByteArray} {pc : Nat} (hexec : p.tables.exec = Jvm.exec) (hb : c.code = cc) (hl : l.stackTraces = false) {own cls text : String} {names : List String} {ik is ic mc ms sa : Nat} {A : Nat → Prop}
    (hown : s.vm.findClass own = some m.cls) (hcls : Bundle.fit cls = true) (hnames : ∀ n ∈ names, Bundle.fit n = true)
    (hk : (Cond.classLink own ik cls).before args s = true) (hini : (Cond.initialized cls).before args s = true) (hstr : vk_R own is text sa s) (hat : ∀ w ∈ vx_atS own ic cls names, w.before args s = true)
    (hgood : ∀ w ∈ Cond.classLink own ik cls :: Cond.initialized cls :: vx_atS own ic cls names, vx_ot w = true)
    (hU : vx_Zq Bundle.tN "UNASSIGNED_STACK" Bundle.steD A s s.heap) (hN : vx_Zq Bundle.tN "SUPPRESSED_SENTINEL" Bundle.listD A s s.heap) (hS : va_S A s.heap H locs) (hsize : ls.size = c.maxLocals)
    (d0 : decode cc pc = .ok (.new ik, 3)) (d3 : decode cc (pc + 3) = .ok (.dup, 1)) (d4 : decode cc (pc + 4) = .ok (.ldc_w is, 3)) (d7 : decode cc (pc + 7) = .ok (.invokespecial ic, 3)) (d10 : decode cc (pc + 10) = .ok (.athrow, 1))
    (hout : ∀ x ∈ c.exceptionTable.toList, covers x (pc + 10) = false)
    (hRframes : names.length + 3 < R.frames) (hRlocals : (rest.map fun v => v.category).sum + (13 * (names.length + 1) + 43) ≤ R.locals) (hRcells : cells + 1 ≤ R.cells) (hRslots : slots + 6 ≤ R.slots) (hlocks : meth.locks = false)
    (hx : ∀ t : State, s.vm.Alike t.vm → H.size ≤ t.heap.size → (∀ q : Nat, q < H.size → t.heap[q]? = H[q]?) → XC cls s t)
    (hf : ∀ z ∈ locs, free z.base) (hc : cells + 1 ≤ mc) (hs : slots + 6 ≤ ms) :
    W p l e R s m args below meth c H locs cells slots (vx_MQ below Qc XC args s mc ms free) (F0 m pc ls rest) := by
  intro T hT X
  have htr : e.platform.stackTraces = false := (show e.platform.stackTraces = l.stackTraces by rw [X.admits.platform]).trans hl
  have Y := vx_rebase X (R' := { frames := R.frames, locals := R.locals, cells := 1, slots := 6 }) (Nat.le_refl _) (Nat.le_refl _) hRcells hRslots
  obtain ⟨s', hA⟩ : ∃ z, z = (T.setVm s.vm).setFrames (.invoking m args :: below) := ⟨_, rfl⟩
  rw [← hA] at Y
  have hvm : s'.vm = s.vm := by rw [hA]; rfl
  have hhp : s'.heap = H := by rw [hA]; exact hT
  have hW0 : s.WarmedH s'.vm := by rw [hvm]; exact State.WarmedH.refl s
  have hat' : ∀ w ∈ vx_atS own ic cls names, w.before args s' = true := fun w hw => vx_ot_at hW0 hvm.symm (hgood w (List.mem_cons_of_mem _ (List.mem_cons_of_mem _ hw))) (hat w hw)
  have hk' : (Cond.classLink own ik cls).before args s' = true := vx_ot_at hW0 hvm.symm (hgood _ List.mem_cons_self) hk
  have hini' : (Cond.initialized cls).before args s' = true := vx_ot_at hW0 hvm.symm (hgood _ (List.mem_cons_of_mem _ List.mem_cons_self)) hini
  have hU' : vx_Zq Bundle.tN "UNASSIGNED_STACK" Bundle.steD A s' s'.heap := by rw [hhp]; exact vx_Zq.moved hW0.alike (hU.kept hS.2.1)
  have hN' : vx_Zq Bundle.tN "SUPPRESSED_SENTINEL" Bundle.listD A s' s'.heap := by rw [hhp]; exact vx_Zq.moved hW0.alike (hN.kept hS.2.1)
  have h : ∀ w ∈ Bundle.ownAtoms own ic cls names, w.before args s' = true := vx_own hat' (vx_isRefq hU'.1) (vx_isRefq hN'.1) hU'.2.word hN'.2.word
  have hown' : s'.vm.findClass own = some m.cls := by rw [hvm]; exact hown
  have hins : (Cond.instantiable cls 6).before args s' = true := h _ (by simp [Bundle.ownAtoms])
  obtain ⟨vm₁, cX, kX, hfX, hkX, -, -, X₁, st1⟩ := Y.newCold hexec (own := own) (C := cls) (index := ik) (n := 6) hown' hk' hins hini'
    (g := F0 m pc ls rest) rfl (by rw [hb]; exact d0) (Nat.le_refl _) (Nat.le_refl _)
  generalize hT1 : (T.setVm vm₁).pushCell { cls := cX, slots := kX.instanceTypes.map defaultValue, vm := .none } = T1 at X₁ st1
  have hcat : (Value.ref T.heap.size).category = 1 := rfl
  have hcellA : T1.heap[T.heap.size]? = some (freshCell cX kX) := by rw [← hT1]; exact State.heap_pushCell_size _ _
  have d3' : decode c.code (pc + 3) = .ok (.dup, 1) := by rw [hb]; exact d3
  have d4' : decode c.code (pc + 4) = .ok (.ldc_w is, 3) := by rw [hb]; exact d4
  have hstr' : vk_R own is text sa s' := vk_R.warm hW0 hstr
  obtain ⟨U, hsteps, hrun, hend, hW, hsame, ce, hce, hO⟩ := X₁.ctorThrowS hexec htr (own := own) (cls := cls) (names := names) (ic := ic) hown' hcls hnames h (fun x hx => nomatch hx) hfX hkX hcellA (by rw [hhp, hT]; exact Nat.le_refl _) (msg := .ref sa) rfl
    (g := { method := m, pc := pc + 7, locals := ls, stack := .ref sa :: .ref T.heap.size :: .ref T.heap.size :: rest, locked := none }) rfl hsize rfl rfl (rest := rest) rfl
    (by rw [hb]; exact d7) (by rw [hb]; exact d10) hout hRframes (by simp only [List.map_cons, List.sum_cons, hcat]; omega) hlocks
  obtain ⟨f1, f2⟩ := vx_frame hsame
  rw [hhp] at f1 f2
  have hWs : s.WarmedH U.vm := State.WarmedH.trans hW0 hW
  have hcl : s.vm.findClass cls = some ce.cls := by
    have h9 := hO.cls
    rw [hvm] at h9
    exact h9
  have hall : s.sameButNew ({ U with vm := s.vm } : State) locs mc ms := by
    subst hA
    obtain ⟨e1, e2⟩ := hsame
    rw [State.setFrames_setFrames] at e1
    have h2 : (T.setVm s.vm).sameButNew ({ U with vm := s.vm } : State) [] (0 + 1) (0 + 6) := ⟨e1, e2⟩
    have h3 := X.same.trans h2
    rw [List.append_nil] at h3
    exact h3.mono hc hs
  refine ⟨U, ?_, .threw T.heap.size, hrun, hend, Or.inr ⟨T.heap.size, rfl, cls, ce, locs, hx U hWs.alike f1 (fun q hq => f2 q hq (fun z hz => nomatch hz)), hce, hO.vm, hcl, hWs, hall, hf⟩⟩
  refine st1 _ ?_
  show Steps p.tables e below (T1.setTop { method := m, pc := pc + 3, locals := ls, stack := .ref T.heap.size :: rest, locked := none }) _
  jvm_step X₁.here [X₁.here.top, hexec, d3', Value.category]
  exact X₁.ldcStringW hexec (own := own) (text := text) (index := is) (a := sa) hown' hstr'.1 hstr'.2
    (g := { method := m, pc := pc + 4, locals := ls, stack := .ref T.heap.size :: .ref T.heap.size :: rest, locked := none }) rfl d4' _ hsteps
end Ends
section Bodies
variable {l : Launch}
theorem vx_ofW {y : MethodName} {ws ws' : List Cond} {rm : Room} {Pc : Array Value → State → Prop} {Qc : Array Value → State → Outcome → State → Prop} {XC : String → State → State → Prop} {mc ms : Nat} {free : Addr → Prop} {cc : ByteArray} {maxL : Nat} {ret : Option FieldType}
    (hy : plainName y.cls = true) (hw : ws = Cond.code y cc maxL ret :: ws')
    (body : ∀ p e s m args below meth c s₁, BodyLoose p l y (headSpec ws rm) cc maxL ret e s m args below meth c s₁ → c.maxLocals = maxL → (∀ x ∈ c.exceptionTable.toList, False) → Pc args s →
      W p l e (headSpec ws rm).room s m args below meth c s.heap [] 0 0 (vx_MQ below Qc XC args s mc ms free) (entryFrame m args maxL)) : vx_Met l y ws rm Pc Qc XC mc ms free := by
  refine MetFree.of_bodyS (code := cc) (maxLocals := maxL) (ret := ret) hy ?_ ?_
  · intro args s m h hn
    obtain ⟨meth, c, h1, h2, h3, h4, h5, h6, -, -⟩ := Cond.code_spec hn (atoms_spec (ws := ws) h _ (by rw [hw]; exact List.mem_cons_self))
    exact ⟨meth, c, h1, h2, h3, h4, h5, h6⟩
  · intro p e s m args below meth c s₁ B hml hP _
    have hh0 : s₁.heap = s.heap := by rw [B.state]; rfl
    have ht : ∀ x ∈ c.exceptionTable.toList, False := by
      obtain ⟨meth9, c9, h1, h2, -, -, -, -, h7, -⟩ := Cond.code_spec B.named (atoms_spec (ws := ws) B.pre _ (by rw [hw]; exact List.mem_cons_self))
      cases Option.some.inj (h1.symm.trans B.method)
      cases Option.some.inj (h2.symm.trans (Stand.of_body B).code)
      intro x hx
      rw [Array.isEmpty_iff.mp h7] at hx
      cases hx
    obtain ⟨t, a1, o, b1, b2, b3⟩ := body p e s m args below meth c s₁ B hml ht hP s₁ hh0 (Stand.of_body B)
    exact ⟨t, o, a1, b1, b2, b3⟩
/-- the table of a body with handlers -/
theorem vx_table {p : Program} {x y : MethodName} {S : Spec} {cc bytes : ByteArray} {maxL maxL' : Nat} {ret ret' : Option FieldType} {e : Env} {s s₁ : State} {m : MethodId} {args : Array Value} {below : List Frame} {meth : Method} {c : Code} {hh : List (Nat × Nat × Nat × Nat)}
    (B : BodyLoose p l y S cc maxL ret e s m args below meth c s₁) (h : (Cond.codeWith y bytes maxL' ret' hh).before args s = true) : c.exceptionTable.toList = tableOf hh := by
  obtain ⟨m9, meth9, c9, hn9, h1, h2, -, -, h6, -⟩ := Cond.codeWith_spec h
  cases Option.some.inj (hn9.symm.trans B.named)
  cases Option.some.inj (h1.symm.trans B.method)
  cases Option.some.inj (h2.symm.trans (Stand.of_body B).code)
  rw [← h6, table_eq]
end Bodies
end VXA
/-! ===== END ===== -/
/-! ===== BEGIN a static call of a method with an exception table ===== -/
section VXS
variable {p : Program} {l : Launch} {e : Env} {R : Room} {s : State} {m : MethodId} {args : Array Value} {below : List Frame} {meth : Method} {c : Code} {T : State} {H : Heap} {locs : List Loc} {cells slots : Nat}
abbrev vx_CSW (R : Room) (s : State) (args : Array Value) (own : String) (index : Nat) (y : MethodName) (bytes : ByteArray) (maxL : Nat) (ret : Option FieldType) (hh : List (Nat × Nat × Nat × Nat)) (ws : List Cond) (rm : Room) (mc ms n : Nat) : Prop :=
  (rm.cells = mc ∧ rm.slots = ms ∧ rm.frames + 1 ≤ R.frames ∧ 8 + (maxL + 11) + rm.locals ≤ R.locals ∧ (∀ w ∈ ws, ∀ (a' : Array Value) (U : State), s.WarmedH U.vm → w.before a' U = true) ∧ Cond.codeWith y bytes maxL ret hh ∈ ws) ∧
  (Cond.codeWith y bytes maxL ret hh).before args s = true ∧ (Cond.initialized y.cls).before args s = true ∧ (y.cls ≠ "java/lang/invoke/MethodHandle" ∧ y.cls ≠ "java/lang/invoke/VarHandle") ∧
  (∀ sig, parseMethodDescriptor y.desc = some sig → n = sig.parameters.length) ∧ (Cond.methodLink own index y).before args s = true ∧ (Cond.static y).before args s = true
theorem vx_cwSW {own : String} {index maxL mc ms : Nat} {y : MethodName} {bytes : ByteArray} {ret : Option FieldType} {hh : List (Nat × Nat × Nat × Nat)} {Ts ws ws' : List Cond} {rm : Room} (n : Nat) (ht : ∀ w ∈ Ts, w.before args s = true) (hT : GoodIn Ts (va_wsS own index y ws)) (hw : ws = Cond.codeWith y bytes maxL ret hh :: ws') (hrc : rm.cells = mc) (hrs : rm.slots = ms)
    (hd : y.cls ≠ "java/lang/invoke/MethodHandle" ∧ y.cls ≠ "java/lang/invoke/VarHandle" ∧ (parseMethodDescriptor y.desc).map (fun d => d.parameters.length) = some n) (hR : rm.frames + 1 ≤ R.frames ∧ 8 + (maxL + 11) + rm.locals ≤ R.locals) :
    vx_CSW R s args own index y bytes maxL ret hh ws rm mc ms n := by
  have ok : ∀ w ∈ va_wsS own index y ws, w.before args s = true := fun w h => ht w (hT w h).1
  have hG : GoodIn Ts ws := fun w h => hT w (by unfold va_wsS; exact List.mem_append_right _ h)
  have hc : Cond.codeWith y bytes maxL ret hh ∈ ws := by rw [hw]; exact List.mem_cons_self
  refine ⟨⟨hrc, hrs, hR.1, hR.2, pay_in ht hG, hc⟩, ht _ (hG _ hc).1, ok _ (by simp [va_wsS]), ⟨hd.1, hd.2.1⟩, fun sig h => ?_, ok _ (by simp [va_wsS]), ok _ (by simp [va_wsS])⟩
  have h2 := hd.2.2
  rw [h] at h2
  exact (Option.some.inj h2).symm
theorem vx_callSW (X : Stand p l e R s m args below meth c T locs cells slots) (hexec : p.tables.exec = Jvm.exec) {own : String} {index : Nat} {y : MethodName} {bytes : ByteArray} {maxL : Nat} {ret : Option FieldType} {hh : List (Nat × Nat × Nat × Nat)}
    (hown : s.vm.findClass own = some m.cls) (hlink : (Cond.methodLink own index y).before args s = true) (hstat : (Cond.static y).before args s = true) (hinit : (Cond.initialized y.cls).before args s = true)
    (hcode : (Cond.codeWith y bytes maxL ret hh).before args s = true) (hy : y.cls ≠ "java/lang/invoke/MethodHandle" ∧ y.cls ≠ "java/lang/invoke/VarHandle")
    {W9 : Nat} {Pre : Pt → Array Value → Prop} {Post : Pt → Array Value → Option Value → Pt → Prop} (hK : Back l R p e below s args y 3 W9 Pre Post)
    {g : JFrame} (hg : g.method = m) (hsize : g.locals.size = c.maxLocals) {argsL rest : List Value} (hlen : ∀ sig, parseMethodDescriptor y.desc = some sig → argsL.length = sig.parameters.length)
    (hstack : g.stack = argsL.reverse ++ rest) (hW : 2 * g.monitorRoom + (rest.map fun v => v.category).sum ≤ W9) (hdg : decode c.code g.pc = .ok (.invokestatic index, 3))
    (hpre : ∀ vm₁, s.WarmedH vm₁ → Pre ⟨T.setVm vm₁, locs, cells, slots⟩ argsL.toArray) :
    ∃ (v : Option Value) (vm₁ : Vm) (B : Pt), s.WarmedH vm₁ ∧ Stand p l e R s m args below meth c B.U B.locs B.cells B.slots ∧ Post ⟨T.setVm vm₁, locs, cells, slots⟩ argsL.toArray v B ∧
      ∀ target, Steps p.tables e below (B.U.setTop { g with pc := g.pc + 3, stack := v.toList ++ rest }) target → Steps p.tables e below (T.setTop g) target := by
  obtain ⟨mk, methM, cM, hnamed, hmethM, -, -, -, -, -, -, hsigM⟩ := Cond.codeWith_spec hcode
  have hstatic : methM.isStatic = true := Cond.static_spec hnamed hmethM hstat
  obtain ⟨kP, hkP, -⟩ := className_of_methodNamed hnamed
  have hinitP : kP.init = .initialized := Cond.initialized_spec (findClass_of_methodNamed hnamed) hkP hinit
  obtain ⟨vm₁, X₁, hstep₁⟩ := X.invokestatic hexec hown hlink hnamed hmethM hstatic hkP hinitP hy (g := g) hg (argsL := argsL) (rest := rest) (hlen _ hsigM) hstack hdg
  obtain ⟨v, B, X', hpost, hsteps⟩ := hK m meth c ⟨T.setVm vm₁, locs, cells, slots⟩ { g with stack := rest } (.invokestatic index) mk argsL.toArray X₁ hg hsize hdg hW (X₁.named hnamed) (hpre vm₁ X₁.warmed)
  exact ⟨v, vm₁, B, X₁.warmed, X', hpost, fun target h => hstep₁ _ fun acts => by rw [doInvoke_state]; exact hsteps.trans h⟩
theorem vx_runSW {y : MethodName} {bytes cc : ByteArray} {maxL nL mc ms n index : Nat} {ret : Option FieldType} {hh : List (Nat × Nat × Nat × Nat)} {ws : List Cond} {rm : Room} {Pc : Array Value → State → Prop} {Qc : Array Value → State → Outcome → State → Prop} {free : Addr → Prop} {Ts : List Cond} {own : String} {As rest : List Value} {g : JFrame}
    (S : CallFix p m c cc nL s args Ts own) (hM : Met l y ws rm Pc Qc mc ms free) (cw : vx_CSW R s args own index y bytes maxL ret hh ws rm mc ms n) (hp : PreS s H Pc As)
    (hg : g.method = m) (hn : As.length = n) (hsize : g.locals.size = nL) (hstack : g.stack = As.reverse ++ rest) (hW : 2 * g.monitorRoom + (rest.map fun v => v.category).sum ≤ 8) (hdg : decode cc g.pc = .ok (.invokestatic index, 3)) (hf : cells + mc ≤ R.cells ∧ slots + ms ≤ R.slots) :
    va_Run p l e R s m args below meth c H locs cells slots mc ms g rest (Qc As.toArray) (free) := by
  obtain ⟨⟨hrc, hrs, hfr, hlo, hws, hcw⟩, hcode, hini, hy, hlen, hl, hstt⟩ := cw
  have hK : Back l R p e below s args y 3 8 (PreOf R mc ms Pc) (PostOf Qc mc ms free) := va_backW (hh := hh) (bytes := bytes) (maxL := maxL) (ret := ret) hM hp.1 hrc hrs hfr hlo hws hcw (fun a' U hW => word_at hW (Or.inl (by first | rfl | simp [Cond.onTables, Cond.keeps, Cond.steady])) hini)
  obtain ⟨hx, hb, hml, ho, -⟩ := S
  intro T hT X
  obtain ⟨v, vm₁, ⟨U', l2, c2, s2⟩, hW₁, X', ⟨g', mk, t, L, e1, e2, hq, h1, hL, h2, h3⟩, st⟩ := vx_callSW X hx (hh := hh) (bytes := bytes) (maxL := maxL) (ret := ret) ho hl hstt hini hcode hy hK hg (hsize.trans hml.symm) (argsL := As) (rest := rest) (fun sig h => hn.trans (hlen sig h)) hstack hW (by rw [hb]; exact hdg)
    (fun vm₁ hW₁ => ⟨hf.1, hf.2, hp.2 (T.setVm vm₁) hT hW₁⟩)
  dsimp only [Pt.U, Pt.locs, Pt.cells, Pt.slots] at X' e1 e2 h1 h2 h3 st
  subst h1; subst h2; subst h3
  exact ⟨v, (T.setVm vm₁).calling g' mk As.toArray, t, U', L, hT, X', hL, e1, e2, hq, st⟩
/-- not caught here, past rows that name other classes: it goes on to the caller -/
theorem vx_outP {p : Program} {l : Launch} {e : Env} {R : Room} {s : State} {m : MethodId} {args : Array Value} {below : List Frame} {meth : Method} {c : Code} {H : Heap} {locs : List Loc} {cells slots : Nat} {free : Addr → Prop} {ls : Array Slot} {rest : List Value} {Qc : Array Value → State → Outcome → State → Prop} {XC : String → State → State → Prop}
    {pc : Nat} {own E : String} {ce : Cell} {q : Addr} {mc ms : Nat} (hown : s.vm.findClass own = some m.cls) (hlocks : meth.locks = false)
    (hpass : ∀ z ∈ c.exceptionTable.toList, covers z pc = false ∨ (z.catchType ≠ 0 ∧ ∃ nm : String, (Cond.classLink own z.catchType nm).before args s = true ∧ va_Nc E nm s)) (hcell : H[q]? = some ce) (hv : ce.vm = .none) (hcl : s.vm.findClass E = some ce.cls)
    (hx : ∀ t : State, t.heap = H → s.vm.Alike t.vm → XC E s t) (hf : ∀ z ∈ locs, free z.base) (hc : cells ≤ mc) (hs : slots ≤ ms) :
    vx_W p l e R s m args below meth c H locs cells slots (vx_MQ below Qc XC args s mc ms free) (F0 m pc ls rest) q := by
  intro T hT X
  have hpl : e.platform.magicAccessors = ({} : Platform).magicAccessors := by rw [X.admits.platform]
  obtain ⟨vm', hW', X', st⟩ := X.outThrough hlocks q (g := F0 m pc ls rest) rfl rfl rfl (cell := ce) (by rw [hT]; exact hcell) (by rw [hv]; rfl)
    (by obtain ⟨k9, h9, -⟩ := Vm.findClass_spec hcl; exact ⟨k9, h9⟩) (fun z hz => by
      rcases hpass z hz with h | ⟨hz0, nm, hl1, hn1⟩
      · exact Or.inl h
      · obtain ⟨c6, hc6, hcl6⟩ := Cond.classLink_spec hown hl1 e.platform hpl
        obtain ⟨a8, b8, h1, h2, h3⟩ := hn1
        cases Option.some.inj (h1.symm.trans hcl)
        cases Option.some.inj (h2.symm.trans hc6)
        exact Or.inr ⟨hz0, _, hcl6, h3⟩)
  obtain ⟨g₀, hfr⟩ := X'.frames_eq
  have hcell9 : ((T.setVm vm').setFrames (.throwing q :: below)).heap[q]? = some ce := by
    show T.heap[q]? = some ce
    rw [hT]; exact hcell
  have hend : Ended ((T.setVm vm').setFrames (.throwing q :: below)) below (.threw q) := State.frames_setFrames _ (State.cur_lt_of_frames hfr)
  refine ⟨(T.setVm vm').setFrames (.throwing q :: below), ?_, .threw q, X'.here.running, hend, Or.inr ⟨q, rfl, E, ce, locs, hx _ hT (X'.ends _).1.alike, hcell9, hv, hcl, (X'.ends _).1, (X'.ends _).2.mono hc hs, hf⟩⟩
  rw [X.pushThrowing_eq]
  exact st
/-- a thing of a world lies in the heap -/
theorem vx_lt {D : va_G} {cl : List vw_C} {ws : va_W} {H1 : Heap} (h : va_P D cl ws H1) {k : Nat} {q : Nat × va_E} (hk : ws[k]? = some q) : q.1 < H1.size := (h k q hk).lt
end VXS
/-! ===== END ===== -/
/-! ===== BEGIN methods with a table of their own: called by a name, returning or throwing ===== -/
section VXH
/-! vx_backW, vx_callVX, vx_callSX, vx_callVW, vx_runVW, vx_runVX, vx_runSX, vx_ofWH follow the same proofs as their sisters above (Free/Laws.lean, Shelf42/LK1.lean); vx_outP calls Shelf42/NT130.lean (outThrough). -/
section
variable {l : Launch} {R : Room} {p : Program} {e : Env} {below : List Frame} {s : State} {sargs : Array Value} {y : MethodName} {len W9 : Nat}
theorem vx_backW {ws : List Cond} {rm : Room} {Pc : Array Value → State → Prop} {Qc : Array Value → State → Outcome → State → Prop} {XC : String → State → State → Prop} {mc ms : Nat} {free : Addr → Prop} {bytes : ByteArray} {maxL : Nat} {ret : Option FieldType} {hh : List (Nat × Nat × Nat × Nat)}
    (hM : vx_Met l y ws rm Pc Qc XC mc ms free) (hblind : FrameBlind Pc) (hrc : rm.cells = mc) (hrs : rm.slots = ms)
    (hframes : rm.frames + 1 ≤ R.frames) (hlocals : W9 + (maxL + 11) + rm.locals ≤ R.locals)
    (hws : ∀ w ∈ ws, ∀ a' U, s.WarmedH U.vm → w.before a' U = true) (hcode : Cond.codeWith y bytes maxL ret hh ∈ ws) (hinit : ∀ a' U, s.WarmedH U.vm → (Cond.initialized y.cls).before a' U = true) :
    vx_Back l R p e below s sargs y len W9 (PreOf R mc ms Pc) (PostOf Qc mc ms free) (vx_Post XC mc ms free) := by
  intro m meth c A g ig mk a X hg hsize hdg hW hn hp
  have h1 : (headSpec ws rm).pre.before a A.U = true := atoms_intro fun w hw => hws w hw _ _ X.warmed
  have h2 : (Cond.codeWith y bytes maxL ret hh).before a A.U = true := hws _ hcode _ _ X.warmed
  have h3 : (Cond.initialized y.cls).before a A.U = true := hinit _ _ X.warmed
  have h4 : A.cells + (headSpec ws rm).room.cells ≤ R.cells := by rw [show (headSpec ws rm).room.cells = mc from hrc]; exact hp.1
  have h5 : A.slots + (headSpec ws rm).room.slots ≤ R.slots := by rw [show (headSpec ws rm).room.slots = ms from hrs]; exact hp.2.1
  have hPc : Pc a (A.U.calling g mk a) := hblind _ _ _ _ hp.2.2
  obtain ⟨U, Ls, c0, s0⟩ := A
  dsimp only [Pt.U, Pt.locs, Pt.cells, Pt.slots] at h1 h2 h3 h4 h5 X hn hPc ⊢
  obtain ⟨m9, methY, cY, hn9, hmY, hcY, -, hlY, -⟩ := Cond.codeWith_spec h2
  cases Option.some.inj (hn9.symm.trans hn)
  obtain ⟨kY, hkY, -⟩ := className_of_methodNamed hn
  have hinitY : kY.init = .initialized := Cond.initialized_spec (findClass_of_methodNamed hn) hkY h3
  have h : At U g.method c below := by rw [hg]; exact X.here
  have hlocals9 : W9 + (maxL + 11) + (headSpec ws rm).room.locals ≤ R.locals := hlocals
  have happ : (headSpec ws rm).appliesLoose y e.platform (U.calling g mk a) = true :=
    Spec.appliesLoose_calling (g := g) h hdg hn hkY hinitY
      (X.room_calling (g := g) (R' := (headSpec ws rm).room) hsize hmY hcY hframes (by rw [hlY]; omega) h4 h5) h1
  obtain ⟨mid, hmid⟩ := h.above
  have hfr : (U.setTop g).frames = (.java g :: mid) ++ below := by rw [State.frames_setTop' g h.top, hmid]; rfl
  obtain ⟨o, s₂, hsteps, -, hend, hq⟩ := Steps.callFree hM p X.admits X.cas X.clock (acts := []) hfr happ hPc trivial
  have hq' : vx_Q Qc XC mc ms free a (U.calling g mk a) o s₂ := hq
  rw [State.frames_setTop' g h.top] at hend
  obtain ⟨g₀, hg0⟩ := Option.isSome_iff_exists.mp h.top
  obtain ⟨r, hr⟩ := State.topJava?_eq_some.mp hg0
  have hr' : (({ U with heap := s₂.heap, slotsUsed := s₂.slotsUsed } : State).setVm s₂.vm).frames = .java g₀ :: r := hr
  rcases hq' with ⟨hqc, L, hfe, hL⟩ | ⟨q, rfl, E, ce, L, hx, hce, hcv, hcl, hW₂, hsm, hL⟩
  · obtain ⟨⟨v, rfl⟩, hW₂, e2, q2, q3, q4, q5, q6⟩ := id hfe
    have e3 : s₂ = ({ (U.calling g mk a).setFrames s₂.frames with heap := s₂.heap, slotsUsed := s₂.slotsUsed } : State).setVm s₂.vm := by
      have : s₂ = ({ s₂ with vm := (U.calling g mk a).vm } : State).setVm s₂.vm := rfl
      rw [e2] at this
      exact this
    obtain ⟨c₂, i₂, len₂, hc₂, hd₂, hf₂⟩ := hend
    have hW' : U.WarmedH s₂.vm := hW₂
    have hcc : c₂ = c := by
      have h1 : s₂.code? g.method = U.code? g.method := by
        rw [State.code?_eq, State.code?_eq, hW'.alike.method?]
      exact Option.some.inj (hc₂.symm.trans (h1.trans h.code))
    subst hcc
    have hlen : len₂ = len := by rw [hdg] at hd₂; cases hd₂; rfl
    subst hlen
    have hs₂ : s₂ = (({ U with heap := s₂.heap, slotsUsed := s₂.slotsUsed } : State).setVm s₂.vm).setTop { g with pc := g.pc + len₂, stack := v.toList ++ g.stack } := by
      refine e3.trans ?_
      rw [hf₂, State.calling_eq h.top, State.setFrames_setFrames, State.setTop_of_frames _ hr', hr]
      rfl
    have hsame : U.sameButNew ({ U with heap := s₂.heap, slotsUsed := s₂.slotsUsed } : State) L mc ms := by
      refine ⟨?_, q2, q3, q4, q5, q6⟩
      obtain ⟨t, ht, -⟩ := State.frames_cons hr
      show ({ U with heap := s₂.heap, slotsUsed := s₂.slotsUsed } : State) = { U.setFrames U.frames with heap := s₂.heap, slotsUsed := s₂.slotsUsed }
      rw [State.setFrames_self ht]
    subst hg
    refine Or.inl ⟨v, ⟨(({ U with heap := s₂.heap, slotsUsed := s₂.slotsUsed } : State).setVm s₂.vm), Ls ++ L, c0 + mc, s0 + ms⟩,
      ⟨X.admits, X.cas, X.clock, X.frames, X.room, X.hears, X.method, X.code, (X.here.setHeapUsed s₂.heap s₂.slotsUsed).setVm hW'.alike, X.tail, State.WarmedH.trans X.warmed hW', X.limits, X.bytes, X.same.trans (hsame.setVm s.vm)⟩,
      ⟨g, mk, s₂, L, rfl, rfl, hqc, rfl, hL, rfl, rfl⟩, ?_⟩
    show Steps p.tables e below _ ((({ U with heap := s₂.heap, slotsUsed := s₂.slotsUsed } : State).setVm s₂.vm).setTop { g with pc := g.pc + len₂, stack := v.toList ++ g.stack })
    rw [← hs₂]
    exact hsteps
  · obtain ⟨e2, q2, q3, q4, q5, q6⟩ := id hsm
    have e3 : s₂ = ({ (U.calling g mk a).setFrames s₂.frames with heap := s₂.heap, slotsUsed := s₂.slotsUsed } : State).setVm s₂.vm := by
      have : s₂ = ({ s₂ with vm := (U.calling g mk a).vm } : State).setVm s₂.vm := rfl
      rw [e2] at this
      exact this
    have hf₂ : s₂.frames = .throwing q :: .java g :: U.frames.tail := hend
    have hW' : U.WarmedH s₂.vm := hW₂
    have hs₂ : s₂ = ((({ U with heap := s₂.heap, slotsUsed := s₂.slotsUsed } : State).setVm s₂.vm).setTop g).pushFrame (.throwing q) := by
      refine e3.trans ?_
      rw [hf₂, State.calling_eq h.top, State.setFrames_setFrames, State.pushFrame, State.frames_setTop _ hr', State.setTop_of_frames _ hr', State.setFrames_setFrames, hr]
      rfl
    have hsame : U.sameButNew ({ U with heap := s₂.heap, slotsUsed := s₂.slotsUsed } : State) L mc ms := by
      refine ⟨?_, q2, q3, q4, q5, q6⟩
      obtain ⟨t, ht, -⟩ := State.frames_cons hr
      show ({ U with heap := s₂.heap, slotsUsed := s₂.slotsUsed } : State) = { U.setFrames U.frames with heap := s₂.heap, slotsUsed := s₂.slotsUsed }
      rw [State.setFrames_self ht]
    subst hg
    refine Or.inr ⟨q, ⟨(({ U with heap := s₂.heap, slotsUsed := s₂.slotsUsed } : State).setVm s₂.vm), Ls ++ L, c0 + mc, s0 + ms⟩,
      ⟨X.admits, X.cas, X.clock, X.frames, X.room, X.hears, X.method, X.code, (X.here.setHeapUsed s₂.heap s₂.slotsUsed).setVm hW'.alike, X.tail, State.WarmedH.trans X.warmed hW', X.limits, X.bytes, X.same.trans (hsame.setVm s.vm)⟩,
      ⟨g, mk, s₂, L, E, ce, rfl, rfl, hx, hce, hcv, hcl, rfl, hL, rfl, rfl⟩, ?_⟩
    show Steps p.tables e below _ (((({ U with heap := s₂.heap, slotsUsed := s₂.slotsUsed } : State).setVm s₂.vm).setTop g).pushFrame (.throwing q))
    rw [← hs₂]
    exact hsteps
end
variable {p : Program} {l : Launch} {e : Env} {R : Room} {s : State} {m : MethodId} {args : Array Value} {below : List Frame} {meth : Method} {c : Code} {T : State} {H : Heap} {locs : List Loc} {cells slots : Nat}
theorem vx_callVX (X : Stand p l e R s m args below meth c T locs cells slots) (hexec : p.tables.exec = Jvm.exec) {own C : String} {index : Nat} {y : MethodName} {bytes : ByteArray} {maxL : Nat} {ret : Option FieldType} {hh : List (Nat × Nat × Nat × Nat)}
    (hown : s.vm.findClass own = some m.cls) (hlink : (Cond.methodLink own index y).before args s = true) (hinst : (Cond.instanceMethod y).before args s = true) (hsel : (Cond.selects C y y).before args s = true)
    (hcode : (Cond.codeWith y bytes maxL ret hh).before args s = true) (hy : y.cls ≠ "java/lang/invoke/MethodHandle" ∧ y.cls ≠ "java/lang/invoke/VarHandle")
    {W9 : Nat} {Pre : Pt → Array Value → Prop} {Post : Pt → Array Value → Option Value → Pt → Prop} {PostX : Pt → Array Value → Addr → Pt → Prop} (hK : vx_Back l R p e below s args y 3 W9 Pre Post PostX)
    {b : Addr} {cellB : Cell} (hcell : T.heap[b]? = some cellB) (hobj : cellB.vm.isStatics = false) (hcls : s.vm.findClass C = some cellB.cls)
    {g : JFrame} (hg : g.method = m) (hsize : g.locals.size = c.maxLocals) {argsL rest : List Value} (hlen : ∀ sig, parseMethodDescriptor y.desc = some sig → argsL.length = sig.parameters.length)
    (hstack : g.stack = argsL.reverse ++ .ref b :: rest) (hW : 2 * g.monitorRoom + (rest.map fun v => v.category).sum ≤ W9) (hdg : decode c.code g.pc = .ok (.invokevirtual index, 3))
    (hpre : ∀ vm₁, s.WarmedH vm₁ → Pre ⟨T.setVm vm₁, locs, cells, slots⟩ (Value.ref b :: argsL).toArray) :
    (∃ (v : Option Value) (vm₁ : Vm) (B : Pt), s.WarmedH vm₁ ∧ Stand p l e R s m args below meth c B.U B.locs B.cells B.slots ∧ Post ⟨T.setVm vm₁, locs, cells, slots⟩ (Value.ref b :: argsL).toArray v B ∧
      ∀ target, Steps p.tables e below (B.U.setTop { g with pc := g.pc + 3, stack := v.toList ++ rest }) target → Steps p.tables e below (T.setTop g) target) ∨
    (∃ (q : Addr) (vm₁ : Vm) (B : Pt), s.WarmedH vm₁ ∧ Stand p l e R s m args below meth c B.U B.locs B.cells B.slots ∧ PostX ⟨T.setVm vm₁, locs, cells, slots⟩ (Value.ref b :: argsL).toArray q B ∧
      Steps p.tables e below (T.setTop g) ((B.U.setTop { g with stack := rest }).pushFrame (.throwing q))) := by
  obtain ⟨mk, methM, hnamed, hmethM, hstM, habM⟩ := Cond.instanceMethod_spec hinst
  obtain ⟨m8, methM', cM, hn8, hmethM', -, -, -, -, -, -, hsigM⟩ := Cond.codeWith_spec hcode
  cases Option.some.inj (hn8.symm.trans hnamed)
  cases hmethM.symm.trans hmethM'
  obtain ⟨c2, r2, m2, q1, q2, q3, q4, kP, hkP, hkPi⟩ := Cond.selects_spec hsel
  cases hcls.symm.trans q1
  cases (State.methodFound?_of_named hnamed hy).symm.trans q2
  cases hnamed.symm.trans q3
  have hselP : selectMethod e.platform s.vm cellB.cls mk = .method mk := by rw [Launch.admits_selectMethod X.admits]; exact q4
  obtain ⟨vm₁, X₁, hstep₁⟩ := X.invokevirtual hexec hown hlink hnamed hmethM hstM hkP hkPi hy (a := b) (cell := cellB) hcell
    (fun z h => by rw [h] at hobj; cases hobj) hselP hmethM habM hkP hkPi (g := g) hg (argsL := argsL) (rest := rest) (hlen _ hsigM) hstack hdg
  rcases hK m meth c ⟨T.setVm vm₁, locs, cells, slots⟩ { g with stack := rest } (.invokevirtual index) mk (Value.ref b :: argsL).toArray X₁ hg hsize hdg hW (X₁.named hnamed) (hpre vm₁ X₁.warmed) with ⟨v, B, X', hpost, hsteps⟩ | ⟨q, B, X', hpost, hsteps⟩
  · exact Or.inl ⟨v, vm₁, B, X₁.warmed, X', hpost, fun target h => hstep₁ _ fun acts => by rw [doInvoke_state]; exact hsteps.trans h⟩
  · exact Or.inr ⟨q, vm₁, B, X₁.warmed, X', hpost, hstep₁ _ fun acts => by rw [doInvoke_state]; exact hsteps⟩
theorem vx_callSX (X : Stand p l e R s m args below meth c T locs cells slots) (hexec : p.tables.exec = Jvm.exec) {own : String} {index : Nat} {y : MethodName} {bytes : ByteArray} {maxL : Nat} {ret : Option FieldType} {hh : List (Nat × Nat × Nat × Nat)}
    (hown : s.vm.findClass own = some m.cls) (hlink : (Cond.methodLink own index y).before args s = true) (hstat : (Cond.static y).before args s = true) (hinit : (Cond.initialized y.cls).before args s = true)
    (hcode : (Cond.codeWith y bytes maxL ret hh).before args s = true) (hy : y.cls ≠ "java/lang/invoke/MethodHandle" ∧ y.cls ≠ "java/lang/invoke/VarHandle")
    {W9 : Nat} {Pre : Pt → Array Value → Prop} {Post : Pt → Array Value → Option Value → Pt → Prop} {PostX : Pt → Array Value → Addr → Pt → Prop} (hK : vx_Back l R p e below s args y 3 W9 Pre Post PostX)
    {g : JFrame} (hg : g.method = m) (hsize : g.locals.size = c.maxLocals) {argsL rest : List Value} (hlen : ∀ sig, parseMethodDescriptor y.desc = some sig → argsL.length = sig.parameters.length)
    (hstack : g.stack = argsL.reverse ++ rest) (hW : 2 * g.monitorRoom + (rest.map fun v => v.category).sum ≤ W9) (hdg : decode c.code g.pc = .ok (.invokestatic index, 3))
    (hpre : ∀ vm₁, s.WarmedH vm₁ → Pre ⟨T.setVm vm₁, locs, cells, slots⟩ argsL.toArray) :
    (∃ (v : Option Value) (vm₁ : Vm) (B : Pt), s.WarmedH vm₁ ∧ Stand p l e R s m args below meth c B.U B.locs B.cells B.slots ∧ Post ⟨T.setVm vm₁, locs, cells, slots⟩ argsL.toArray v B ∧
      ∀ target, Steps p.tables e below (B.U.setTop { g with pc := g.pc + 3, stack := v.toList ++ rest }) target → Steps p.tables e below (T.setTop g) target) ∨
    (∃ (q : Addr) (vm₁ : Vm) (B : Pt), s.WarmedH vm₁ ∧ Stand p l e R s m args below meth c B.U B.locs B.cells B.slots ∧ PostX ⟨T.setVm vm₁, locs, cells, slots⟩ argsL.toArray q B ∧
      Steps p.tables e below (T.setTop g) ((B.U.setTop { g with stack := rest }).pushFrame (.throwing q))) := by
  obtain ⟨mk, methM, cM, hnamed, hmethM, -, -, -, -, -, -, hsigM⟩ := Cond.codeWith_spec hcode
  have hstatic : methM.isStatic = true := Cond.static_spec hnamed hmethM hstat
  obtain ⟨kP, hkP, -⟩ := className_of_methodNamed hnamed
  have hinitP : kP.init = .initialized := Cond.initialized_spec (findClass_of_methodNamed hnamed) hkP hinit
  obtain ⟨vm₁, X₁, hstep₁⟩ := X.invokestatic hexec hown hlink hnamed hmethM hstatic hkP hinitP hy (g := g) hg (argsL := argsL) (rest := rest) (hlen _ hsigM) hstack hdg
  rcases hK m meth c ⟨T.setVm vm₁, locs, cells, slots⟩ { g with stack := rest } (.invokestatic index) mk argsL.toArray X₁ hg hsize hdg hW (X₁.named hnamed) (hpre vm₁ X₁.warmed) with ⟨v, B, X', hpost, hsteps⟩ | ⟨q, B, X', hpost, hsteps⟩
  · exact Or.inl ⟨v, vm₁, B, X₁.warmed, X', hpost, fun target h => hstep₁ _ fun acts => by rw [doInvoke_state]; exact hsteps.trans h⟩
  · exact Or.inr ⟨q, vm₁, B, X₁.warmed, X', hpost, hstep₁ _ fun acts => by rw [doInvoke_state]; exact hsteps⟩
theorem vx_callVW (X : Stand p l e R s m args below meth c T locs cells slots) (hexec : p.tables.exec = Jvm.exec) {own C : String} {index : Nat} {y : MethodName} {bytes : ByteArray} {maxL : Nat} {ret : Option FieldType} {hh : List (Nat × Nat × Nat × Nat)}
    (hown : s.vm.findClass own = some m.cls) (hlink : (Cond.methodLink own index y).before args s = true) (hinst : (Cond.instanceMethod y).before args s = true) (hsel : (Cond.selects C y y).before args s = true)
    (hcode : (Cond.codeWith y bytes maxL ret hh).before args s = true) (hy : y.cls ≠ "java/lang/invoke/MethodHandle" ∧ y.cls ≠ "java/lang/invoke/VarHandle")
    {W9 : Nat} {Pre : Pt → Array Value → Prop} {Post : Pt → Array Value → Option Value → Pt → Prop} (hK : Back l R p e below s args y 3 W9 Pre Post)
    {b : Addr} {cellB : Cell} (hcell : T.heap[b]? = some cellB) (hobj : cellB.vm.isStatics = false) (hcls : s.vm.findClass C = some cellB.cls)
    {g : JFrame} (hg : g.method = m) (hsize : g.locals.size = c.maxLocals) {argsL rest : List Value} (hlen : ∀ sig, parseMethodDescriptor y.desc = some sig → argsL.length = sig.parameters.length)
    (hstack : g.stack = argsL.reverse ++ .ref b :: rest) (hW : 2 * g.monitorRoom + (rest.map fun v => v.category).sum ≤ W9) (hdg : decode c.code g.pc = .ok (.invokevirtual index, 3))
    (hpre : ∀ vm₁, s.WarmedH vm₁ → Pre ⟨T.setVm vm₁, locs, cells, slots⟩ (Value.ref b :: argsL).toArray) :
    ∃ (v : Option Value) (vm₁ : Vm) (B : Pt), s.WarmedH vm₁ ∧ Stand p l e R s m args below meth c B.U B.locs B.cells B.slots ∧ Post ⟨T.setVm vm₁, locs, cells, slots⟩ (Value.ref b :: argsL).toArray v B ∧
      ∀ target, Steps p.tables e below (B.U.setTop { g with pc := g.pc + 3, stack := v.toList ++ rest }) target → Steps p.tables e below (T.setTop g) target := by
  obtain ⟨mk, methM, hnamed, hmethM, hstM, habM⟩ := Cond.instanceMethod_spec hinst
  obtain ⟨m8, methM', cM, hn8, hmethM', -, -, -, -, -, -, hsigM⟩ := Cond.codeWith_spec hcode
  cases Option.some.inj (hn8.symm.trans hnamed)
  cases hmethM.symm.trans hmethM'
  obtain ⟨c2, r2, m2, q1, q2, q3, q4, kP, hkP, hkPi⟩ := Cond.selects_spec hsel
  cases hcls.symm.trans q1
  cases (State.methodFound?_of_named hnamed hy).symm.trans q2
  cases hnamed.symm.trans q3
  have hselP : selectMethod e.platform s.vm cellB.cls mk = .method mk := by rw [Launch.admits_selectMethod X.admits]; exact q4
  obtain ⟨vm₁, X₁, hstep₁⟩ := X.invokevirtual hexec hown hlink hnamed hmethM hstM hkP hkPi hy (a := b) (cell := cellB) hcell
    (fun z h => by rw [h] at hobj; cases hobj) hselP hmethM habM hkP hkPi (g := g) hg (argsL := argsL) (rest := rest) (hlen _ hsigM) hstack hdg
  obtain ⟨v, B, X', hpost, hsteps⟩ := hK m meth c ⟨T.setVm vm₁, locs, cells, slots⟩ { g with stack := rest } (.invokevirtual index) mk (Value.ref b :: argsL).toArray X₁ hg hsize hdg hW (X₁.named hnamed) (hpre vm₁ X₁.warmed)
  exact ⟨v, vm₁, B, X₁.warmed, X', hpost, fun target h => hstep₁ _ fun acts => by rw [doInvoke_state]; exact hsteps.trans h⟩
abbrev vx_CVW (R : Room) (s : State) (args : Array Value) (own C : String) (index : Nat) (y : MethodName) (bytes : ByteArray) (maxL : Nat) (ret : Option FieldType) (hh : List (Nat × Nat × Nat × Nat)) (ws : List Cond) (rm : Room) (mc ms n : Nat) : Prop :=
  (rm.cells = mc ∧ rm.slots = ms ∧ rm.frames + 1 ≤ R.frames ∧ 8 + (maxL + 11) + rm.locals ≤ R.locals ∧ (∀ w ∈ ws, ∀ (a' : Array Value) (U : State), s.WarmedH U.vm → w.before a' U = true) ∧ Cond.codeWith y bytes maxL ret hh ∈ ws) ∧
  (Cond.codeWith y bytes maxL ret hh).before args s = true ∧ (Cond.initialized y.cls).before args s = true ∧ (y.cls ≠ "java/lang/invoke/MethodHandle" ∧ y.cls ≠ "java/lang/invoke/VarHandle") ∧
  (∀ sig, parseMethodDescriptor y.desc = some sig → n = sig.parameters.length) ∧ (Cond.methodLink own index y).before args s = true ∧ (Cond.instanceMethod y).before args s = true ∧ (Cond.selects C y y).before args s = true
theorem vx_cwVW {own C : String} {index maxL mc ms : Nat} {y : MethodName} {bytes : ByteArray} {ret : Option FieldType} {hh : List (Nat × Nat × Nat × Nat)} {Ts ws ws' : List Cond} {rm : Room} (n : Nat) (ht : ∀ w ∈ Ts, w.before args s = true) (hT : GoodIn Ts (wsV own index C y ws)) (hw : ws = Cond.codeWith y bytes maxL ret hh :: ws') (hrc : rm.cells = mc) (hrs : rm.slots = ms)
    (hd : y.cls = C ∧ y.cls ≠ "java/lang/invoke/MethodHandle" ∧ y.cls ≠ "java/lang/invoke/VarHandle" ∧ (parseMethodDescriptor y.desc).map (fun d => d.parameters.length) = some n) (hR : rm.frames + 1 ≤ R.frames ∧ 8 + (maxL + 11) + rm.locals ≤ R.locals) :
    vx_CVW R s args own C index y bytes maxL ret hh ws rm mc ms n := by
  obtain ⟨hC, hd⟩ := hd
  subst hC
  have ok : ∀ w ∈ wsV own index y.cls y ws, w.before args s = true := fun w h => ht w (hT w h).1
  have hG : GoodIn Ts ws := fun w h => hT w (by unfold wsV; exact List.mem_append_right _ h)
  have hc : Cond.codeWith y bytes maxL ret hh ∈ ws := by rw [hw]; exact List.mem_cons_self
  refine ⟨⟨hrc, hrs, hR.1, hR.2, pay_in ht hG, hc⟩, ht _ (hG _ hc).1, ok _ (by simp [wsV]), ⟨hd.1, hd.2.1⟩, fun sig h => ?_, ok _ (by simp [wsV]), ok _ (by simp [wsV]), ok _ (by simp [wsV])⟩
  have h2 := hd.2.2
  rw [h] at h2
  exact (Option.some.inj h2).symm
theorem vx_runVW {y : MethodName} {bytes cc : ByteArray} {maxL nL mc ms n index : Nat} {ret : Option FieldType} {hh : List (Nat × Nat × Nat × Nat)} {ws : List Cond} {rm : Room} {Pc : Array Value → State → Prop} {Qc : Array Value → State → Outcome → State → Prop} {free : Addr → Prop} {Ts : List Cond} {own C : String} {b : Addr} {As rest : List Value} {g : JFrame}
    (S : CallFix p m c cc nL s args Ts own) (hM : Met l y ws rm Pc Qc mc ms free) (cw : vx_CVW R s args own C index y bytes maxL ret hh ws rm mc ms n) (hp : PreV s H C b Pc As)
    (hg : g.method = m) (hn : As.length = n) (hsize : g.locals.size = nL) (hstack : g.stack = As.reverse ++ .ref b :: rest) (hW : 2 * g.monitorRoom + (rest.map fun v => v.category).sum ≤ 8) (hdg : decode cc g.pc = .ok (.invokevirtual index, 3)) (hf : cells + mc ≤ R.cells ∧ slots + ms ≤ R.slots) :
    va_Run p l e R s m args below meth c H locs cells slots mc ms g rest (Qc (Value.ref b :: As).toArray) free := by
  obtain ⟨⟨hrc, hrs, hfr, hlo, hws, hcw⟩, hcode, hini, hy, hlen, hl, hin, hse⟩ := cw
  have hK : Back l R p e below s args y 3 8 (PreOf R mc ms Pc) (PostOf Qc mc ms free) := va_backW (hh := hh) (bytes := bytes) (maxL := maxL) (ret := ret) hM hp.1 hrc hrs hfr hlo hws hcw (fun a' U hW => word_at hW (Or.inl (by first | rfl | simp [Cond.onTables, Cond.keeps, Cond.steady])) hini)
  obtain ⟨hx, hb, hml, ho, -⟩ := S
  obtain ⟨-, ⟨cellB, hcB, hoB, hclB⟩, hPc⟩ := hp
  intro T hT X
  obtain ⟨v, vm₁, ⟨U', l2, c2, s2⟩, hW₁, X', ⟨g', mk, t, L, e1, e2, hq, h1, hL, h2, h3⟩, st⟩ := vx_callVW X hx (C := C) (hh := hh) (bytes := bytes) (maxL := maxL) (ret := ret) ho hl hin hse hcode hy hK (by rw [hT]; exact hcB) hoB hclB hg (hsize.trans hml.symm) (argsL := As) (rest := rest) (fun sig h => hn.trans (hlen sig h)) hstack hW (by rw [hb]; exact hdg)
    (fun vm₁ hW₁ => ⟨hf.1, hf.2, hPc (T.setVm vm₁) hT hW₁⟩)
  dsimp only [Pt.U, Pt.locs, Pt.cells, Pt.slots] at X' e1 e2 h1 h2 h3 st
  subst h1; subst h2; subst h3
  exact ⟨v, (T.setVm vm₁).calling g' mk (Value.ref b :: As).toArray, t, U', L, hT, X', hL, e1, e2, hq, st⟩
section
variable {y : MethodName} {bytes cc : ByteArray} {maxL nL mc ms n index : Nat} {ret : Option FieldType} {ws : List Cond} {rm : Room} {Pc : Array Value → State → Prop} {Qc : Array Value → State → Outcome → State → Prop} {XC : String → State → State → Prop} {free : Addr → Prop} {Ts : List Cond} {own C : String} {b : Addr} {As rest : List Value} {g : JFrame}
theorem vx_runVX {hh : List (Nat × Nat × Nat × Nat)} (S : CallFix p m c cc nL s args Ts own) (hM : vx_Met l y ws rm Pc Qc XC mc ms free) (cw : vx_CVW R s args own C index y bytes maxL ret hh ws rm mc ms n) (hp : PreV s H C b Pc As)
    (hg : g.method = m) (hn : As.length = n) (hsize : g.locals.size = nL) (hstack : g.stack = As.reverse ++ .ref b :: rest) (hW : 2 * g.monitorRoom + (rest.map fun v => v.category).sum ≤ 8) (hdg : decode cc g.pc = .ok (.invokevirtual index, 3)) (hf : cells + mc ≤ R.cells ∧ slots + ms ≤ R.slots) :
    vx_Run p l e R s m args below meth c H locs cells slots mc ms g rest (Qc (Value.ref b :: As).toArray) XC free := by
  obtain ⟨⟨hrc, hrs, hfr, hlo, hws, hcw⟩, hcode, hini, hy, hlen, hl, hin, hse⟩ := cw
  have hK : vx_Back l R p e below s args y 3 8 (PreOf R mc ms Pc) (PostOf Qc mc ms free) (vx_Post XC mc ms free) := vx_backW (hh := hh) (bytes := bytes) (maxL := maxL) (ret := ret) hM hp.1 hrc hrs hfr hlo hws hcw (fun a' U hW => word_at hW (Or.inl (by first | rfl | simp [Cond.onTables, Cond.keeps, Cond.steady])) hini)
  obtain ⟨hx, hb, hml, ho, -⟩ := S
  obtain ⟨-, ⟨cellB, hcB, hoB, hclB⟩, hPc⟩ := hp
  intro T hT X
  rcases vx_callVX X hx (C := C) (hh := hh) (bytes := bytes) (maxL := maxL) (ret := ret) ho hl hin hse hcode hy hK (by rw [hT]; exact hcB) hoB hclB hg (hsize.trans hml.symm) (argsL := As) (rest := rest) (fun sig h => hn.trans (hlen sig h)) hstack hW (by rw [hb]; exact hdg)
    (fun vm₁ hW₁ => ⟨hf.1, hf.2, hPc (T.setVm vm₁) hT hW₁⟩) with ⟨v, vm₁, ⟨U', l2, c2, s2⟩, hW₁, X', ⟨g', mk, t, L, e1, e2, hq, h1, hL, h2, h3⟩, st⟩ | ⟨q, vm₁, ⟨U', l2, c2, s2⟩, hW₁, X', ⟨g', mk, t, L, E, ce, e1, e2, hq, hce, hcv, hcl, h1, hL, h2, h3⟩, st⟩
  · dsimp only [Pt.U, Pt.locs, Pt.cells, Pt.slots] at X' e1 e2 h1 h2 h3 st
    subst h1; subst h2; subst h3
    exact Or.inl ⟨v, (T.setVm vm₁).calling g' mk (Value.ref b :: As).toArray, t, U', L, hT, X', hL, e1, e2, hq, st⟩
  · dsimp only [Pt.U, Pt.locs, Pt.cells, Pt.slots] at X' e1 e2 h1 h2 h3 st hcl
    subst h1; subst h2; subst h3
    exact Or.inr ⟨q, (T.setVm vm₁).calling g' mk (Value.ref b :: As).toArray, t, U', L, E, ce, hT, X', hL, e1, e2, hq, hce, hcv, vx_cls hW₁ hcl, st⟩
theorem vx_runSX {hh : List (Nat × Nat × Nat × Nat)} (S : CallFix p m c cc nL s args Ts own) (hM : vx_Met l y ws rm Pc Qc XC mc ms free) (cw : vx_CSW R s args own index y bytes maxL ret hh ws rm mc ms n) (hp : PreS s H Pc As)
    (hg : g.method = m) (hn : As.length = n) (hsize : g.locals.size = nL) (hstack : g.stack = As.reverse ++ rest) (hW : 2 * g.monitorRoom + (rest.map fun v => v.category).sum ≤ 8) (hdg : decode cc g.pc = .ok (.invokestatic index, 3)) (hf : cells + mc ≤ R.cells ∧ slots + ms ≤ R.slots) :
    vx_Run p l e R s m args below meth c H locs cells slots mc ms g rest (Qc As.toArray) XC free := by
  obtain ⟨⟨hrc, hrs, hfr, hlo, hws, hcw⟩, hcode, hini, hy, hlen, hl, hstt⟩ := cw
  have hK : vx_Back l R p e below s args y 3 8 (PreOf R mc ms Pc) (PostOf Qc mc ms free) (vx_Post XC mc ms free) := vx_backW (hh := hh) (bytes := bytes) (maxL := maxL) (ret := ret) hM hp.1 hrc hrs hfr hlo hws hcw (fun a' U hW => word_at hW (Or.inl (by first | rfl | simp [Cond.onTables, Cond.keeps, Cond.steady])) hini)
  obtain ⟨hx, hb, hml, ho, -⟩ := S
  intro T hT X
  rcases vx_callSX X hx (hh := hh) (bytes := bytes) (maxL := maxL) (ret := ret) ho hl hstt hini hcode hy hK hg (hsize.trans hml.symm) (argsL := As) (rest := rest) (fun sig h => hn.trans (hlen sig h)) hstack hW (by rw [hb]; exact hdg)
    (fun vm₁ hW₁ => ⟨hf.1, hf.2, hp.2 (T.setVm vm₁) hT hW₁⟩) with ⟨v, vm₁, ⟨U', l2, c2, s2⟩, hW₁, X', ⟨g', mk, t, L, e1, e2, hq, h1, hL, h2, h3⟩, st⟩ | ⟨q, vm₁, ⟨U', l2, c2, s2⟩, hW₁, X', ⟨g', mk, t, L, E, ce, e1, e2, hq, hce, hcv, hcl, h1, hL, h2, h3⟩, st⟩
  · dsimp only [Pt.U, Pt.locs, Pt.cells, Pt.slots] at X' e1 e2 h1 h2 h3 st
    subst h1; subst h2; subst h3
    exact Or.inl ⟨v, (T.setVm vm₁).calling g' mk As.toArray, t, U', L, hT, X', hL, e1, e2, hq, st⟩
  · dsimp only [Pt.U, Pt.locs, Pt.cells, Pt.slots] at X' e1 e2 h1 h2 h3 st hcl
    subst h1; subst h2; subst h3
    exact Or.inr ⟨q, (T.setVm vm₁).calling g' mk As.toArray, t, U', L, E, ce, hT, X', hL, e1, e2, hq, hce, hcv, vx_cls hW₁ hcl, st⟩
end
end VXH
theorem vx_ofWH {l : Launch} {y : MethodName} {ws ws' : List Cond} {rm : Room} {Pc : Array Value → State → Prop} {Qc : Array Value → State → Outcome → State → Prop} {XC : String → State → State → Prop} {mc ms : Nat} {free : Addr → Prop} {cc : ByteArray} {maxL : Nat} {ret : Option FieldType} {hh : List (Nat × Nat × Nat × Nat)}
    (hy : plainName y.cls = true) (hw : ws = Cond.codeWith y cc maxL ret hh :: ws')
    (body : ∀ p e s m args below meth c s₁, BodyLoose p l y (headSpec ws rm) cc maxL ret e s m args below meth c s₁ → c.maxLocals = maxL → Pc args s →
      W p l e (headSpec ws rm).room s m args below meth c s.heap [] 0 0 (vx_MQ below Qc XC args s mc ms free) (entryFrame m args maxL)) : vx_Met l y ws rm Pc Qc XC mc ms free := by
  refine MetFree.of_bodyS (code := cc) (maxLocals := maxL) (ret := ret) hy ?_ ?_
  · intro args s m h hn
    obtain ⟨m9, meth, c, hn9, h1, h2, h3, h4, -, h5, h6, -⟩ := Cond.codeWith_spec (atoms_spec (ws := ws) h _ (by rw [hw]; exact List.mem_cons_self))
    cases hn.symm.trans hn9
    exact ⟨meth, c, h1, h2, h3, h4, h5, h6⟩
  · intro p e s m args below meth c s₁ B hml hP _
    have hh0 : s₁.heap = s.heap := by rw [B.state]; rfl
    obtain ⟨t, a1, o, b1, b2, b3⟩ := body p e s m args below meth c s₁ B hml hP s₁ hh0 (Stand.of_body B)
    exact ⟨t, o, a1, b1, b2, b3⟩
/-! ===== END ===== -/
end
section
def RX0 : String := "PipewrightExchange$Bid"
def TX0 : u_T := fun k => match k with
  | 0 => ("PipewrightExchange$Bid", "isThere", "Z", false)
  | 1 => ("PipewrightExchange$Bid", "price", "I", false)
  | 2 => ("PipewrightExchange$Bid", "units", "I", false)
  | _ => ("PipewrightExchange$Bid", "turn", "I", false)
def tyX0 : Nat → FieldType := fun k => match k with
  | 0 => .boolean
  | 1 => .int
  | 2 => .int
  | _ => .int
abbrev wsX00 : List Cond := u_ws RX0 TX0 4
theorem nmX0 : ∀ a, a < 4 → ∀ b, b < 4 → a ≠ b → (TX0 a).2.1 ≠ (TX0 b).2.1 := by decide +kernel
theorem tyX0_ok : ∀ k, k < 4 → parseFieldDescriptor (TX0 k).2.2.1 = some (tyX0 k) := by decide +kernel
abbrev cX0_init : ByteArray := prog_2_method_1_code
def yX0_init : MethodName := ⟨RX0, "<init>", "()V"⟩
abbrev cX0_set : ByteArray := prog_2_method_2_code
def yX0_set : MethodName := ⟨RX0, "set", "(III)V"⟩
abbrev cX0_isAheadOf : ByteArray := prog_2_method_3_code
def yX0_isAheadOf : MethodName := ⟨RX0, "isAheadOf", "(LPipewrightExchange$Bid;)Z"⟩
def RX1 : String := "PipewrightExchange$District"
def TX1 : u_T := fun k => match k with
  | 0 => ("PipewrightExchange$District", "node", "I", true)
  | 1 => ("PipewrightExchange$District", "tank", "I", true)
  | 2 => ("PipewrightExchange$District", "need", "I", false)
  | 3 => ("PipewrightExchange$District", "water", "I", false)
  | 4 => ("PipewrightExchange$District", "standing", "LPipewrightExchange$Bid;", true)
  | 5 => ("PipewrightExchange$District", "told", "LPipewrightExchange$Bid;", true)
  | 6 => ("PipewrightExchange$District", "wasSilent", "Z", false)
  | 7 => ("PipewrightExchange$District", "mayGet", "I", false)
  | 8 => ("PipewrightExchange$District", "got", "I", false)
  | 9 => ("PipewrightExchange$District", "paid", "I", false)
  | 10 => ("PipewrightExchange$District", "paidBack", "I", false)
  | 11 => ("PipewrightExchange$District", "took", "I", false)
  | 12 => ("PipewrightExchange$District", "lacked", "I", false)
  | _ => ("PipewrightExchange$District", "lost", "I", false)
def tyX1 : Nat → FieldType := fun k => match k with
  | 0 => .int
  | 1 => .int
  | 2 => .int
  | 3 => .int
  | 4 => .object "PipewrightExchange$Bid"
  | 5 => .object "PipewrightExchange$Bid"
  | 6 => .boolean
  | 7 => .int
  | 8 => .int
  | 9 => .int
  | 10 => .int
  | 11 => .int
  | 12 => .int
  | _ => .int
abbrev wsX10 : List Cond := u_ws RX1 TX1 14
theorem nmX1 : ∀ a, a < 14 → ∀ b, b < 14 → a ≠ b → (TX1 a).2.1 ≠ (TX1 b).2.1 := by decide +kernel
theorem tyX1_ok : ∀ k, k < 14 → parseFieldDescriptor (TX1 k).2.2.1 = some (tyX1 k) := by decide +kernel
abbrev cX1_init : ByteArray := prog_3_method_1_code
def yX1_init : MethodName := ⟨RX1, "<init>", "(III)V"⟩
abbrev cX1_settleRound : ByteArray := prog_3_method_2_code
def yX1_settleRound : MethodName := ⟨RX1, "settleRound", "()V"⟩
abbrev cX1_pay : ByteArray := prog_3_method_3_code
def yX1_pay : MethodName := ⟨RX1, "pay", "()V"⟩
abbrev cX1_takeBackPay : ByteArray := prog_3_method_4_code
def yX1_takeBackPay : MethodName := ⟨RX1, "takeBackPay", "()I"⟩
abbrev cX1_store : ByteArray := prog_3_method_5_code
def yX1_store : MethodName := ⟨RX1, "store", "()V"⟩
abbrev cX1_takeNeed : ByteArray := prog_3_method_6_code
def yX1_takeNeed : MethodName := ⟨RX1, "takeNeed", "()I"⟩
abbrev cX1_beginHour : ByteArray := prog_3_method_7_code
def yX1_beginHour : MethodName := ⟨RX1, "beginHour", "()V"⟩
def RX2 : String := "PipewrightExchange$Net"
def TX2 : u_T := fun k => match k with
  | 0 => ("PipewrightExchange$Net", "pipes", "Ljava/util/ArrayList;", true)
  | 1 => ("PipewrightExchange$Net", "given", "I", false)
  | 2 => ("PipewrightExchange$Net", "givenLeft", "I", false)
  | 3 => ("PipewrightExchange$Net", "room", "[[I", true)
  | 4 => ("PipewrightExchange$Net", "reach", "[I", true)
  | 5 => ("PipewrightExchange$Net", "ahead", "[I", true)
  | _ => ("PipewrightExchange$Net", "found", "[I", true)
def tyX2 : Nat → FieldType := fun k => match k with
  | 0 => .object "java/util/ArrayList"
  | 1 => .int
  | 2 => .int
  | 3 => .array (.array .int)
  | 4 => .array .int
  | 5 => .array .int
  | _ => .array .int
abbrev wsX20 : List Cond := u_ws RX2 TX2 7
theorem nmX2 : ∀ a, a < 7 → ∀ b, b < 7 → a ≠ b → (TX2 a).2.1 ≠ (TX2 b).2.1 := by decide +kernel
theorem tyX2_ok : ∀ k, k < 7 → parseFieldDescriptor (TX2 k).2.2.1 = some (tyX2 k) := by decide +kernel
abbrev cX2_init : ByteArray := prog_4_method_1_code
def yX2_init : MethodName := ⟨RX2, "<init>", "()V"⟩
abbrev cX2_countBurst : ByteArray := prog_4_method_2_code
def yX2_countBurst : MethodName := ⟨RX2, "countBurst", "()I"⟩
abbrev cX2_empty : ByteArray := prog_4_method_3_code
def yX2_empty : MethodName := ⟨RX2, "empty", "()V"⟩
abbrev cX2_pour : ByteArray := prog_4_method_4_code
def yX2_pour : MethodName := ⟨RX2, "pour", "(II)I"⟩
abbrev cX2_findWay : ByteArray := prog_4_method_5_code
def yX2_findWay : MethodName := ⟨RX2, "findWay", "(II)I"⟩
abbrev cX2_flowOnWay : ByteArray := prog_4_method_6_code
def yX2_flowOnWay : MethodName := ⟨RX2, "flowOnWay", "(II)V"⟩
def RX3 : String := "PipewrightExchange$Pipe"
def TX3 : u_T := fun k => match k with
  | 0 => ("PipewrightExchange$Pipe", "fromNode", "I", true)
  | 1 => ("PipewrightExchange$Pipe", "toNode", "I", true)
  | 2 => ("PipewrightExchange$Pipe", "limit", "I", true)
  | _ => ("PipewrightExchange$Pipe", "hasBurst", "Z", false)
def tyX3 : Nat → FieldType := fun k => match k with
  | 0 => .int
  | 1 => .int
  | 2 => .int
  | _ => .boolean
abbrev wsX30 : List Cond := u_ws RX3 TX3 4
theorem nmX3 : ∀ a, a < 4 → ∀ b, b < 4 → a ≠ b → (TX3 a).2.1 ≠ (TX3 b).2.1 := by decide +kernel
theorem tyX3_ok : ∀ k, k < 4 → parseFieldDescriptor (TX3 k).2.2.1 = some (tyX3 k) := by decide +kernel
abbrev cX3_init : ByteArray := prog_5_method_1_code
def yX3_init : MethodName := ⟨RX3, "<init>", "(III)V"⟩
def RX4 : String := "PipewrightExchange"
def TX4 : u_T := fun k => match k with
  | 0 => ("PipewrightExchange", "districts", "Ljava/util/ArrayList;", true)
  | 1 => ("PipewrightExchange", "net", "LPipewrightExchange$Net;", true)
  | 2 => ("PipewrightExchange", "order", "Ljava/util/ArrayList;", true)
  | 3 => ("PipewrightExchange", "hour", "I", false)
  | 4 => ("PipewrightExchange", "round", "I", false)
  | 5 => ("PipewrightExchange", "flowing", "Z", false)
  | 6 => ("PipewrightExchange", "tellers", "I", false)
  | 7 => ("PipewrightExchange", "turns", "I", false)
  | _ => ("PipewrightExchange", "gotInHoursOver", "I", false)
def tyX4 : Nat → FieldType := fun k => match k with
  | 0 => .object "java/util/ArrayList"
  | 1 => .object "PipewrightExchange$Net"
  | 2 => .object "java/util/ArrayList"
  | 3 => .int
  | 4 => .int
  | 5 => .boolean
  | 6 => .int
  | 7 => .int
  | _ => .int
abbrev wsX40 : List Cond := u_ws RX4 TX4 9
theorem nmX4 : ∀ a, a < 9 → ∀ b, b < 9 → a ≠ b → (TX4 a).2.1 ≠ (TX4 b).2.1 := by decide +kernel
theorem tyX4_ok : ∀ k, k < 9 → parseFieldDescriptor (TX4 k).2.2.1 = some (tyX4 k) := by decide +kernel
abbrev cX4_init : ByteArray := prog_1_method_1_code
def yX4_init : MethodName := ⟨RX4, "<init>", "()V"⟩
abbrev cX4_district : ByteArray := prog_1_method_2_code
def yX4_district : MethodName := ⟨RX4, "district", "(II)I"⟩
abbrev cX4_pipe : ByteArray := prog_1_method_3_code
def yX4_pipe : MethodName := ⟨RX4, "pipe", "(III)I"⟩
abbrev cX4_source : ByteArray := prog_1_method_4_code
def yX4_source : MethodName := ⟨RX4, "source", "(I)I"⟩
abbrev cX4_need : ByteArray := prog_1_method_5_code
def yX4_need : MethodName := ⟨RX4, "need", "(II)I"⟩
abbrev cX4_bid : ByteArray := prog_1_method_6_code
def yX4_bid : MethodName := ⟨RX4, "bid", "(III)I"⟩
abbrev cX4_close : ByteArray := prog_1_method_7_code
def yX4_close : MethodName := ⟨RX4, "close", "()Z"⟩
abbrev cX4_burst : ByteArray := prog_1_method_8_code
def yX4_burst : MethodName := ⟨RX4, "burst", "(I)I"⟩
abbrev cX4_repair : ByteArray := prog_1_method_9_code
def yX4_repair : MethodName := ⟨RX4, "repair", "(I)V"⟩
abbrev cX4_end : ByteArray := prog_1_method_10_code
def yX4_end : MethodName := ⟨RX4, "end", "()I"⟩
abbrev cX4_hour : ByteArray := prog_1_method_11_code
def yX4_hour : MethodName := ⟨RX4, "hour", "()I"⟩
abbrev cX4_round : ByteArray := prog_1_method_12_code
def yX4_round : MethodName := ⟨RX4, "round", "()I"⟩
abbrev cX4_ofDistrict : ByteArray := prog_1_method_13_code
def yX4_ofDistrict : MethodName := ⟨RX4, "ofDistrict", "(II)I"⟩
abbrev cX4_flowAnew : ByteArray := prog_1_method_14_code
def yX4_flowAnew : MethodName := ⟨RX4, "flowAnew", "(I)I"⟩
abbrev cX4_most : ByteArray := prog_1_method_15_code
def yX4_most : MethodName := ⟨RX4, "most", "(I)I"⟩
abbrev cX4_place : ByteArray := prog_1_method_16_code
def yX4_place : MethodName := ⟨RX4, "place", "(I)I"⟩
abbrev cX4_count : ByteArray := prog_1_method_17_code
def yX4_count : MethodName := ⟨RX4, "count", "(I)I"⟩
abbrev cX4_isOutside : ByteArray := prog_1_method_18_code
def yX4_isOutside : MethodName := ⟨RX4, "isOutside", "(III)Z"⟩
abbrev cX4_isNoDistrict : ByteArray := prog_1_method_19_code
def yX4_isNoDistrict : MethodName := ⟨RX4, "isNoDistrict", "(I)Z"⟩
abbrev cX4_isNoPipe : ByteArray := prog_1_method_20_code
def yX4_isNoPipe : MethodName := ⟨RX4, "isNoPipe", "(I)Z"⟩
abbrev cX4_orderBids : ByteArray := prog_1_method_21_code
def yX4_orderBids : MethodName := ⟨RX4, "orderBids", "()V"⟩
abbrev cX4_bidsAheadOf : ByteArray := prog_1_method_22_code
def yX4_bidsAheadOf : MethodName := ⟨RX4, "bidsAheadOf", "(LPipewrightExchange$District;)I"⟩
abbrev cX4_beginFlowing : ByteArray := prog_1_method_23_code
def yX4_beginFlowing : MethodName := ⟨RX4, "beginFlowing", "()V"⟩
abbrev cX4_flowLess : ByteArray := prog_1_method_24_code
def yX4_flowLess : MethodName := ⟨RX4, "flowLess", "()I"⟩
abbrev cX4_findFlows : ByteArray := prog_1_method_25_code
def yX4_findFlows : MethodName := ⟨RX4, "findFlows", "()V"⟩
abbrev cX4_together : ByteArray := prog_1_method_26_code
def yX4_together : MethodName := ⟨RX4, "together", "(I)I"⟩
abbrev cX4_sumGot : ByteArray := prog_1_method_27_code
def yX4_sumGot : MethodName := ⟨RX4, "sumGot", "()I"⟩
abbrev cX4_sumWater : ByteArray := prog_1_method_28_code
def yX4_sumWater : MethodName := ⟨RX4, "sumWater", "()I"⟩
abbrev cX4_sumPaidLessPaidBack : ByteArray := prog_1_method_29_code
def yX4_sumPaidLessPaidBack : MethodName := ⟨RX4, "sumPaidLessPaidBack", "()I"⟩
def RX5 : String := "PipewrightExchangeModel"
def TX5 : u_T := fun k => match k with
  | 0 => ("PipewrightExchangeModel", "hour", "I", false)
  | 1 => ("PipewrightExchangeModel", "round", "I", false)
  | 2 => ("PipewrightExchangeModel", "gives", "I", false)
  | 3 => ("PipewrightExchangeModel", "districts", "I", false)
  | 4 => ("PipewrightExchangeModel", "tank", "[I", true)
  | 5 => ("PipewrightExchangeModel", "need", "[I", true)
  | 6 => ("PipewrightExchangeModel", "holds", "[I", true)
  | 7 => ("PipewrightExchangeModel", "price", "[I", true)
  | 8 => ("PipewrightExchangeModel", "units", "[I", true)
  | 9 => ("PipewrightExchangeModel", "toldAt", "[I", true)
  | 10 => ("PipewrightExchangeModel", "stands", "[Z", true)
  | 11 => ("PipewrightExchangeModel", "newPrice", "[I", true)
  | 12 => ("PipewrightExchangeModel", "newUnits", "[I", true)
  | 13 => ("PipewrightExchangeModel", "newAt", "[I", true)
  | 14 => ("PipewrightExchangeModel", "isTold", "[Z", true)
  | 15 => ("PipewrightExchangeModel", "wasSilent", "[Z", true)
  | 16 => ("PipewrightExchangeModel", "tellings", "I", false)
  | 17 => ("PipewrightExchangeModel", "got", "[I", true)
  | 18 => ("PipewrightExchangeModel", "paid", "[I", true)
  | 19 => ("PipewrightExchangeModel", "paidBack", "[I", true)
  | 20 => ("PipewrightExchangeModel", "took", "[I", true)
  | 21 => ("PipewrightExchangeModel", "lacked", "[I", true)
  | 22 => ("PipewrightExchangeModel", "lost", "[I", true)
  | 23 => ("PipewrightExchangeModel", "gotInAll", "I", false)
  | 24 => ("PipewrightExchangeModel", "pipes", "I", false)
  | 25 => ("PipewrightExchangeModel", "from", "[I", true)
  | 26 => ("PipewrightExchangeModel", "to", "[I", true)
  | 27 => ("PipewrightExchangeModel", "limit", "[I", true)
  | 28 => ("PipewrightExchangeModel", "isBurst", "[Z", true)
  | 29 => ("PipewrightExchangeModel", "flow", "[I", true)
  | 30 => ("PipewrightExchangeModel", "given", "I", false)
  | 31 => ("PipewrightExchangeModel", "way", "[I", true)
  | 32 => ("PipewrightExchangeModel", "row", "[I", true)
  | 33 => ("PipewrightExchangeModel", "most", "[I", true)
  | _ => ("PipewrightExchangeModel", "thrown", "I", false)
def tyX5 : Nat → FieldType := fun k => match k with
  | 0 => .int
  | 1 => .int
  | 2 => .int
  | 3 => .int
  | 4 => .array .int
  | 5 => .array .int
  | 6 => .array .int
  | 7 => .array .int
  | 8 => .array .int
  | 9 => .array .int
  | 10 => .array .boolean
  | 11 => .array .int
  | 12 => .array .int
  | 13 => .array .int
  | 14 => .array .boolean
  | 15 => .array .boolean
  | 16 => .int
  | 17 => .array .int
  | 18 => .array .int
  | 19 => .array .int
  | 20 => .array .int
  | 21 => .array .int
  | 22 => .array .int
  | 23 => .int
  | 24 => .int
  | 25 => .array .int
  | 26 => .array .int
  | 27 => .array .int
  | 28 => .array .boolean
  | 29 => .array .int
  | 30 => .int
  | 31 => .array .int
  | 32 => .array .int
  | 33 => .array .int
  | _ => .int
abbrev wsX50 : List Cond := u_ws RX5 TX5 35
theorem nmX5 : ∀ a, a < 35 → ∀ b, b < 35 → a ≠ b → (TX5 a).2.1 ≠ (TX5 b).2.1 := by decide +kernel
theorem tyX5_ok : ∀ k, k < 35 → parseFieldDescriptor (TX5 k).2.2.1 = some (tyX5 k) := by decide +kernel
abbrev cX5_init : ByteArray := prog_7_method_1_code
def yX5_init : MethodName := ⟨RX5, "<init>", "()V"⟩
abbrev cX5_thrown : ByteArray := prog_7_method_2_code
def yX5_thrown : MethodName := ⟨RX5, "thrown", "()I"⟩
abbrev cX5_can : ByteArray := prog_7_method_3_code
def yX5_can : MethodName := ⟨RX5, "can", "(I)Z"⟩
abbrev cX5_isIn : ByteArray := prog_7_method_4_code
def yX5_isIn : MethodName := ⟨RX5, "isIn", "(III)Z"⟩
abbrev cX5_isDistrict : ByteArray := prog_7_method_5_code
def yX5_isDistrict : MethodName := ⟨RX5, "isDistrict", "(I)Z"⟩
abbrev cX5_isPipe : ByteArray := prog_7_method_6_code
def yX5_isPipe : MethodName := ⟨RX5, "isPipe", "(I)Z"⟩
abbrev cX5_lesser : ByteArray := prog_7_method_7_code
def yX5_lesser : MethodName := ⟨RX5, "lesser", "(II)I"⟩
abbrev cX5_district : ByteArray := prog_7_method_8_code
def yX5_district : MethodName := ⟨RX5, "district", "(II)I"⟩
abbrev cX5_pipe : ByteArray := prog_7_method_9_code
def yX5_pipe : MethodName := ⟨RX5, "pipe", "(III)I"⟩
abbrev cX5_source : ByteArray := prog_7_method_10_code
def yX5_source : MethodName := ⟨RX5, "source", "(I)I"⟩
abbrev cX5_need : ByteArray := prog_7_method_11_code
def yX5_need : MethodName := ⟨RX5, "need", "(II)I"⟩
abbrev cX5_dries : ByteArray := prog_7_method_12_code
def yX5_dries : MethodName := ⟨RX5, "dries", "()V"⟩
abbrev cX5_room : ByteArray := prog_7_method_13_code
def yX5_room : MethodName := ⟨RX5, "room", "(IZ)I"⟩
abbrev cX5_finds : ByteArray := prog_7_method_14_code
def yX5_finds : MethodName := ⟨RX5, "finds", "(I)Z"⟩
abbrev cX5_flows : ByteArray := prog_7_method_15_code
def yX5_flows : MethodName := ⟨RX5, "flows", "(II)I"⟩
abbrev cX5_before : ByteArray := prog_7_method_16_code
def yX5_before : MethodName := ⟨RX5, "before", "(I)I"⟩
abbrev cX5_isAhead : ByteArray := prog_7_method_17_code
def yX5_isAhead : MethodName := ⟨RX5, "isAhead", "(II)Z"⟩
abbrev cX5_placeOf : ByteArray := prog_7_method_18_code
def yX5_placeOf : MethodName := ⟨RX5, "placeOf", "(I)I"⟩
abbrev cX5_at : ByteArray := prog_7_method_19_code
def yX5_at : MethodName := ⟨RX5, "at", "(I)I"⟩
abbrev cX5_standing : ByteArray := prog_7_method_20_code
def yX5_standing : MethodName := ⟨RX5, "standing", "()I"⟩
abbrev cX5_settles : ByteArray := prog_7_method_21_code
def yX5_settles : MethodName := ⟨RX5, "settles", "()V"⟩
abbrev cX5_toldNow : ByteArray := prog_7_method_22_code
def yX5_toldNow : MethodName := ⟨RX5, "toldNow", "()I"⟩
abbrev cX5_bid : ByteArray := prog_7_method_23_code
def yX5_bid : MethodName := ⟨RX5, "bid", "(III)I"⟩
abbrev cX5_begins : ByteArray := prog_7_method_24_code
def yX5_begins : MethodName := ⟨RX5, "begins", "()V"⟩
abbrev cX5_close : ByteArray := prog_7_method_25_code
def yX5_close : MethodName := ⟨RX5, "close", "()Z"⟩
abbrev cX5_burst : ByteArray := prog_7_method_26_code
def yX5_burst : MethodName := ⟨RX5, "burst", "(I)I"⟩
abbrev cX5_repair : ByteArray := prog_7_method_27_code
def yX5_repair : MethodName := ⟨RX5, "repair", "(I)V"⟩
abbrev cX5_end : ByteArray := prog_7_method_28_code
def yX5_end : MethodName := ⟨RX5, "end", "()I"⟩
abbrev cX5_hour : ByteArray := prog_7_method_29_code
def yX5_hour : MethodName := ⟨RX5, "hour", "()I"⟩
abbrev cX5_round : ByteArray := prog_7_method_30_code
def yX5_round : MethodName := ⟨RX5, "round", "()I"⟩
abbrev cX5_ofDistrict : ByteArray := prog_7_method_31_code
def yX5_ofDistrict : MethodName := ⟨RX5, "ofDistrict", "(II)I"⟩
abbrev cX5_flowAnew : ByteArray := prog_7_method_32_code
def yX5_flowAnew : MethodName := ⟨RX5, "flowAnew", "(I)I"⟩
abbrev cX5_most : ByteArray := prog_7_method_33_code
def yX5_most : MethodName := ⟨RX5, "most", "(I)I"⟩
abbrev cX5_place : ByteArray := prog_7_method_34_code
def yX5_place : MethodName := ⟨RX5, "place", "(I)I"⟩
abbrev cX5_sum : ByteArray := prog_7_method_35_code
def yX5_sum : MethodName := ⟨RX5, "sum", "([I)I"⟩
abbrev cX5_burstPipes : ByteArray := prog_7_method_36_code
def yX5_burstPipes : MethodName := ⟨RX5, "burstPipes", "()I"⟩
abbrev cX5_count : ByteArray := prog_7_method_37_code
def yX5_count : MethodName := ⟨RX5, "count", "(I)I"⟩
def RJx145de : String := "java/io/Serializable"
def TJx145de : u_T := fun k => match k with
  | _ => ("", "", "", false)
def tyJx145de : Nat → FieldType := fun k => match k with
  | _ => .int
abbrev wsJx145de0 : List Cond := u_ws RJx145de TJx145de 0
theorem nmJx145de : ∀ a, a < 0 → ∀ b, b < 0 → a ≠ b → (TJx145de a).2.1 ≠ (TJx145de b).2.1 := by decide +kernel
theorem tyJx145de_ok : ∀ k, k < 0 → parseFieldDescriptor (TJx145de k).2.2.1 = some (tyJx145de k) := by decide +kernel
def RJ5 : String := "java/lang/AbstractStringBuilder"
def TJ5 : u_T := fun k => match k with
  | _ => ("", "", "", false)
def tyJ5 : Nat → FieldType := fun k => match k with
  | _ => .int
abbrev wsJ50 : List Cond := u_ws RJ5 TJ5 0
theorem nmJ5 : ∀ a, a < 0 → ∀ b, b < 0 → a ≠ b → (TJ5 a).2.1 ≠ (TJ5 b).2.1 := by decide +kernel
theorem tyJ5_ok : ∀ k, k < 0 → parseFieldDescriptor (TJ5 k).2.2.1 = some (tyJ5 k) := by decide +kernel
abbrev cJ5_init_d00df : ByteArray := prog_9_method_2_code
def yJ5_init_d00df : MethodName := ⟨RJ5, "<init>", "(I)V"⟩
abbrev cJ5_length_8abf5 : ByteArray := prog_9_method_6_code
def yJ5_length_8abf5 : MethodName := ⟨RJ5, "length", "()I"⟩
abbrev cJ5_ensureCapacityInternal_d00df : ByteArray := prog_9_method_9_code
def yJ5_ensureCapacityInternal_d00df : MethodName := ⟨RJ5, "ensureCapacityInternal", "(I)V"⟩
abbrev cJ5_newCapacity_0f7a4 : ByteArray := prog_9_method_10_code
def yJ5_newCapacity_0f7a4 : MethodName := ⟨RJ5, "newCapacity", "(I)I"⟩
abbrev cJ5_inflate_da8c8 : ByteArray := prog_9_method_11_code
def yJ5_inflate_da8c8 : MethodName := ⟨RJ5, "inflate", "()V"⟩
abbrev cJ5_append_cf1ce : ByteArray := prog_9_method_22_code
def yJ5_append_cf1ce : MethodName := ⟨RJ5, "append", "(Ljava/lang/String;)Ljava/lang/AbstractStringBuilder;"⟩
abbrev cJ5_appendNull_278bc : ByteArray := prog_9_method_26_code
def yJ5_appendNull_278bc : MethodName := ⟨RJ5, "appendNull", "()Ljava/lang/AbstractStringBuilder;"⟩
abbrev cJ5_append_c97b9 : ByteArray := prog_9_method_32_code
def yJ5_append_c97b9 : MethodName := ⟨RJ5, "append", "(I)Ljava/lang/AbstractStringBuilder;"⟩
abbrev cJ5_getValue_6d5f1 : ByteArray := prog_9_method_64_code
def yJ5_getValue_6d5f1 : MethodName := ⟨RJ5, "getValue", "()[B"⟩
abbrev cJ5_isLatin1_aae02 : ByteArray := prog_9_method_68_code
def yJ5_isLatin1_aae02 : MethodName := ⟨RJ5, "isLatin1", "()Z"⟩
abbrev cJ5_inflateIfNeededFor_a7421 : ByteArray := prog_9_method_71_code
def yJ5_inflateIfNeededFor_a7421 : MethodName := ⟨RJ5, "inflateIfNeededFor", "(Ljava/lang/String;)V"⟩
abbrev cJ5_putStringAt_47b60 : ByteArray := prog_9_method_73_code
def yJ5_putStringAt_47b60 : MethodName := ⟨RJ5, "putStringAt", "(ILjava/lang/String;)V"⟩
def RJx2cfe8 : String := "java/lang/Appendable"
def TJx2cfe8 : u_T := fun k => match k with
  | _ => ("", "", "", false)
def tyJx2cfe8 : Nat → FieldType := fun k => match k with
  | _ => .int
abbrev wsJx2cfe80 : List Cond := u_ws RJx2cfe8 TJx2cfe8 0
theorem nmJx2cfe8 : ∀ a, a < 0 → ∀ b, b < 0 → a ≠ b → (TJx2cfe8 a).2.1 ≠ (TJx2cfe8 b).2.1 := by decide +kernel
theorem tyJx2cfe8_ok : ∀ k, k < 0 → parseFieldDescriptor (TJx2cfe8 k).2.2.1 = some (tyJx2cfe8 k) := by decide +kernel
def RJx9f9b0 : String := "java/lang/CharSequence"
def TJx9f9b0 : u_T := fun k => match k with
  | _ => ("", "", "", false)
def tyJx9f9b0 : Nat → FieldType := fun k => match k with
  | _ => .int
abbrev wsJx9f9b00 : List Cond := u_ws RJx9f9b0 TJx9f9b0 0
theorem nmJx9f9b0 : ∀ a, a < 0 → ∀ b, b < 0 → a ≠ b → (TJx9f9b0 a).2.1 ≠ (TJx9f9b0 b).2.1 := by decide +kernel
theorem tyJx9f9b0_ok : ∀ k, k < 0 → parseFieldDescriptor (TJx9f9b0 k).2.2.1 = some (tyJx9f9b0 k) := by decide +kernel
def RJx8e188 : String := "java/lang/Cloneable"
def TJx8e188 : u_T := fun k => match k with
  | _ => ("", "", "", false)
def tyJx8e188 : Nat → FieldType := fun k => match k with
  | _ => .int
abbrev wsJx8e1880 : List Cond := u_ws RJx8e188 TJx8e188 0
theorem nmJx8e188 : ∀ a, a < 0 → ∀ b, b < 0 → a ≠ b → (TJx8e188 a).2.1 ≠ (TJx8e188 b).2.1 := by decide +kernel
theorem tyJx8e188_ok : ∀ k, k < 0 → parseFieldDescriptor (TJx8e188 k).2.2.1 = some (tyJx8e188 k) := by decide +kernel
def RJxb160c : String := "java/lang/Comparable"
def TJxb160c : u_T := fun k => match k with
  | _ => ("", "", "", false)
def tyJxb160c : Nat → FieldType := fun k => match k with
  | _ => .int
abbrev wsJxb160c0 : List Cond := u_ws RJxb160c TJxb160c 0
theorem nmJxb160c : ∀ a, a < 0 → ∀ b, b < 0 → a ≠ b → (TJxb160c a).2.1 ≠ (TJxb160c b).2.1 := by decide +kernel
theorem tyJxb160c_ok : ∀ k, k < 0 → parseFieldDescriptor (TJxb160c k).2.2.1 = some (tyJxb160c k) := by decide +kernel
def RJ6 : String := "java/lang/Integer"
def TJ6 : u_T := fun k => match k with
  | _ => ("", "", "", false)
def tyJ6 : Nat → FieldType := fun k => match k with
  | _ => .int
abbrev wsJ60 : List Cond := u_ws RJ6 TJ6 0
theorem nmJ6 : ∀ a, a < 0 → ∀ b, b < 0 → a ≠ b → (TJ6 a).2.1 ≠ (TJ6 b).2.1 := by decide +kernel
theorem tyJ6_ok : ∀ k, k < 0 → parseFieldDescriptor (TJ6 k).2.2.1 = some (tyJ6 k) := by decide +kernel
abbrev cJ6_getChars_ba4f3 : ByteArray := prog_18_method_12_code
def yJ6_getChars_ba4f3 : MethodName := ⟨RJ6, "getChars", "(II[B)I"⟩
abbrev cJ6_stringSize_0f7a4 : ByteArray := prog_18_method_13_code
def yJ6_stringSize_0f7a4 : MethodName := ⟨RJ6, "stringSize", "(I)I"⟩
def RJxab1ab : String := "java/lang/Iterable"
def TJxab1ab : u_T := fun k => match k with
  | _ => ("", "", "", false)
def tyJxab1ab : Nat → FieldType := fun k => match k with
  | _ => .int
abbrev wsJxab1ab0 : List Cond := u_ws RJxab1ab TJxab1ab 0
theorem nmJxab1ab : ∀ a, a < 0 → ∀ b, b < 0 → a ≠ b → (TJxab1ab a).2.1 ≠ (TJxab1ab b).2.1 := by decide +kernel
theorem tyJxab1ab_ok : ∀ k, k < 0 → parseFieldDescriptor (TJxab1ab k).2.2.1 = some (tyJxab1ab k) := by decide +kernel
def RJ9 : String := "java/lang/Math"
def TJ9 : u_T := fun k => match k with
  | _ => ("", "", "", false)
def tyJ9 : Nat → FieldType := fun k => match k with
  | _ => .int
abbrev wsJ90 : List Cond := u_ws RJ9 TJ9 0
theorem nmJ9 : ∀ a, a < 0 → ∀ b, b < 0 → a ≠ b → (TJ9 a).2.1 ≠ (TJ9 b).2.1 := by decide +kernel
theorem tyJ9_ok : ∀ k, k < 0 → parseFieldDescriptor (TJ9 k).2.2.1 = some (tyJ9 k) := by decide +kernel
abbrev cJ9_max_7cf53 : ByteArray := prog_20_method_65_code
def yJ9_max_7cf53 : MethodName := ⟨RJ9, "max", "(II)I"⟩
abbrev cJ9_min_7cf53 : ByteArray := prog_20_method_69_code
def yJ9_min_7cf53 : MethodName := ⟨RJ9, "min", "(II)I"⟩
def RJxd2413 : String := "java/lang/Number"
def TJxd2413 : u_T := fun k => match k with
  | _ => ("", "", "", false)
def tyJxd2413 : Nat → FieldType := fun k => match k with
  | _ => .int
abbrev wsJxd24130 : List Cond := u_ws RJxd2413 TJxd2413 0
theorem nmJxd2413 : ∀ a, a < 0 → ∀ b, b < 0 → a ≠ b → (TJxd2413 a).2.1 ≠ (TJxd2413 b).2.1 := by decide +kernel
theorem tyJxd2413_ok : ∀ k, k < 0 → parseFieldDescriptor (TJxd2413 k).2.2.1 = some (tyJxd2413 k) := by decide +kernel
def RJ0 : String := "java/lang/String"
def TJ0 : u_T := fun k => match k with
  | 0 => ("java/lang/String", "value", "[B", true)
  | 1 => ("java/lang/String", "coder", "B", true)
  | 2 => ("java/lang/String", "hash", "I", false)
  | _ => ("java/lang/String", "hashIsZero", "Z", false)
def tyJ0 : Nat → FieldType := fun k => match k with
  | 0 => .array .byte
  | 1 => .byte
  | 2 => .int
  | _ => .boolean
abbrev wsJ00 : List Cond := u_ws RJ0 TJ0 4
theorem nmJ0 : ∀ a, a < 4 → ∀ b, b < 4 → a ≠ b → (TJ0 a).2.1 ≠ (TJ0 b).2.1 := by decide +kernel
theorem tyJ0_ok : ∀ k, k < 4 → parseFieldDescriptor (TJ0 k).2.2.1 = some (tyJ0 k) := by decide +kernel
abbrev cJ0_init_81219 : ByteArray := prog_23_method_53_code
def yJ0_init_81219 : MethodName := ⟨RJ0, "<init>", "(Ljava/lang/StringBuilder;)V"⟩
abbrev cJ0_length_8abf5 : ByteArray := prog_23_method_54_code
def yJ0_length_8abf5 : MethodName := ⟨RJ0, "length", "()I"⟩
abbrev cJ0_getBytes_840e7 : ByteArray := prog_23_method_147_code
def yJ0_getBytes_840e7 : MethodName := ⟨RJ0, "getBytes", "([BIB)V"⟩
abbrev cJ0_init_db425 : ByteArray := prog_23_method_150_code
def yJ0_init_db425 : MethodName := ⟨RJ0, "<init>", "(Ljava/lang/AbstractStringBuilder;Ljava/lang/Void;)V"⟩
abbrev cJ0_coder_7d493 : ByteArray := prog_23_method_152_code
def yJ0_coder_7d493 : MethodName := ⟨RJ0, "coder", "()B"⟩
abbrev cJ0_checkBoundsOffCount_cabcc : ByteArray := prog_23_method_157_code
def yJ0_checkBoundsOffCount_cabcc : MethodName := ⟨RJ0, "checkBoundsOffCount", "(III)I"⟩
abbrev cJ0_checkBoundsBeginEnd_23922 : ByteArray := prog_23_method_158_code
def yJ0_checkBoundsBeginEnd_23922 : MethodName := ⟨RJ0, "checkBoundsBeginEnd", "(III)V"⟩
def RJ4 : String := "java/lang/StringBuilder"
def TJ4 : u_T := fun k => match k with
  | 0 => ("java/lang/AbstractStringBuilder", "value", "[B", false)
  | 1 => ("java/lang/AbstractStringBuilder", "coder", "B", false)
  | 2 => ("java/lang/AbstractStringBuilder", "maybeLatin1", "Z", false)
  | _ => ("java/lang/AbstractStringBuilder", "count", "I", false)
def tyJ4 : Nat → FieldType := fun k => match k with
  | 0 => .array .byte
  | 1 => .byte
  | 2 => .boolean
  | _ => .int
abbrev wsJ40 : List Cond := u_ws RJ4 TJ4 4
theorem nmJ4 : ∀ a, a < 4 → ∀ b, b < 4 → a ≠ b → (TJ4 a).2.1 ≠ (TJ4 b).2.1 := by decide +kernel
theorem tyJ4_ok : ∀ k, k < 4 → parseFieldDescriptor (TJ4 k).2.2.1 = some (tyJ4 k) := by decide +kernel
abbrev cJ4_init_da8c8 : ByteArray := prog_24_method_1_code
def yJ4_init_da8c8 : MethodName := ⟨RJ4, "<init>", "()V"⟩
abbrev cJ4_append_15ec4 : ByteArray := prog_24_method_7_code
def yJ4_append_15ec4 : MethodName := ⟨RJ4, "append", "(Ljava/lang/String;)Ljava/lang/StringBuilder;"⟩
abbrev cJ4_append_bf812 : ByteArray := prog_24_method_15_code
def yJ4_append_bf812 : MethodName := ⟨RJ4, "append", "(I)Ljava/lang/StringBuilder;"⟩
abbrev cJ4_toString_0e30d : ByteArray := prog_24_method_42_code
def yJ4_toString_0e30d : MethodName := ⟨RJ4, "toString", "()Ljava/lang/String;"⟩
abbrev cJ4_length_8abf5 : ByteArray := prog_24_method_93_code
def yJ4_length_8abf5 : MethodName := ⟨RJ4, "length", "()I"⟩
def RJ1 : String := "java/lang/StringLatin1"
def TJ1 : u_T := fun k => match k with
  | _ => ("", "", "", false)
def tyJ1 : Nat → FieldType := fun k => match k with
  | _ => .int
abbrev wsJ10 : List Cond := u_ws RJ1 TJ1 0
theorem nmJ1 : ∀ a, a < 0 → ∀ b, b < 0 → a ≠ b → (TJ1 a).2.1 ≠ (TJ1 b).2.1 := by decide +kernel
theorem tyJ1_ok : ∀ k, k < 0 → parseFieldDescriptor (TJ1 k).2.2.1 = some (tyJ1 k) := by decide +kernel
abbrev cJ1_inflate_0e8fd : ByteArray := prog_25_method_50_code
def yJ1_inflate_0e8fd : MethodName := ⟨RJ1, "inflate", "([BI[BII)V"⟩
def RJ2 : String := "java/lang/StringUTF16"
def TJ2 : u_T := fun k => match k with
  | _ => ("", "", "", false)
def tyJ2 : Nat → FieldType := fun k => match k with
  | _ => .int
abbrev wsJ20 : List Cond := u_ws RJ2 TJ2 0
theorem nmJ2 : ∀ a, a < 0 → ∀ b, b < 0 → a ≠ b → (TJ2 a).2.1 ≠ (TJ2 b).2.1 := by decide +kernel
theorem tyJ2_ok : ∀ k, k < 0 → parseFieldDescriptor (TJ2 k).2.2.1 = some (tyJ2 k) := by decide +kernel
abbrev cJ2_newBytesFor_77867 : ByteArray := prog_26_method_2_code
def yJ2_newBytesFor_77867 : MethodName := ⟨RJ2, "newBytesFor", "(I)[B"⟩
abbrev cJ2_newBytesLength_0f7a4 : ByteArray := prog_26_method_3_code
def yJ2_newBytesLength_0f7a4 : MethodName := ⟨RJ2, "newBytesLength", "(I)I"⟩
abbrev cJ2_putChar_b72d1 : ByteArray := prog_26_method_4_code
def yJ2_putChar_b72d1 : MethodName := ⟨RJ2, "putChar", "([BII)V"⟩
abbrev cJ2_getChar_3b067 : ByteArray := prog_26_method_5_code
def yJ2_getChar_3b067 : MethodName := ⟨RJ2, "getChar", "([BI)C"⟩
abbrev cJ2_length_9d52b : ByteArray := prog_26_method_6_code
def yJ2_length_9d52b : MethodName := ⟨RJ2, "length", "([B)I"⟩
abbrev cJ2_coderFromArrayLen_85cad : ByteArray := prog_26_method_15_code
def yJ2_coderFromArrayLen_85cad : MethodName := ⟨RJ2, "coderFromArrayLen", "([BI)B"⟩
abbrev cJ2_compress_39247 : ByteArray := prog_26_method_17_code
def yJ2_compress_39247 : MethodName := ⟨RJ2, "compress", "([BII)[B"⟩
abbrev cJ2_compress_5af95 : ByteArray := prog_26_method_22_code
def yJ2_compress_5af95 : MethodName := ⟨RJ2, "compress", "([BI[BII)I"⟩
abbrev cJ2_getChars_46870 : ByteArray := prog_26_method_77_code
def yJ2_getChars_46870 : MethodName := ⟨RJ2, "getChars", "(III[B)I"⟩
abbrev cJ2_putCharsAt_cd4e5 : ByteArray := prog_26_method_81_code
def yJ2_putCharsAt_cd4e5 : MethodName := ⟨RJ2, "putCharsAt", "([BICCCC)I"⟩
abbrev cJ2_inflate_0e8fd : ByteArray := prog_26_method_86_code
def yJ2_inflate_0e8fd : MethodName := ⟨RJ2, "inflate", "([BI[BII)V"⟩
abbrev cJ2_getChars_ba4f3 : ByteArray := prog_26_method_89_code
def yJ2_getChars_ba4f3 : MethodName := ⟨RJ2, "getChars", "(II[B)I"⟩
abbrev cJ2_checkBoundsBeginEnd_d044e : ByteArray := prog_26_method_93_code
def yJ2_checkBoundsBeginEnd_d044e : MethodName := ⟨RJ2, "checkBoundsBeginEnd", "(II[B)V"⟩
abbrev cJ2_checkBoundsOffCount_d044e : ByteArray := prog_26_method_94_code
def yJ2_checkBoundsOffCount_d044e : MethodName := ⟨RJ2, "checkBoundsOffCount", "(II[B)V"⟩
def RJ10 : String := "java/lang/System"
def TJ10 : u_T := fun k => match k with
  | _ => ("", "", "", false)
def tyJ10 : Nat → FieldType := fun k => match k with
  | _ => .int
abbrev wsJ100 : List Cond := u_ws RJ10 TJ10 0
theorem nmJ10 : ∀ a, a < 0 → ∀ b, b < 0 → a ≠ b → (TJ10 a).2.1 ≠ (TJ10 b).2.1 := by decide +kernel
theorem tyJ10_ok : ∀ k, k < 0 → parseFieldDescriptor (TJ10 k).2.2.1 = some (tyJ10 k) := by decide +kernel
def RJxfd54e : String := "java/lang/constant/Constable"
def TJxfd54e : u_T := fun k => match k with
  | _ => ("", "", "", false)
def tyJxfd54e : Nat → FieldType := fun k => match k with
  | _ => .int
abbrev wsJxfd54e0 : List Cond := u_ws RJxfd54e TJxfd54e 0
theorem nmJxfd54e : ∀ a, a < 0 → ∀ b, b < 0 → a ≠ b → (TJxfd54e a).2.1 ≠ (TJxfd54e b).2.1 := by decide +kernel
theorem tyJxfd54e_ok : ∀ k, k < 0 → parseFieldDescriptor (TJxfd54e k).2.2.1 = some (tyJxfd54e k) := by decide +kernel
def RJx3cf43 : String := "java/lang/constant/ConstantDesc"
def TJx3cf43 : u_T := fun k => match k with
  | _ => ("", "", "", false)
def tyJx3cf43 : Nat → FieldType := fun k => match k with
  | _ => .int
abbrev wsJx3cf430 : List Cond := u_ws RJx3cf43 TJx3cf43 0
theorem nmJx3cf43 : ∀ a, a < 0 → ∀ b, b < 0 → a ≠ b → (TJx3cf43 a).2.1 ≠ (TJx3cf43 b).2.1 := by decide +kernel
theorem tyJx3cf43_ok : ∀ k, k < 0 → parseFieldDescriptor (TJx3cf43 k).2.2.1 = some (tyJx3cf43 k) := by decide +kernel
def RJxa1e45 : String := "java/util/AbstractCollection"
def TJxa1e45 : u_T := fun k => match k with
  | _ => ("", "", "", false)
def tyJxa1e45 : Nat → FieldType := fun k => match k with
  | _ => .int
abbrev wsJxa1e450 : List Cond := u_ws RJxa1e45 TJxa1e45 0
theorem nmJxa1e45 : ∀ a, a < 0 → ∀ b, b < 0 → a ≠ b → (TJxa1e45 a).2.1 ≠ (TJxa1e45 b).2.1 := by decide +kernel
theorem tyJxa1e45_ok : ∀ k, k < 0 → parseFieldDescriptor (TJxa1e45 k).2.2.1 = some (tyJxa1e45 k) := by decide +kernel
abbrev cJxa1e45_init_da8c8 : ByteArray := prog_31_method_1_code
def yJxa1e45_init_da8c8 : MethodName := ⟨RJxa1e45, "<init>", "()V"⟩
def RJxc12de : String := "java/util/AbstractList"
def TJxc12de : u_T := fun k => match k with
  | _ => ("", "", "", false)
def tyJxc12de : Nat → FieldType := fun k => match k with
  | _ => .int
abbrev wsJxc12de0 : List Cond := u_ws RJxc12de TJxc12de 0
theorem nmJxc12de : ∀ a, a < 0 → ∀ b, b < 0 → a ≠ b → (TJxc12de a).2.1 ≠ (TJxc12de b).2.1 := by decide +kernel
theorem tyJxc12de_ok : ∀ k, k < 0 → parseFieldDescriptor (TJxc12de k).2.2.1 = some (tyJxc12de k) := by decide +kernel
abbrev cJxc12de_init_da8c8 : ByteArray := prog_32_method_1_code
def yJxc12de_init_da8c8 : MethodName := ⟨RJxc12de, "<init>", "()V"⟩
def RJx4a65c : String := "java/util/ArrayList"
def TJx4a65c : u_T := fun k => match k with
  | 0 => ("java/util/AbstractList", "modCount", "I", false)
  | 1 => ("java/util/ArrayList", "elementData", "[Ljava/lang/Object;", false)
  | _ => ("java/util/ArrayList", "size", "I", false)
def tyJx4a65c : Nat → FieldType := fun k => match k with
  | 0 => .int
  | 1 => .array (.object "java/lang/Object")
  | _ => .int
abbrev wsJx4a65c0 : List Cond := u_ws RJx4a65c TJx4a65c 3
theorem nmJx4a65c : ∀ a, a < 3 → ∀ b, b < 3 → a ≠ b → (TJx4a65c a).2.1 ≠ (TJx4a65c b).2.1 := by decide +kernel
theorem tyJx4a65c_ok : ∀ k, k < 3 → parseFieldDescriptor (TJx4a65c k).2.2.1 = some (tyJx4a65c k) := by decide +kernel
abbrev cJx4a65c_init_da8c8 : ByteArray := prog_33_method_2_code
def yJx4a65c_init_da8c8 : MethodName := ⟨RJx4a65c, "<init>", "()V"⟩
abbrev cJx4a65c_grow_92f84 : ByteArray := prog_33_method_6_code
def yJx4a65c_grow_92f84 : MethodName := ⟨RJx4a65c, "grow", "(I)[Ljava/lang/Object;"⟩
abbrev cJx4a65c_grow_d5877 : ByteArray := prog_33_method_7_code
def yJx4a65c_grow_d5877 : MethodName := ⟨RJx4a65c, "grow", "()[Ljava/lang/Object;"⟩
abbrev cJx4a65c_size_8abf5 : ByteArray := prog_33_method_8_code
def yJx4a65c_size_8abf5 : MethodName := ⟨RJx4a65c, "size", "()I"⟩
abbrev cJx4a65c_elementData_915e3 : ByteArray := prog_33_method_18_code
def yJx4a65c_elementData_915e3 : MethodName := ⟨RJx4a65c, "elementData", "(I)Ljava/lang/Object;"⟩
abbrev cJx4a65c_get_915e3 : ByteArray := prog_33_method_20_code
def yJx4a65c_get_915e3 : MethodName := ⟨RJx4a65c, "get", "(I)Ljava/lang/Object;"⟩
abbrev cJx4a65c_add_72be8 : ByteArray := prog_33_method_24_code
def yJx4a65c_add_72be8 : MethodName := ⟨RJx4a65c, "add", "(Ljava/lang/Object;[Ljava/lang/Object;I)V"⟩
abbrev cJx4a65c_add_9ea2d : ByteArray := prog_33_method_25_code
def yJx4a65c_add_9ea2d : MethodName := ⟨RJx4a65c, "add", "(Ljava/lang/Object;)Z"⟩
abbrev cJx4a65c_add_7a177 : ByteArray := prog_33_method_26_code
def yJx4a65c_add_7a177 : MethodName := ⟨RJx4a65c, "add", "(ILjava/lang/Object;)V"⟩
abbrev cJx4a65c_clear_da8c8 : ByteArray := prog_33_method_40_code
def yJx4a65c_clear_da8c8 : MethodName := ⟨RJx4a65c, "clear", "()V"⟩
abbrev cJx4a65c_rangeCheckForAdd_d00df : ByteArray := prog_33_method_45_code
def yJx4a65c_rangeCheckForAdd_d00df : MethodName := ⟨RJx4a65c, "rangeCheckForAdd", "(I)V"⟩
abbrev cJx4a65c_outOfBoundsMsg_b52d3 : ByteArray := prog_33_method_46_code
def yJx4a65c_outOfBoundsMsg_b52d3 : MethodName := ⟨RJx4a65c, "outOfBoundsMsg", "(I)Ljava/lang/String;"⟩
def RJ7 : String := "java/util/Arrays"
def TJ7 : u_T := fun k => match k with
  | _ => ("", "", "", false)
def tyJ7 : Nat → FieldType := fun k => match k with
  | _ => .int
abbrev wsJ70 : List Cond := u_ws RJ7 TJ7 0
theorem nmJ7 : ∀ a, a < 0 → ∀ b, b < 0 → a ≠ b → (TJ7 a).2.1 ≠ (TJ7 b).2.1 := by decide +kernel
theorem tyJ7_ok : ∀ k, k < 0 → parseFieldDescriptor (TJ7 k).2.2.1 = some (tyJ7 k) := by decide +kernel
abbrev cJ7_copyOf_1904c : ByteArray := prog_34_method_119_code
def yJ7_copyOf_1904c : MethodName := ⟨RJ7, "copyOf", "([Ljava/lang/Object;I)[Ljava/lang/Object;"⟩
abbrev cJ7_copyOf_6403c : ByteArray := prog_34_method_120_code
def yJ7_copyOf_6403c : MethodName := ⟨RJ7, "copyOf", "([Ljava/lang/Object;ILjava/lang/Class;)[Ljava/lang/Object;"⟩
abbrev cJ7_copyOf_9075b : ByteArray := prog_34_method_121_code
def yJ7_copyOf_9075b : MethodName := ⟨RJ7, "copyOf", "([BI)[B"⟩
abbrev cJ7_checkLength_df160 : ByteArray := prog_34_method_131_code
def yJ7_checkLength_df160 : MethodName := ⟨RJ7, "checkLength", "(II)V"⟩
abbrev cJ7_copyOfRange_39247 : ByteArray := prog_34_method_132_code
def yJ7_copyOfRange_39247 : MethodName := ⟨RJ7, "copyOfRange", "([BII)[B"⟩
abbrev cJ7_copyOfRangeByte_39247 : ByteArray := prog_34_method_133_code
def yJ7_copyOfRangeByte_39247 : MethodName := ⟨RJ7, "copyOfRangeByte", "([BII)[B"⟩
def RJx5ef63 : String := "java/util/Collection"
def TJx5ef63 : u_T := fun k => match k with
  | _ => ("", "", "", false)
def tyJx5ef63 : Nat → FieldType := fun k => match k with
  | _ => .int
abbrev wsJx5ef630 : List Cond := u_ws RJx5ef63 TJx5ef63 0
theorem nmJx5ef63 : ∀ a, a < 0 → ∀ b, b < 0 → a ≠ b → (TJx5ef63 a).2.1 ≠ (TJx5ef63 b).2.1 := by decide +kernel
theorem tyJx5ef63_ok : ∀ k, k < 0 → parseFieldDescriptor (TJx5ef63 k).2.2.1 = some (tyJx5ef63 k) := by decide +kernel
def RJxbd725 : String := "java/util/List"
def TJxbd725 : u_T := fun k => match k with
  | _ => ("", "", "", false)
def tyJxbd725 : Nat → FieldType := fun k => match k with
  | _ => .int
abbrev wsJxbd7250 : List Cond := u_ws RJxbd725 TJxbd725 0
theorem nmJxbd725 : ∀ a, a < 0 → ∀ b, b < 0 → a ≠ b → (TJxbd725 a).2.1 ≠ (TJxbd725 b).2.1 := by decide +kernel
theorem tyJxbd725_ok : ∀ k, k < 0 → parseFieldDescriptor (TJxbd725 k).2.2.1 = some (tyJxbd725 k) := by decide +kernel
def RJ15 : String := "java/util/Objects"
def TJ15 : u_T := fun k => match k with
  | _ => ("", "", "", false)
def tyJ15 : Nat → FieldType := fun k => match k with
  | _ => .int
abbrev wsJ150 : List Cond := u_ws RJ15 TJ15 0
theorem nmJ15 : ∀ a, a < 0 → ∀ b, b < 0 → a ≠ b → (TJ15 a).2.1 ≠ (TJ15 b).2.1 := by decide +kernel
theorem tyJ15_ok : ∀ k, k < 0 → parseFieldDescriptor (TJ15 k).2.2.1 = some (tyJ15 k) := by decide +kernel
abbrev cJ15_checkIndex_7cf53 : ByteArray := prog_37_method_17_code
def yJ15_checkIndex_7cf53 : MethodName := ⟨RJ15, "checkIndex", "(II)I"⟩
def RJxf0a74 : String := "java/util/RandomAccess"
def TJxf0a74 : u_T := fun k => match k with
  | _ => ("", "", "", false)
def tyJxf0a74 : Nat → FieldType := fun k => match k with
  | _ => .int
abbrev wsJxf0a740 : List Cond := u_ws RJxf0a74 TJxf0a74 0
theorem nmJxf0a74 : ∀ a, a < 0 → ∀ b, b < 0 → a ≠ b → (TJxf0a74 a).2.1 ≠ (TJxf0a74 b).2.1 := by decide +kernel
theorem tyJxf0a74_ok : ∀ k, k < 0 → parseFieldDescriptor (TJxf0a74 k).2.2.1 = some (tyJxf0a74 k) := by decide +kernel
def RJxa66e6 : String := "java/util/SequencedCollection"
def TJxa66e6 : u_T := fun k => match k with
  | _ => ("", "", "", false)
def tyJxa66e6 : Nat → FieldType := fun k => match k with
  | _ => .int
abbrev wsJxa66e60 : List Cond := u_ws RJxa66e6 TJxa66e6 0
theorem nmJxa66e6 : ∀ a, a < 0 → ∀ b, b < 0 → a ≠ b → (TJxa66e6 a).2.1 ≠ (TJxa66e6 b).2.1 := by decide +kernel
theorem tyJxa66e6_ok : ∀ k, k < 0 → parseFieldDescriptor (TJxa66e6 k).2.2.1 = some (tyJxa66e6 k) := by decide +kernel
def RJ8 : String := "jdk/internal/util/ArraysSupport"
def TJ8 : u_T := fun k => match k with
  | _ => ("", "", "", false)
def tyJ8 : Nat → FieldType := fun k => match k with
  | _ => .int
abbrev wsJ80 : List Cond := u_ws RJ8 TJ8 0
theorem nmJ8 : ∀ a, a < 0 → ∀ b, b < 0 → a ≠ b → (TJ8 a).2.1 ≠ (TJ8 b).2.1 := by decide +kernel
theorem tyJ8_ok : ∀ k, k < 0 → parseFieldDescriptor (TJ8 k).2.2.1 = some (tyJ8 k) := by decide +kernel
abbrev cJ8_newLength_cabcc : ByteArray := prog_40_method_27_code
def yJ8_newLength_cabcc : MethodName := ⟨RJ8, "newLength", "(III)I"⟩
abbrev cJ8_hugeLength_7cf53 : ByteArray := prog_40_method_28_code
def yJ8_hugeLength_7cf53 : MethodName := ⟨RJ8, "hugeLength", "(II)I"⟩
def RJ3 : String := "jdk/internal/util/Preconditions"
def TJ3 : u_T := fun k => match k with
  | _ => ("", "", "", false)
def tyJ3 : Nat → FieldType := fun k => match k with
  | _ => .int
abbrev wsJ30 : List Cond := u_ws RJ3 TJ3 0
theorem nmJ3 : ∀ a, a < 0 → ∀ b, b < 0 → a ≠ b → (TJ3 a).2.1 ≠ (TJ3 b).2.1 := by decide +kernel
theorem tyJ3_ok : ∀ k, k < 0 → parseFieldDescriptor (TJ3 k).2.2.1 = some (tyJ3 k) := by decide +kernel
abbrev cJ3_checkIndex_8e157 : ByteArray := prog_41_method_11_code
def yJ3_checkIndex_8e157 : MethodName := ⟨RJ3, "checkIndex", "(IILjava/util/function/BiFunction;)I"⟩
abbrev cJ3_checkFromToIndex_8c36e : ByteArray := prog_41_method_12_code
def yJ3_checkFromToIndex_8c36e : MethodName := ⟨RJ3, "checkFromToIndex", "(IIILjava/util/function/BiFunction;)I"⟩
abbrev cJ3_checkFromIndexSize_8c36e : ByteArray := prog_41_method_13_code
def yJ3_checkFromIndexSize_8c36e : MethodName := ⟨RJ3, "checkFromIndexSize", "(IIILjava/util/function/BiFunction;)I"⟩
def RL : String := "PipewrightExchangeLaw"
abbrev cL_district : ByteArray := method_3_code
def yL_district : MethodName := ⟨RL, "district", "(LPipewrightExchange;II[J)I"⟩
abbrev cL_pipe : ByteArray := method_4_code
def yL_pipe : MethodName := ⟨RL, "pipe", "(LPipewrightExchange;III[J)I"⟩
abbrev cL_source : ByteArray := method_5_code
def yL_source : MethodName := ⟨RL, "source", "(LPipewrightExchange;I[J)I"⟩
abbrev cL_need : ByteArray := method_6_code
def yL_need : MethodName := ⟨RL, "need", "(LPipewrightExchange;II[J)I"⟩
abbrev cL_bid : ByteArray := method_7_code
def yL_bid : MethodName := ⟨RL, "bid", "(LPipewrightExchange;III[J)I"⟩
abbrev cL_close : ByteArray := method_8_code
def yL_close : MethodName := ⟨RL, "close", "(LPipewrightExchange;[J)I"⟩
abbrev cL_burst : ByteArray := method_9_code
def yL_burst : MethodName := ⟨RL, "burst", "(LPipewrightExchange;I[J)I"⟩
abbrev cL_repair : ByteArray := method_10_code
def yL_repair : MethodName := ⟨RL, "repair", "(LPipewrightExchange;I)I"⟩
abbrev cL_end : ByteArray := method_11_code
def yL_end : MethodName := ⟨RL, "end", "(LPipewrightExchange;[J)I"⟩
abbrev cL_ofDistrict : ByteArray := method_12_code
def yL_ofDistrict : MethodName := ⟨RL, "ofDistrict", "(LPipewrightExchange;II[J)I"⟩
abbrev cL_flowAnew : ByteArray := method_13_code
def yL_flowAnew : MethodName := ⟨RL, "flowAnew", "(LPipewrightExchange;I[J)I"⟩
abbrev cL_most : ByteArray := method_14_code
def yL_most : MethodName := ⟨RL, "most", "(LPipewrightExchange;I[J)I"⟩
abbrev cL_place : ByteArray := method_15_code
def yL_place : MethodName := ⟨RL, "place", "(LPipewrightExchange;I[J)I"⟩
abbrev cL_count : ByteArray := method_16_code
def yL_count : MethodName := ⟨RL, "count", "(LPipewrightExchange;I[J)I"⟩
abbrev cL_law : ByteArray := code
def yL_law : MethodName := ⟨RL, "law", "([I)Z"⟩
abbrev vwCl : List vw_C := [(RJ0, TJ0, 4), (RJ4, TJ4, 4), (RJx4a65c, TJx4a65c, 3), (RX0, TX0, 4), (RX1, TX1, 14), (RX2, TX2, 7), (RX3, TX3, 4), (RX4, TX4, 9), (RX5, TX5, 35)]
end
section
theorem dX0_init_0 : decode cX0_init 0 = .ok (.aload_n 0, 1) := by decide +kernel
theorem dX0_init_1 : decode cX0_init 1 = .ok (.invokespecial 1, 3) := by decide +kernel
theorem dX0_init_4 : decode cX0_init 4 = .ok (.aload_n 0, 1) := by decide +kernel
theorem dX0_init_5 : decode cX0_init 5 = .ok (.iconst 0, 1) := by decide +kernel
theorem dX0_init_6 : decode cX0_init 6 = .ok (.putfield 7, 3) := by decide +kernel
theorem dX0_init_9 : decode cX0_init 9 = .ok (.aload_n 0, 1) := by decide +kernel
theorem dX0_init_10 : decode cX0_init 10 = .ok (.iconst 0, 1) := by decide +kernel
theorem dX0_init_11 : decode cX0_init 11 = .ok (.putfield 13, 3) := by decide +kernel
theorem dX0_init_14 : decode cX0_init 14 = .ok (.aload_n 0, 1) := by decide +kernel
theorem dX0_init_15 : decode cX0_init 15 = .ok (.iconst 0, 1) := by decide +kernel
theorem dX0_init_16 : decode cX0_init 16 = .ok (.putfield 17, 3) := by decide +kernel
theorem dX0_init_19 : decode cX0_init 19 = .ok (.aload_n 0, 1) := by decide +kernel
theorem dX0_init_20 : decode cX0_init 20 = .ok (.iconst 0, 1) := by decide +kernel
theorem dX0_init_21 : decode cX0_init 21 = .ok (.putfield 20, 3) := by decide +kernel
theorem dX0_init_24 : decode cX0_init 24 = .ok (.return_, 1) := by decide +kernel
theorem dX0_set_0 : decode cX0_set 0 = .ok (.aload_n 0, 1) := by decide +kernel
theorem dX0_set_1 : decode cX0_set 1 = .ok (.iconst 1, 1) := by decide +kernel
theorem dX0_set_2 : decode cX0_set 2 = .ok (.putfield 7, 3) := by decide +kernel
theorem dX0_set_5 : decode cX0_set 5 = .ok (.aload_n 0, 1) := by decide +kernel
theorem dX0_set_6 : decode cX0_set 6 = .ok (.iload_n 1, 1) := by decide +kernel
theorem dX0_set_7 : decode cX0_set 7 = .ok (.putfield 13, 3) := by decide +kernel
theorem dX0_set_10 : decode cX0_set 10 = .ok (.aload_n 0, 1) := by decide +kernel
theorem dX0_set_11 : decode cX0_set 11 = .ok (.iload_n 2, 1) := by decide +kernel
theorem dX0_set_12 : decode cX0_set 12 = .ok (.putfield 17, 3) := by decide +kernel
theorem dX0_set_15 : decode cX0_set 15 = .ok (.aload_n 0, 1) := by decide +kernel
theorem dX0_set_16 : decode cX0_set 16 = .ok (.iload_n 3, 1) := by decide +kernel
theorem dX0_set_17 : decode cX0_set 17 = .ok (.putfield 20, 3) := by decide +kernel
theorem dX0_set_20 : decode cX0_set 20 = .ok (.return_, 1) := by decide +kernel
theorem dX0_isAheadOf_0 : decode cX0_isAheadOf 0 = .ok (.aload_n 0, 1) := by decide +kernel
theorem dX0_isAheadOf_1 : decode cX0_isAheadOf 1 = .ok (.getfield 13, 3) := by decide +kernel
theorem dX0_isAheadOf_4 : decode cX0_isAheadOf 4 = .ok (.aload_n 1, 1) := by decide +kernel
theorem dX0_isAheadOf_5 : decode cX0_isAheadOf 5 = .ok (.getfield 13, 3) := by decide +kernel
theorem dX0_isAheadOf_8 : decode cX0_isAheadOf 8 = .ok (.if_icmp .eq 22, 3) := by decide +kernel
theorem dX0_isAheadOf_11 : decode cX0_isAheadOf 11 = .ok (.aload_n 0, 1) := by decide +kernel
theorem dX0_isAheadOf_12 : decode cX0_isAheadOf 12 = .ok (.getfield 13, 3) := by decide +kernel
theorem dX0_isAheadOf_15 : decode cX0_isAheadOf 15 = .ok (.aload_n 1, 1) := by decide +kernel
theorem dX0_isAheadOf_16 : decode cX0_isAheadOf 16 = .ok (.getfield 13, 3) := by decide +kernel
theorem dX0_isAheadOf_19 : decode cX0_isAheadOf 19 = .ok (.if_icmp .le 7, 3) := by decide +kernel
theorem dX0_isAheadOf_22 : decode cX0_isAheadOf 22 = .ok (.iconst 1, 1) := by decide +kernel
theorem dX0_isAheadOf_23 : decode cX0_isAheadOf 23 = .ok (.goto 23, 3) := by decide +kernel
theorem dX0_isAheadOf_26 : decode cX0_isAheadOf 26 = .ok (.iconst 0, 1) := by decide +kernel
theorem dX0_isAheadOf_27 : decode cX0_isAheadOf 27 = .ok (.goto 19, 3) := by decide +kernel
theorem dX0_isAheadOf_30 : decode cX0_isAheadOf 30 = .ok (.aload_n 0, 1) := by decide +kernel
theorem dX0_isAheadOf_31 : decode cX0_isAheadOf 31 = .ok (.getfield 20, 3) := by decide +kernel
theorem dX0_isAheadOf_34 : decode cX0_isAheadOf 34 = .ok (.aload_n 1, 1) := by decide +kernel
theorem dX0_isAheadOf_35 : decode cX0_isAheadOf 35 = .ok (.getfield 20, 3) := by decide +kernel
theorem dX0_isAheadOf_38 : decode cX0_isAheadOf 38 = .ok (.if_icmp .ge 7, 3) := by decide +kernel
theorem dX0_isAheadOf_41 : decode cX0_isAheadOf 41 = .ok (.iconst 1, 1) := by decide +kernel
theorem dX0_isAheadOf_42 : decode cX0_isAheadOf 42 = .ok (.goto 4, 3) := by decide +kernel
theorem dX0_isAheadOf_45 : decode cX0_isAheadOf 45 = .ok (.iconst 0, 1) := by decide +kernel
theorem dX0_isAheadOf_46 : decode cX0_isAheadOf 46 = .ok (.ireturn, 1) := by decide +kernel
theorem dX1_init_0 : decode cX1_init 0 = .ok (.aload_n 0, 1) := by decide +kernel
theorem dX1_init_1 : decode cX1_init 1 = .ok (.invokespecial 1, 3) := by decide +kernel
theorem dX1_init_4 : decode cX1_init 4 = .ok (.aload_n 0, 1) := by decide +kernel
theorem dX1_init_5 : decode cX1_init 5 = .ok (.iconst 0, 1) := by decide +kernel
theorem dX1_init_6 : decode cX1_init 6 = .ok (.putfield 7, 3) := by decide +kernel
theorem dX1_init_9 : decode cX1_init 9 = .ok (.aload_n 0, 1) := by decide +kernel
theorem dX1_init_10 : decode cX1_init 10 = .ok (.new 13, 3) := by decide +kernel
theorem dX1_init_13 : decode cX1_init 13 = .ok (.dup, 1) := by decide +kernel
theorem dX1_init_14 : decode cX1_init 14 = .ok (.invokespecial 15, 3) := by decide +kernel
theorem dX1_init_17 : decode cX1_init 17 = .ok (.putfield 16, 3) := by decide +kernel
theorem dX1_init_20 : decode cX1_init 20 = .ok (.aload_n 0, 1) := by decide +kernel
theorem dX1_init_21 : decode cX1_init 21 = .ok (.new 13, 3) := by decide +kernel
theorem dX1_init_24 : decode cX1_init 24 = .ok (.dup, 1) := by decide +kernel
theorem dX1_init_25 : decode cX1_init 25 = .ok (.invokespecial 15, 3) := by decide +kernel
theorem dX1_init_28 : decode cX1_init 28 = .ok (.putfield 20, 3) := by decide +kernel
theorem dX1_init_31 : decode cX1_init 31 = .ok (.aload_n 0, 1) := by decide +kernel
theorem dX1_init_32 : decode cX1_init 32 = .ok (.iconst 0, 1) := by decide +kernel
theorem dX1_init_33 : decode cX1_init 33 = .ok (.putfield 23, 3) := by decide +kernel
theorem dX1_init_36 : decode cX1_init 36 = .ok (.aload_n 0, 1) := by decide +kernel
theorem dX1_init_37 : decode cX1_init 37 = .ok (.iconst 0, 1) := by decide +kernel
theorem dX1_init_38 : decode cX1_init 38 = .ok (.putfield 27, 3) := by decide +kernel
theorem dX1_init_41 : decode cX1_init 41 = .ok (.aload_n 0, 1) := by decide +kernel
theorem dX1_init_42 : decode cX1_init 42 = .ok (.iconst 0, 1) := by decide +kernel
theorem dX1_init_43 : decode cX1_init 43 = .ok (.putfield 30, 3) := by decide +kernel
theorem dX1_init_46 : decode cX1_init 46 = .ok (.aload_n 0, 1) := by decide +kernel
theorem dX1_init_47 : decode cX1_init 47 = .ok (.iconst 0, 1) := by decide +kernel
theorem dX1_init_48 : decode cX1_init 48 = .ok (.putfield 33, 3) := by decide +kernel
theorem dX1_init_51 : decode cX1_init 51 = .ok (.aload_n 0, 1) := by decide +kernel
theorem dX1_init_52 : decode cX1_init 52 = .ok (.iconst 0, 1) := by decide +kernel
theorem dX1_init_53 : decode cX1_init 53 = .ok (.putfield 36, 3) := by decide +kernel
theorem dX1_init_56 : decode cX1_init 56 = .ok (.aload_n 0, 1) := by decide +kernel
theorem dX1_init_57 : decode cX1_init 57 = .ok (.iconst 0, 1) := by decide +kernel
theorem dX1_init_58 : decode cX1_init 58 = .ok (.putfield 39, 3) := by decide +kernel
theorem dX1_init_61 : decode cX1_init 61 = .ok (.aload_n 0, 1) := by decide +kernel
theorem dX1_init_62 : decode cX1_init 62 = .ok (.iconst 0, 1) := by decide +kernel
theorem dX1_init_63 : decode cX1_init 63 = .ok (.putfield 42, 3) := by decide +kernel
theorem dX1_init_66 : decode cX1_init 66 = .ok (.aload_n 0, 1) := by decide +kernel
theorem dX1_init_67 : decode cX1_init 67 = .ok (.iconst 0, 1) := by decide +kernel
theorem dX1_init_68 : decode cX1_init 68 = .ok (.putfield 45, 3) := by decide +kernel
theorem dX1_init_71 : decode cX1_init 71 = .ok (.aload_n 0, 1) := by decide +kernel
theorem dX1_init_72 : decode cX1_init 72 = .ok (.iload_n 1, 1) := by decide +kernel
theorem dX1_init_73 : decode cX1_init 73 = .ok (.iconst 1, 1) := by decide +kernel
theorem dX1_init_74 : decode cX1_init 74 = .ok (.iadd, 1) := by decide +kernel
theorem dX1_init_75 : decode cX1_init 75 = .ok (.putfield 48, 3) := by decide +kernel
theorem dX1_init_78 : decode cX1_init 78 = .ok (.aload_n 0, 1) := by decide +kernel
theorem dX1_init_79 : decode cX1_init 79 = .ok (.iload_n 2, 1) := by decide +kernel
theorem dX1_init_80 : decode cX1_init 80 = .ok (.putfield 51, 3) := by decide +kernel
theorem dX1_init_83 : decode cX1_init 83 = .ok (.aload_n 0, 1) := by decide +kernel
theorem dX1_init_84 : decode cX1_init 84 = .ok (.iload_n 3, 1) := by decide +kernel
theorem dX1_init_85 : decode cX1_init 85 = .ok (.putfield 54, 3) := by decide +kernel
theorem dX1_init_88 : decode cX1_init 88 = .ok (.return_, 1) := by decide +kernel
theorem dX1_settleRound_0 : decode cX1_settleRound 0 = .ok (.aload_n 0, 1) := by decide +kernel
theorem dX1_settleRound_1 : decode cX1_settleRound 1 = .ok (.getfield 20, 3) := by decide +kernel
theorem dX1_settleRound_4 : decode cX1_settleRound 4 = .ok (.getfield 57, 3) := by decide +kernel
theorem dX1_settleRound_7 : decode cX1_settleRound 7 = .ok (.ifCond .eq 47, 3) := by decide +kernel
theorem dX1_settleRound_10 : decode cX1_settleRound 10 = .ok (.aload_n 0, 1) := by decide +kernel
theorem dX1_settleRound_11 : decode cX1_settleRound 11 = .ok (.getfield 16, 3) := by decide +kernel
theorem dX1_settleRound_14 : decode cX1_settleRound 14 = .ok (.aload_n 0, 1) := by decide +kernel
theorem dX1_settleRound_15 : decode cX1_settleRound 15 = .ok (.getfield 20, 3) := by decide +kernel
theorem dX1_settleRound_18 : decode cX1_settleRound 18 = .ok (.getfield 60, 3) := by decide +kernel
theorem dX1_settleRound_21 : decode cX1_settleRound 21 = .ok (.aload_n 0, 1) := by decide +kernel
theorem dX1_settleRound_22 : decode cX1_settleRound 22 = .ok (.getfield 20, 3) := by decide +kernel
theorem dX1_settleRound_25 : decode cX1_settleRound 25 = .ok (.getfield 63, 3) := by decide +kernel
theorem dX1_settleRound_28 : decode cX1_settleRound 28 = .ok (.aload_n 0, 1) := by decide +kernel
theorem dX1_settleRound_29 : decode cX1_settleRound 29 = .ok (.getfield 20, 3) := by decide +kernel
theorem dX1_settleRound_32 : decode cX1_settleRound 32 = .ok (.getfield 66, 3) := by decide +kernel
theorem dX1_settleRound_35 : decode cX1_settleRound 35 = .ok (.invokevirtual 69, 3) := by decide +kernel
theorem dX1_settleRound_38 : decode cX1_settleRound 38 = .ok (.aload_n 0, 1) := by decide +kernel
theorem dX1_settleRound_39 : decode cX1_settleRound 39 = .ok (.getfield 20, 3) := by decide +kernel
theorem dX1_settleRound_42 : decode cX1_settleRound 42 = .ok (.iconst 0, 1) := by decide +kernel
theorem dX1_settleRound_43 : decode cX1_settleRound 43 = .ok (.putfield 57, 3) := by decide +kernel
theorem dX1_settleRound_46 : decode cX1_settleRound 46 = .ok (.aload_n 0, 1) := by decide +kernel
theorem dX1_settleRound_47 : decode cX1_settleRound 47 = .ok (.iconst 0, 1) := by decide +kernel
theorem dX1_settleRound_48 : decode cX1_settleRound 48 = .ok (.putfield 23, 3) := by decide +kernel
theorem dX1_settleRound_51 : decode cX1_settleRound 51 = .ok (.goto 23, 3) := by decide +kernel
theorem dX1_settleRound_54 : decode cX1_settleRound 54 = .ok (.aload_n 0, 1) := by decide +kernel
theorem dX1_settleRound_55 : decode cX1_settleRound 55 = .ok (.getfield 23, 3) := by decide +kernel
theorem dX1_settleRound_58 : decode cX1_settleRound 58 = .ok (.ifCond .eq 11, 3) := by decide +kernel
theorem dX1_settleRound_61 : decode cX1_settleRound 61 = .ok (.aload_n 0, 1) := by decide +kernel
theorem dX1_settleRound_62 : decode cX1_settleRound 62 = .ok (.getfield 16, 3) := by decide +kernel
theorem dX1_settleRound_65 : decode cX1_settleRound 65 = .ok (.iconst 0, 1) := by decide +kernel
theorem dX1_settleRound_66 : decode cX1_settleRound 66 = .ok (.putfield 57, 3) := by decide +kernel
theorem dX1_settleRound_69 : decode cX1_settleRound 69 = .ok (.aload_n 0, 1) := by decide +kernel
theorem dX1_settleRound_70 : decode cX1_settleRound 70 = .ok (.iconst 1, 1) := by decide +kernel
theorem dX1_settleRound_71 : decode cX1_settleRound 71 = .ok (.putfield 23, 3) := by decide +kernel
theorem dX1_settleRound_74 : decode cX1_settleRound 74 = .ok (.return_, 1) := by decide +kernel
theorem dX1_pay_0 : decode cX1_pay 0 = .ok (.aload_n 0, 1) := by decide +kernel
theorem dX1_pay_1 : decode cX1_pay 1 = .ok (.dup, 1) := by decide +kernel
theorem dX1_pay_2 : decode cX1_pay 2 = .ok (.getfield 33, 3) := by decide +kernel
theorem dX1_pay_5 : decode cX1_pay 5 = .ok (.aload_n 0, 1) := by decide +kernel
theorem dX1_pay_6 : decode cX1_pay 6 = .ok (.getfield 16, 3) := by decide +kernel
theorem dX1_pay_9 : decode cX1_pay 9 = .ok (.getfield 60, 3) := by decide +kernel
theorem dX1_pay_12 : decode cX1_pay 12 = .ok (.aload_n 0, 1) := by decide +kernel
theorem dX1_pay_13 : decode cX1_pay 13 = .ok (.getfield 30, 3) := by decide +kernel
theorem dX1_pay_16 : decode cX1_pay 16 = .ok (.imul, 1) := by decide +kernel
theorem dX1_pay_17 : decode cX1_pay 17 = .ok (.iadd, 1) := by decide +kernel
theorem dX1_pay_18 : decode cX1_pay 18 = .ok (.putfield 33, 3) := by decide +kernel
theorem dX1_pay_21 : decode cX1_pay 21 = .ok (.return_, 1) := by decide +kernel
theorem dX1_takeBackPay_0 : decode cX1_takeBackPay 0 = .ok (.aload_n 0, 1) := by decide +kernel
theorem dX1_takeBackPay_1 : decode cX1_takeBackPay 1 = .ok (.getfield 27, 3) := by decide +kernel
theorem dX1_takeBackPay_4 : decode cX1_takeBackPay 4 = .ok (.aload_n 0, 1) := by decide +kernel
theorem dX1_takeBackPay_5 : decode cX1_takeBackPay 5 = .ok (.getfield 30, 3) := by decide +kernel
theorem dX1_takeBackPay_8 : decode cX1_takeBackPay 8 = .ok (.isub, 1) := by decide +kernel
theorem dX1_takeBackPay_9 : decode cX1_takeBackPay 9 = .ok (.istore_n 1, 1) := by decide +kernel
theorem dX1_takeBackPay_10 : decode cX1_takeBackPay 10 = .ok (.aload_n 0, 1) := by decide +kernel
theorem dX1_takeBackPay_11 : decode cX1_takeBackPay 11 = .ok (.getfield 16, 3) := by decide +kernel
theorem dX1_takeBackPay_14 : decode cX1_takeBackPay 14 = .ok (.getfield 60, 3) := by decide +kernel
theorem dX1_takeBackPay_17 : decode cX1_takeBackPay 17 = .ok (.iload_n 1, 1) := by decide +kernel
theorem dX1_takeBackPay_18 : decode cX1_takeBackPay 18 = .ok (.imul, 1) := by decide +kernel
theorem dX1_takeBackPay_19 : decode cX1_takeBackPay 19 = .ok (.istore_n 2, 1) := by decide +kernel
theorem dX1_takeBackPay_20 : decode cX1_takeBackPay 20 = .ok (.aload_n 0, 1) := by decide +kernel
theorem dX1_takeBackPay_21 : decode cX1_takeBackPay 21 = .ok (.dup, 1) := by decide +kernel
theorem dX1_takeBackPay_22 : decode cX1_takeBackPay 22 = .ok (.getfield 36, 3) := by decide +kernel
theorem dX1_takeBackPay_25 : decode cX1_takeBackPay 25 = .ok (.iload_n 2, 1) := by decide +kernel
theorem dX1_takeBackPay_26 : decode cX1_takeBackPay 26 = .ok (.iload_n 2, 1) := by decide +kernel
theorem dX1_takeBackPay_27 : decode cX1_takeBackPay 27 = .ok (.bipush 10, 2) := by decide +kernel
theorem dX1_takeBackPay_29 : decode cX1_takeBackPay 29 = .ok (.idiv, 1) := by decide +kernel
theorem dX1_takeBackPay_30 : decode cX1_takeBackPay 30 = .ok (.iadd, 1) := by decide +kernel
theorem dX1_takeBackPay_31 : decode cX1_takeBackPay 31 = .ok (.iadd, 1) := by decide +kernel
theorem dX1_takeBackPay_32 : decode cX1_takeBackPay 32 = .ok (.putfield 36, 3) := by decide +kernel
theorem dX1_takeBackPay_35 : decode cX1_takeBackPay 35 = .ok (.iload_n 1, 1) := by decide +kernel
theorem dX1_takeBackPay_36 : decode cX1_takeBackPay 36 = .ok (.ireturn, 1) := by decide +kernel
theorem dX1_store_0 : decode cX1_store 0 = .ok (.aload_n 0, 1) := by decide +kernel
theorem dX1_store_1 : decode cX1_store 1 = .ok (.getfield 30, 3) := by decide +kernel
theorem dX1_store_4 : decode cX1_store 4 = .ok (.aload_n 0, 1) := by decide +kernel
theorem dX1_store_5 : decode cX1_store 5 = .ok (.getfield 51, 3) := by decide +kernel
theorem dX1_store_8 : decode cX1_store 8 = .ok (.aload_n 0, 1) := by decide +kernel
theorem dX1_store_9 : decode cX1_store 9 = .ok (.getfield 7, 3) := by decide +kernel
theorem dX1_store_12 : decode cX1_store 12 = .ok (.isub, 1) := by decide +kernel
theorem dX1_store_13 : decode cX1_store 13 = .ok (.invokestatic 73, 3) := by decide +kernel
theorem dX1_store_16 : decode cX1_store 16 = .ok (.istore_n 1, 1) := by decide +kernel
theorem dX1_store_17 : decode cX1_store 17 = .ok (.aload_n 0, 1) := by decide +kernel
theorem dX1_store_18 : decode cX1_store 18 = .ok (.dup, 1) := by decide +kernel
theorem dX1_store_19 : decode cX1_store 19 = .ok (.getfield 7, 3) := by decide +kernel
theorem dX1_store_22 : decode cX1_store 22 = .ok (.iload_n 1, 1) := by decide +kernel
theorem dX1_store_23 : decode cX1_store 23 = .ok (.iadd, 1) := by decide +kernel
theorem dX1_store_24 : decode cX1_store 24 = .ok (.putfield 7, 3) := by decide +kernel
theorem dX1_store_27 : decode cX1_store 27 = .ok (.aload_n 0, 1) := by decide +kernel
theorem dX1_store_28 : decode cX1_store 28 = .ok (.dup, 1) := by decide +kernel
theorem dX1_store_29 : decode cX1_store 29 = .ok (.getfield 45, 3) := by decide +kernel
theorem dX1_store_32 : decode cX1_store 32 = .ok (.aload_n 0, 1) := by decide +kernel
theorem dX1_store_33 : decode cX1_store 33 = .ok (.getfield 30, 3) := by decide +kernel
theorem dX1_store_36 : decode cX1_store 36 = .ok (.iload_n 1, 1) := by decide +kernel
theorem dX1_store_37 : decode cX1_store 37 = .ok (.isub, 1) := by decide +kernel
theorem dX1_store_38 : decode cX1_store 38 = .ok (.iadd, 1) := by decide +kernel
theorem dX1_store_39 : decode cX1_store 39 = .ok (.putfield 45, 3) := by decide +kernel
theorem dX1_store_42 : decode cX1_store 42 = .ok (.return_, 1) := by decide +kernel
theorem dX1_takeNeed_0 : decode cX1_takeNeed 0 = .ok (.aload_n 0, 1) := by decide +kernel
theorem dX1_takeNeed_1 : decode cX1_takeNeed 1 = .ok (.getfield 54, 3) := by decide +kernel
theorem dX1_takeNeed_4 : decode cX1_takeNeed 4 = .ok (.aload_n 0, 1) := by decide +kernel
theorem dX1_takeNeed_5 : decode cX1_takeNeed 5 = .ok (.getfield 7, 3) := by decide +kernel
theorem dX1_takeNeed_8 : decode cX1_takeNeed 8 = .ok (.invokestatic 73, 3) := by decide +kernel
theorem dX1_takeNeed_11 : decode cX1_takeNeed 11 = .ok (.istore_n 1, 1) := by decide +kernel
theorem dX1_takeNeed_12 : decode cX1_takeNeed 12 = .ok (.aload_n 0, 1) := by decide +kernel
theorem dX1_takeNeed_13 : decode cX1_takeNeed 13 = .ok (.getfield 54, 3) := by decide +kernel
theorem dX1_takeNeed_16 : decode cX1_takeNeed 16 = .ok (.iload_n 1, 1) := by decide +kernel
theorem dX1_takeNeed_17 : decode cX1_takeNeed 17 = .ok (.isub, 1) := by decide +kernel
theorem dX1_takeNeed_18 : decode cX1_takeNeed 18 = .ok (.istore_n 2, 1) := by decide +kernel
theorem dX1_takeNeed_19 : decode cX1_takeNeed 19 = .ok (.aload_n 0, 1) := by decide +kernel
theorem dX1_takeNeed_20 : decode cX1_takeNeed 20 = .ok (.dup, 1) := by decide +kernel
theorem dX1_takeNeed_21 : decode cX1_takeNeed 21 = .ok (.getfield 7, 3) := by decide +kernel
theorem dX1_takeNeed_24 : decode cX1_takeNeed 24 = .ok (.iload_n 1, 1) := by decide +kernel
theorem dX1_takeNeed_25 : decode cX1_takeNeed 25 = .ok (.isub, 1) := by decide +kernel
theorem dX1_takeNeed_26 : decode cX1_takeNeed 26 = .ok (.putfield 7, 3) := by decide +kernel
theorem dX1_takeNeed_29 : decode cX1_takeNeed 29 = .ok (.aload_n 0, 1) := by decide +kernel
theorem dX1_takeNeed_30 : decode cX1_takeNeed 30 = .ok (.dup, 1) := by decide +kernel
theorem dX1_takeNeed_31 : decode cX1_takeNeed 31 = .ok (.getfield 39, 3) := by decide +kernel
theorem dX1_takeNeed_34 : decode cX1_takeNeed 34 = .ok (.iload_n 1, 1) := by decide +kernel
theorem dX1_takeNeed_35 : decode cX1_takeNeed 35 = .ok (.iadd, 1) := by decide +kernel
theorem dX1_takeNeed_36 : decode cX1_takeNeed 36 = .ok (.putfield 39, 3) := by decide +kernel
theorem dX1_takeNeed_39 : decode cX1_takeNeed 39 = .ok (.aload_n 0, 1) := by decide +kernel
theorem dX1_takeNeed_40 : decode cX1_takeNeed 40 = .ok (.dup, 1) := by decide +kernel
theorem dX1_takeNeed_41 : decode cX1_takeNeed 41 = .ok (.getfield 42, 3) := by decide +kernel
theorem dX1_takeNeed_44 : decode cX1_takeNeed 44 = .ok (.iload_n 2, 1) := by decide +kernel
theorem dX1_takeNeed_45 : decode cX1_takeNeed 45 = .ok (.iadd, 1) := by decide +kernel
theorem dX1_takeNeed_46 : decode cX1_takeNeed 46 = .ok (.putfield 42, 3) := by decide +kernel
theorem dX1_takeNeed_49 : decode cX1_takeNeed 49 = .ok (.iload_n 2, 1) := by decide +kernel
theorem dX1_takeNeed_50 : decode cX1_takeNeed 50 = .ok (.ireturn, 1) := by decide +kernel
theorem dX1_beginHour_0 : decode cX1_beginHour 0 = .ok (.aload_n 0, 1) := by decide +kernel
theorem dX1_beginHour_1 : decode cX1_beginHour 1 = .ok (.getfield 16, 3) := by decide +kernel
theorem dX1_beginHour_4 : decode cX1_beginHour 4 = .ok (.iconst 0, 1) := by decide +kernel
theorem dX1_beginHour_5 : decode cX1_beginHour 5 = .ok (.putfield 57, 3) := by decide +kernel
theorem dX1_beginHour_8 : decode cX1_beginHour 8 = .ok (.aload_n 0, 1) := by decide +kernel
theorem dX1_beginHour_9 : decode cX1_beginHour 9 = .ok (.iconst 0, 1) := by decide +kernel
theorem dX1_beginHour_10 : decode cX1_beginHour 10 = .ok (.putfield 30, 3) := by decide +kernel
theorem dX1_beginHour_13 : decode cX1_beginHour 13 = .ok (.return_, 1) := by decide +kernel
theorem dX2_init_0 : decode cX2_init 0 = .ok (.aload_n 0, 1) := by decide +kernel
theorem dX2_init_1 : decode cX2_init 1 = .ok (.invokespecial 3, 3) := by decide +kernel
theorem dX2_init_4 : decode cX2_init 4 = .ok (.aload_n 0, 1) := by decide +kernel
theorem dX2_init_5 : decode cX2_init 5 = .ok (.new 9, 3) := by decide +kernel
theorem dX2_init_8 : decode cX2_init 8 = .ok (.dup, 1) := by decide +kernel
theorem dX2_init_9 : decode cX2_init 9 = .ok (.invokespecial 11, 3) := by decide +kernel
theorem dX2_init_12 : decode cX2_init 12 = .ok (.putfield 12, 3) := by decide +kernel
theorem dX2_init_15 : decode cX2_init 15 = .ok (.aload_n 0, 1) := by decide +kernel
theorem dX2_init_16 : decode cX2_init 16 = .ok (.iconst 0, 1) := by decide +kernel
theorem dX2_init_17 : decode cX2_init 17 = .ok (.putfield 18, 3) := by decide +kernel
theorem dX2_init_20 : decode cX2_init 20 = .ok (.aload_n 0, 1) := by decide +kernel
theorem dX2_init_21 : decode cX2_init 21 = .ok (.iconst 0, 1) := by decide +kernel
theorem dX2_init_22 : decode cX2_init 22 = .ok (.putfield 22, 3) := by decide +kernel
theorem dX2_init_25 : decode cX2_init 25 = .ok (.aload_n 0, 1) := by decide +kernel
theorem dX2_init_26 : decode cX2_init 26 = .ok (.bipush 9, 2) := by decide +kernel
theorem dX2_init_28 : decode cX2_init 28 = .ok (.bipush 9, 2) := by decide +kernel
theorem dX2_init_30 : decode cX2_init 30 = .ok (.multianewarray 25 2, 4) := by decide +kernel
theorem dX2_init_34 : decode cX2_init 34 = .ok (.putfield 27, 3) := by decide +kernel
theorem dX2_init_37 : decode cX2_init 37 = .ok (.aload_n 0, 1) := by decide +kernel
theorem dX2_init_38 : decode cX2_init 38 = .ok (.bipush 9, 2) := by decide +kernel
theorem dX2_init_40 : decode cX2_init 40 = .ok (.newarray .int, 2) := by decide +kernel
theorem dX2_init_42 : decode cX2_init 42 = .ok (.putfield 30, 3) := by decide +kernel
theorem dX2_init_45 : decode cX2_init 45 = .ok (.aload_n 0, 1) := by decide +kernel
theorem dX2_init_46 : decode cX2_init 46 = .ok (.bipush 9, 2) := by decide +kernel
theorem dX2_init_48 : decode cX2_init 48 = .ok (.newarray .int, 2) := by decide +kernel
theorem dX2_init_50 : decode cX2_init 50 = .ok (.putfield 34, 3) := by decide +kernel
theorem dX2_init_53 : decode cX2_init 53 = .ok (.aload_n 0, 1) := by decide +kernel
theorem dX2_init_54 : decode cX2_init 54 = .ok (.bipush 9, 2) := by decide +kernel
theorem dX2_init_56 : decode cX2_init 56 = .ok (.newarray .int, 2) := by decide +kernel
theorem dX2_init_58 : decode cX2_init 58 = .ok (.putfield 37, 3) := by decide +kernel
theorem dX2_init_61 : decode cX2_init 61 = .ok (.return_, 1) := by decide +kernel
theorem dX2_countBurst_0 : decode cX2_countBurst 0 = .ok (.iconst 0, 1) := by decide +kernel
theorem dX2_countBurst_1 : decode cX2_countBurst 1 = .ok (.istore_n 1, 1) := by decide +kernel
theorem dX2_countBurst_2 : decode cX2_countBurst 2 = .ok (.iconst 0, 1) := by decide +kernel
theorem dX2_countBurst_3 : decode cX2_countBurst 3 = .ok (.istore_n 2, 1) := by decide +kernel
theorem dX2_countBurst_4 : decode cX2_countBurst 4 = .ok (.iload_n 2, 1) := by decide +kernel
theorem dX2_countBurst_5 : decode cX2_countBurst 5 = .ok (.aload_n 0, 1) := by decide +kernel
theorem dX2_countBurst_6 : decode cX2_countBurst 6 = .ok (.getfield 12, 3) := by decide +kernel
theorem dX2_countBurst_9 : decode cX2_countBurst 9 = .ok (.invokevirtual 40, 3) := by decide +kernel
theorem dX2_countBurst_12 : decode cX2_countBurst 12 = .ok (.if_icmp .ge 29, 3) := by decide +kernel
theorem dX2_countBurst_15 : decode cX2_countBurst 15 = .ok (.aload_n 0, 1) := by decide +kernel
theorem dX2_countBurst_16 : decode cX2_countBurst 16 = .ok (.getfield 12, 3) := by decide +kernel
theorem dX2_countBurst_19 : decode cX2_countBurst 19 = .ok (.iload_n 2, 1) := by decide +kernel
theorem dX2_countBurst_20 : decode cX2_countBurst 20 = .ok (.invokevirtual 44, 3) := by decide +kernel
theorem dX2_countBurst_23 : decode cX2_countBurst 23 = .ok (.checkcast 48, 3) := by decide +kernel
theorem dX2_countBurst_26 : decode cX2_countBurst 26 = .ok (.getfield 50, 3) := by decide +kernel
theorem dX2_countBurst_29 : decode cX2_countBurst 29 = .ok (.ifCond .eq 6, 3) := by decide +kernel
theorem dX2_countBurst_32 : decode cX2_countBurst 32 = .ok (.iinc 1 1, 3) := by decide +kernel
theorem dX2_countBurst_35 : decode cX2_countBurst 35 = .ok (.iinc 2 1, 3) := by decide +kernel
theorem dX2_countBurst_38 : decode cX2_countBurst 38 = .ok (.goto (-34), 3) := by decide +kernel
theorem dX2_countBurst_41 : decode cX2_countBurst 41 = .ok (.iload_n 1, 1) := by decide +kernel
theorem dX2_countBurst_42 : decode cX2_countBurst 42 = .ok (.ireturn, 1) := by decide +kernel
theorem dX2_empty_0 : decode cX2_empty 0 = .ok (.aload_n 0, 1) := by decide +kernel
theorem dX2_empty_1 : decode cX2_empty 1 = .ok (.aload_n 0, 1) := by decide +kernel
theorem dX2_empty_2 : decode cX2_empty 2 = .ok (.getfield 18, 3) := by decide +kernel
theorem dX2_empty_5 : decode cX2_empty 5 = .ok (.putfield 22, 3) := by decide +kernel
theorem dX2_empty_8 : decode cX2_empty 8 = .ok (.iconst 0, 1) := by decide +kernel
theorem dX2_empty_9 : decode cX2_empty 9 = .ok (.istore_n 1, 1) := by decide +kernel
theorem dX2_empty_10 : decode cX2_empty 10 = .ok (.iload_n 1, 1) := by decide +kernel
theorem dX2_empty_11 : decode cX2_empty 11 = .ok (.bipush 9, 2) := by decide +kernel
theorem dX2_empty_13 : decode cX2_empty 13 = .ok (.if_icmp .ge 32, 3) := by decide +kernel
theorem dX2_empty_16 : decode cX2_empty 16 = .ok (.iconst 0, 1) := by decide +kernel
theorem dX2_empty_17 : decode cX2_empty 17 = .ok (.istore_n 2, 1) := by decide +kernel
theorem dX2_empty_18 : decode cX2_empty 18 = .ok (.iload_n 2, 1) := by decide +kernel
theorem dX2_empty_19 : decode cX2_empty 19 = .ok (.bipush 9, 2) := by decide +kernel
theorem dX2_empty_21 : decode cX2_empty 21 = .ok (.if_icmp .ge 18, 3) := by decide +kernel
theorem dX2_empty_24 : decode cX2_empty 24 = .ok (.aload_n 0, 1) := by decide +kernel
theorem dX2_empty_25 : decode cX2_empty 25 = .ok (.getfield 27, 3) := by decide +kernel
theorem dX2_empty_28 : decode cX2_empty 28 = .ok (.iload_n 1, 1) := by decide +kernel
theorem dX2_empty_29 : decode cX2_empty 29 = .ok (.aaload, 1) := by decide +kernel
theorem dX2_empty_30 : decode cX2_empty 30 = .ok (.iload_n 2, 1) := by decide +kernel
theorem dX2_empty_31 : decode cX2_empty 31 = .ok (.iconst 0, 1) := by decide +kernel
theorem dX2_empty_32 : decode cX2_empty 32 = .ok (.iastore, 1) := by decide +kernel
theorem dX2_empty_33 : decode cX2_empty 33 = .ok (.iinc 2 1, 3) := by decide +kernel
theorem dX2_empty_36 : decode cX2_empty 36 = .ok (.goto (-18), 3) := by decide +kernel
theorem dX2_empty_39 : decode cX2_empty 39 = .ok (.iinc 1 1, 3) := by decide +kernel
theorem dX2_empty_42 : decode cX2_empty 42 = .ok (.goto (-32), 3) := by decide +kernel
theorem dX2_empty_45 : decode cX2_empty 45 = .ok (.iconst 0, 1) := by decide +kernel
theorem dX2_empty_46 : decode cX2_empty 46 = .ok (.istore_n 1, 1) := by decide +kernel
theorem dX2_empty_47 : decode cX2_empty 47 = .ok (.iload_n 1, 1) := by decide +kernel
theorem dX2_empty_48 : decode cX2_empty 48 = .ok (.aload_n 0, 1) := by decide +kernel
theorem dX2_empty_49 : decode cX2_empty 49 = .ok (.getfield 12, 3) := by decide +kernel
theorem dX2_empty_52 : decode cX2_empty 52 = .ok (.invokevirtual 40, 3) := by decide +kernel
theorem dX2_empty_55 : decode cX2_empty 55 = .ok (.if_icmp .ge 49, 3) := by decide +kernel
theorem dX2_empty_58 : decode cX2_empty 58 = .ok (.aload_n 0, 1) := by decide +kernel
theorem dX2_empty_59 : decode cX2_empty 59 = .ok (.getfield 12, 3) := by decide +kernel
theorem dX2_empty_62 : decode cX2_empty 62 = .ok (.iload_n 1, 1) := by decide +kernel
theorem dX2_empty_63 : decode cX2_empty 63 = .ok (.invokevirtual 44, 3) := by decide +kernel
theorem dX2_empty_66 : decode cX2_empty 66 = .ok (.checkcast 48, 3) := by decide +kernel
theorem dX2_empty_69 : decode cX2_empty 69 = .ok (.astore_n 2, 1) := by decide +kernel
theorem dX2_empty_70 : decode cX2_empty 70 = .ok (.aload_n 2, 1) := by decide +kernel
theorem dX2_empty_71 : decode cX2_empty 71 = .ok (.getfield 50, 3) := by decide +kernel
theorem dX2_empty_74 : decode cX2_empty 74 = .ok (.ifCond .ne 24, 3) := by decide +kernel
theorem dX2_empty_77 : decode cX2_empty 77 = .ok (.aload_n 0, 1) := by decide +kernel
theorem dX2_empty_78 : decode cX2_empty 78 = .ok (.getfield 27, 3) := by decide +kernel
theorem dX2_empty_81 : decode cX2_empty 81 = .ok (.aload_n 2, 1) := by decide +kernel
theorem dX2_empty_82 : decode cX2_empty 82 = .ok (.getfield 54, 3) := by decide +kernel
theorem dX2_empty_85 : decode cX2_empty 85 = .ok (.aaload, 1) := by decide +kernel
theorem dX2_empty_86 : decode cX2_empty 86 = .ok (.aload_n 2, 1) := by decide +kernel
theorem dX2_empty_87 : decode cX2_empty 87 = .ok (.getfield 57, 3) := by decide +kernel
theorem dX2_empty_90 : decode cX2_empty 90 = .ok (.dup2, 1) := by decide +kernel
theorem dX2_empty_91 : decode cX2_empty 91 = .ok (.iaload, 1) := by decide +kernel
theorem dX2_empty_92 : decode cX2_empty 92 = .ok (.aload_n 2, 1) := by decide +kernel
theorem dX2_empty_93 : decode cX2_empty 93 = .ok (.getfield 60, 3) := by decide +kernel
theorem dX2_empty_96 : decode cX2_empty 96 = .ok (.iadd, 1) := by decide +kernel
theorem dX2_empty_97 : decode cX2_empty 97 = .ok (.iastore, 1) := by decide +kernel
theorem dX2_empty_98 : decode cX2_empty 98 = .ok (.iinc 1 1, 3) := by decide +kernel
theorem dX2_empty_101 : decode cX2_empty 101 = .ok (.goto (-54), 3) := by decide +kernel
theorem dX2_empty_104 : decode cX2_empty 104 = .ok (.return_, 1) := by decide +kernel
theorem dX2_pour_0 : decode cX2_pour 0 = .ok (.iload_n 2, 1) := by decide +kernel
theorem dX2_pour_1 : decode cX2_pour 1 = .ok (.aload_n 0, 1) := by decide +kernel
theorem dX2_pour_2 : decode cX2_pour 2 = .ok (.getfield 22, 3) := by decide +kernel
theorem dX2_pour_5 : decode cX2_pour 5 = .ok (.invokestatic 63, 3) := by decide +kernel
theorem dX2_pour_8 : decode cX2_pour 8 = .ok (.istore_n 3, 1) := by decide +kernel
theorem dX2_pour_9 : decode cX2_pour 9 = .ok (.iconst 0, 1) := by decide +kernel
theorem dX2_pour_10 : decode cX2_pour 10 = .ok (.istore 4, 2) := by decide +kernel
theorem dX2_pour_12 : decode cX2_pour 12 = .ok (.iconst 0, 1) := by decide +kernel
theorem dX2_pour_13 : decode cX2_pour 13 = .ok (.istore 5, 2) := by decide +kernel
theorem dX2_pour_15 : decode cX2_pour 15 = .ok (.iload 5, 2) := by decide +kernel
theorem dX2_pour_17 : decode cX2_pour 17 = .ok (.iload_n 3, 1) := by decide +kernel
theorem dX2_pour_18 : decode cX2_pour 18 = .ok (.if_icmp .ge 48, 3) := by decide +kernel
theorem dX2_pour_21 : decode cX2_pour 21 = .ok (.iload 4, 2) := by decide +kernel
theorem dX2_pour_23 : decode cX2_pour 23 = .ok (.iload_n 3, 1) := by decide +kernel
theorem dX2_pour_24 : decode cX2_pour 24 = .ok (.if_icmp .ge 42, 3) := by decide +kernel
theorem dX2_pour_27 : decode cX2_pour 27 = .ok (.aload_n 0, 1) := by decide +kernel
theorem dX2_pour_28 : decode cX2_pour 28 = .ok (.iload_n 1, 1) := by decide +kernel
theorem dX2_pour_29 : decode cX2_pour 29 = .ok (.iload_n 3, 1) := by decide +kernel
theorem dX2_pour_30 : decode cX2_pour 30 = .ok (.iload 4, 2) := by decide +kernel
theorem dX2_pour_32 : decode cX2_pour 32 = .ok (.isub, 1) := by decide +kernel
theorem dX2_pour_33 : decode cX2_pour 33 = .ok (.invokevirtual 69, 3) := by decide +kernel
theorem dX2_pour_36 : decode cX2_pour 36 = .ok (.istore 6, 2) := by decide +kernel
theorem dX2_pour_38 : decode cX2_pour 38 = .ok (.iload 6, 2) := by decide +kernel
theorem dX2_pour_40 : decode cX2_pour 40 = .ok (.ifCond .ne 6, 3) := by decide +kernel
theorem dX2_pour_43 : decode cX2_pour 43 = .ok (.goto 23, 3) := by decide +kernel
theorem dX2_pour_46 : decode cX2_pour 46 = .ok (.aload_n 0, 1) := by decide +kernel
theorem dX2_pour_47 : decode cX2_pour 47 = .ok (.iload_n 1, 1) := by decide +kernel
theorem dX2_pour_48 : decode cX2_pour 48 = .ok (.iload 6, 2) := by decide +kernel
theorem dX2_pour_50 : decode cX2_pour 50 = .ok (.invokevirtual 72, 3) := by decide +kernel
theorem dX2_pour_53 : decode cX2_pour 53 = .ok (.iload 4, 2) := by decide +kernel
theorem dX2_pour_55 : decode cX2_pour 55 = .ok (.iload 6, 2) := by decide +kernel
theorem dX2_pour_57 : decode cX2_pour 57 = .ok (.iadd, 1) := by decide +kernel
theorem dX2_pour_58 : decode cX2_pour 58 = .ok (.istore 4, 2) := by decide +kernel
theorem dX2_pour_60 : decode cX2_pour 60 = .ok (.iinc 5 1, 3) := by decide +kernel
theorem dX2_pour_63 : decode cX2_pour 63 = .ok (.goto (-48), 3) := by decide +kernel
theorem dX2_pour_66 : decode cX2_pour 66 = .ok (.aload_n 0, 1) := by decide +kernel
theorem dX2_pour_67 : decode cX2_pour 67 = .ok (.dup, 1) := by decide +kernel
theorem dX2_pour_68 : decode cX2_pour 68 = .ok (.getfield 22, 3) := by decide +kernel
theorem dX2_pour_71 : decode cX2_pour 71 = .ok (.iload 4, 2) := by decide +kernel
theorem dX2_pour_73 : decode cX2_pour 73 = .ok (.isub, 1) := by decide +kernel
theorem dX2_pour_74 : decode cX2_pour 74 = .ok (.putfield 22, 3) := by decide +kernel
theorem dX2_pour_77 : decode cX2_pour 77 = .ok (.iload 4, 2) := by decide +kernel
theorem dX2_pour_79 : decode cX2_pour 79 = .ok (.ireturn, 1) := by decide +kernel
theorem dX2_findWay_0 : decode cX2_findWay 0 = .ok (.iconst 0, 1) := by decide +kernel
theorem dX2_findWay_1 : decode cX2_findWay 1 = .ok (.istore_n 3, 1) := by decide +kernel
theorem dX2_findWay_2 : decode cX2_findWay 2 = .ok (.iload_n 3, 1) := by decide +kernel
theorem dX2_findWay_3 : decode cX2_findWay 3 = .ok (.bipush 9, 2) := by decide +kernel
theorem dX2_findWay_5 : decode cX2_findWay 5 = .ok (.if_icmp .ge 16, 3) := by decide +kernel
theorem dX2_findWay_8 : decode cX2_findWay 8 = .ok (.aload_n 0, 1) := by decide +kernel
theorem dX2_findWay_9 : decode cX2_findWay 9 = .ok (.getfield 30, 3) := by decide +kernel
theorem dX2_findWay_12 : decode cX2_findWay 12 = .ok (.iload_n 3, 1) := by decide +kernel
theorem dX2_findWay_13 : decode cX2_findWay 13 = .ok (.iconst 0, 1) := by decide +kernel
theorem dX2_findWay_14 : decode cX2_findWay 14 = .ok (.iastore, 1) := by decide +kernel
theorem dX2_findWay_15 : decode cX2_findWay 15 = .ok (.iinc 3 1, 3) := by decide +kernel
theorem dX2_findWay_18 : decode cX2_findWay 18 = .ok (.goto (-16), 3) := by decide +kernel
theorem dX2_findWay_21 : decode cX2_findWay 21 = .ok (.aload_n 0, 1) := by decide +kernel
theorem dX2_findWay_22 : decode cX2_findWay 22 = .ok (.getfield 30, 3) := by decide +kernel
theorem dX2_findWay_25 : decode cX2_findWay 25 = .ok (.iconst 0, 1) := by decide +kernel
theorem dX2_findWay_26 : decode cX2_findWay 26 = .ok (.iload_n 2, 1) := by decide +kernel
theorem dX2_findWay_27 : decode cX2_findWay 27 = .ok (.iastore, 1) := by decide +kernel
theorem dX2_findWay_28 : decode cX2_findWay 28 = .ok (.aload_n 0, 1) := by decide +kernel
theorem dX2_findWay_29 : decode cX2_findWay 29 = .ok (.getfield 37, 3) := by decide +kernel
theorem dX2_findWay_32 : decode cX2_findWay 32 = .ok (.iconst 0, 1) := by decide +kernel
theorem dX2_findWay_33 : decode cX2_findWay 33 = .ok (.iconst 0, 1) := by decide +kernel
theorem dX2_findWay_34 : decode cX2_findWay 34 = .ok (.iastore, 1) := by decide +kernel
theorem dX2_findWay_35 : decode cX2_findWay 35 = .ok (.iconst 1, 1) := by decide +kernel
theorem dX2_findWay_36 : decode cX2_findWay 36 = .ok (.istore_n 3, 1) := by decide +kernel
theorem dX2_findWay_37 : decode cX2_findWay 37 = .ok (.iconst 0, 1) := by decide +kernel
theorem dX2_findWay_38 : decode cX2_findWay 38 = .ok (.istore 4, 2) := by decide +kernel
theorem dX2_findWay_40 : decode cX2_findWay 40 = .ok (.iload 4, 2) := by decide +kernel
theorem dX2_findWay_42 : decode cX2_findWay 42 = .ok (.iload_n 3, 1) := by decide +kernel
theorem dX2_findWay_43 : decode cX2_findWay 43 = .ok (.if_icmp .ge 117, 3) := by decide +kernel
theorem dX2_findWay_46 : decode cX2_findWay 46 = .ok (.iload 4, 2) := by decide +kernel
theorem dX2_findWay_48 : decode cX2_findWay 48 = .ok (.bipush 9, 2) := by decide +kernel
theorem dX2_findWay_50 : decode cX2_findWay 50 = .ok (.if_icmp .ge 110, 3) := by decide +kernel
theorem dX2_findWay_53 : decode cX2_findWay 53 = .ok (.aload_n 0, 1) := by decide +kernel
theorem dX2_findWay_54 : decode cX2_findWay 54 = .ok (.getfield 37, 3) := by decide +kernel
theorem dX2_findWay_57 : decode cX2_findWay 57 = .ok (.iload 4, 2) := by decide +kernel
theorem dX2_findWay_59 : decode cX2_findWay 59 = .ok (.iaload, 1) := by decide +kernel
theorem dX2_findWay_60 : decode cX2_findWay 60 = .ok (.istore 5, 2) := by decide +kernel
theorem dX2_findWay_62 : decode cX2_findWay 62 = .ok (.iconst 0, 1) := by decide +kernel
theorem dX2_findWay_63 : decode cX2_findWay 63 = .ok (.istore 6, 2) := by decide +kernel
theorem dX2_findWay_65 : decode cX2_findWay 65 = .ok (.iload 6, 2) := by decide +kernel
theorem dX2_findWay_67 : decode cX2_findWay 67 = .ok (.bipush 9, 2) := by decide +kernel
theorem dX2_findWay_69 : decode cX2_findWay 69 = .ok (.if_icmp .ge 85, 3) := by decide +kernel
theorem dX2_findWay_72 : decode cX2_findWay 72 = .ok (.aload_n 0, 1) := by decide +kernel
theorem dX2_findWay_73 : decode cX2_findWay 73 = .ok (.getfield 30, 3) := by decide +kernel
theorem dX2_findWay_76 : decode cX2_findWay 76 = .ok (.iload 6, 2) := by decide +kernel
theorem dX2_findWay_78 : decode cX2_findWay 78 = .ok (.iaload, 1) := by decide +kernel
theorem dX2_findWay_79 : decode cX2_findWay 79 = .ok (.ifCond .ne 69, 3) := by decide +kernel
theorem dX2_findWay_82 : decode cX2_findWay 82 = .ok (.aload_n 0, 1) := by decide +kernel
theorem dX2_findWay_83 : decode cX2_findWay 83 = .ok (.getfield 27, 3) := by decide +kernel
theorem dX2_findWay_86 : decode cX2_findWay 86 = .ok (.iload 5, 2) := by decide +kernel
theorem dX2_findWay_88 : decode cX2_findWay 88 = .ok (.aaload, 1) := by decide +kernel
theorem dX2_findWay_89 : decode cX2_findWay 89 = .ok (.iload 6, 2) := by decide +kernel
theorem dX2_findWay_91 : decode cX2_findWay 91 = .ok (.iaload, 1) := by decide +kernel
theorem dX2_findWay_92 : decode cX2_findWay 92 = .ok (.ifCond .le 56, 3) := by decide +kernel
theorem dX2_findWay_95 : decode cX2_findWay 95 = .ok (.iload_n 3, 1) := by decide +kernel
theorem dX2_findWay_96 : decode cX2_findWay 96 = .ok (.bipush 9, 2) := by decide +kernel
theorem dX2_findWay_98 : decode cX2_findWay 98 = .ok (.if_icmp .ge 50, 3) := by decide +kernel
theorem dX2_findWay_101 : decode cX2_findWay 101 = .ok (.aload_n 0, 1) := by decide +kernel
theorem dX2_findWay_102 : decode cX2_findWay 102 = .ok (.getfield 30, 3) := by decide +kernel
theorem dX2_findWay_105 : decode cX2_findWay 105 = .ok (.iload 6, 2) := by decide +kernel
theorem dX2_findWay_107 : decode cX2_findWay 107 = .ok (.aload_n 0, 1) := by decide +kernel
theorem dX2_findWay_108 : decode cX2_findWay 108 = .ok (.getfield 30, 3) := by decide +kernel
theorem dX2_findWay_111 : decode cX2_findWay 111 = .ok (.iload 5, 2) := by decide +kernel
theorem dX2_findWay_113 : decode cX2_findWay 113 = .ok (.iaload, 1) := by decide +kernel
theorem dX2_findWay_114 : decode cX2_findWay 114 = .ok (.aload_n 0, 1) := by decide +kernel
theorem dX2_findWay_115 : decode cX2_findWay 115 = .ok (.getfield 27, 3) := by decide +kernel
theorem dX2_findWay_118 : decode cX2_findWay 118 = .ok (.iload 5, 2) := by decide +kernel
theorem dX2_findWay_120 : decode cX2_findWay 120 = .ok (.aaload, 1) := by decide +kernel
theorem dX2_findWay_121 : decode cX2_findWay 121 = .ok (.iload 6, 2) := by decide +kernel
theorem dX2_findWay_123 : decode cX2_findWay 123 = .ok (.iaload, 1) := by decide +kernel
theorem dX2_findWay_124 : decode cX2_findWay 124 = .ok (.invokestatic 63, 3) := by decide +kernel
theorem dX2_findWay_127 : decode cX2_findWay 127 = .ok (.iastore, 1) := by decide +kernel
theorem dX2_findWay_128 : decode cX2_findWay 128 = .ok (.aload_n 0, 1) := by decide +kernel
theorem dX2_findWay_129 : decode cX2_findWay 129 = .ok (.getfield 34, 3) := by decide +kernel
theorem dX2_findWay_132 : decode cX2_findWay 132 = .ok (.iload 6, 2) := by decide +kernel
theorem dX2_findWay_134 : decode cX2_findWay 134 = .ok (.iload 5, 2) := by decide +kernel
theorem dX2_findWay_136 : decode cX2_findWay 136 = .ok (.iastore, 1) := by decide +kernel
theorem dX2_findWay_137 : decode cX2_findWay 137 = .ok (.aload_n 0, 1) := by decide +kernel
theorem dX2_findWay_138 : decode cX2_findWay 138 = .ok (.getfield 37, 3) := by decide +kernel
theorem dX2_findWay_141 : decode cX2_findWay 141 = .ok (.iload_n 3, 1) := by decide +kernel
theorem dX2_findWay_142 : decode cX2_findWay 142 = .ok (.iload 6, 2) := by decide +kernel
theorem dX2_findWay_144 : decode cX2_findWay 144 = .ok (.iastore, 1) := by decide +kernel
theorem dX2_findWay_145 : decode cX2_findWay 145 = .ok (.iinc 3 1, 3) := by decide +kernel
theorem dX2_findWay_148 : decode cX2_findWay 148 = .ok (.iinc 6 1, 3) := by decide +kernel
theorem dX2_findWay_151 : decode cX2_findWay 151 = .ok (.goto (-86), 3) := by decide +kernel
theorem dX2_findWay_154 : decode cX2_findWay 154 = .ok (.iinc 4 1, 3) := by decide +kernel
theorem dX2_findWay_157 : decode cX2_findWay 157 = .ok (.goto (-117), 3) := by decide +kernel
theorem dX2_findWay_160 : decode cX2_findWay 160 = .ok (.aload_n 0, 1) := by decide +kernel
theorem dX2_findWay_161 : decode cX2_findWay 161 = .ok (.getfield 30, 3) := by decide +kernel
theorem dX2_findWay_164 : decode cX2_findWay 164 = .ok (.iload_n 1, 1) := by decide +kernel
theorem dX2_findWay_165 : decode cX2_findWay 165 = .ok (.iaload, 1) := by decide +kernel
theorem dX2_findWay_166 : decode cX2_findWay 166 = .ok (.ireturn, 1) := by decide +kernel
theorem dX2_flowOnWay_0 : decode cX2_flowOnWay 0 = .ok (.iload_n 1, 1) := by decide +kernel
theorem dX2_flowOnWay_1 : decode cX2_flowOnWay 1 = .ok (.istore_n 3, 1) := by decide +kernel
theorem dX2_flowOnWay_2 : decode cX2_flowOnWay 2 = .ok (.iconst 0, 1) := by decide +kernel
theorem dX2_flowOnWay_3 : decode cX2_flowOnWay 3 = .ok (.istore 4, 2) := by decide +kernel
theorem dX2_flowOnWay_5 : decode cX2_flowOnWay 5 = .ok (.iload 4, 2) := by decide +kernel
theorem dX2_flowOnWay_7 : decode cX2_flowOnWay 7 = .ok (.bipush 9, 2) := by decide +kernel
theorem dX2_flowOnWay_9 : decode cX2_flowOnWay 9 = .ok (.if_icmp .ge 50, 3) := by decide +kernel
theorem dX2_flowOnWay_12 : decode cX2_flowOnWay 12 = .ok (.iload_n 3, 1) := by decide +kernel
theorem dX2_flowOnWay_13 : decode cX2_flowOnWay 13 = .ok (.ifCond .eq 46, 3) := by decide +kernel
theorem dX2_flowOnWay_16 : decode cX2_flowOnWay 16 = .ok (.aload_n 0, 1) := by decide +kernel
theorem dX2_flowOnWay_17 : decode cX2_flowOnWay 17 = .ok (.getfield 34, 3) := by decide +kernel
theorem dX2_flowOnWay_20 : decode cX2_flowOnWay 20 = .ok (.iload_n 3, 1) := by decide +kernel
theorem dX2_flowOnWay_21 : decode cX2_flowOnWay 21 = .ok (.iaload, 1) := by decide +kernel
theorem dX2_flowOnWay_22 : decode cX2_flowOnWay 22 = .ok (.istore 5, 2) := by decide +kernel
theorem dX2_flowOnWay_24 : decode cX2_flowOnWay 24 = .ok (.aload_n 0, 1) := by decide +kernel
theorem dX2_flowOnWay_25 : decode cX2_flowOnWay 25 = .ok (.getfield 27, 3) := by decide +kernel
theorem dX2_flowOnWay_28 : decode cX2_flowOnWay 28 = .ok (.iload 5, 2) := by decide +kernel
theorem dX2_flowOnWay_30 : decode cX2_flowOnWay 30 = .ok (.aaload, 1) := by decide +kernel
theorem dX2_flowOnWay_31 : decode cX2_flowOnWay 31 = .ok (.iload_n 3, 1) := by decide +kernel
theorem dX2_flowOnWay_32 : decode cX2_flowOnWay 32 = .ok (.dup2, 1) := by decide +kernel
theorem dX2_flowOnWay_33 : decode cX2_flowOnWay 33 = .ok (.iaload, 1) := by decide +kernel
theorem dX2_flowOnWay_34 : decode cX2_flowOnWay 34 = .ok (.iload_n 2, 1) := by decide +kernel
theorem dX2_flowOnWay_35 : decode cX2_flowOnWay 35 = .ok (.isub, 1) := by decide +kernel
theorem dX2_flowOnWay_36 : decode cX2_flowOnWay 36 = .ok (.iastore, 1) := by decide +kernel
theorem dX2_flowOnWay_37 : decode cX2_flowOnWay 37 = .ok (.aload_n 0, 1) := by decide +kernel
theorem dX2_flowOnWay_38 : decode cX2_flowOnWay 38 = .ok (.getfield 27, 3) := by decide +kernel
theorem dX2_flowOnWay_41 : decode cX2_flowOnWay 41 = .ok (.iload_n 3, 1) := by decide +kernel
theorem dX2_flowOnWay_42 : decode cX2_flowOnWay 42 = .ok (.aaload, 1) := by decide +kernel
theorem dX2_flowOnWay_43 : decode cX2_flowOnWay 43 = .ok (.iload 5, 2) := by decide +kernel
theorem dX2_flowOnWay_45 : decode cX2_flowOnWay 45 = .ok (.dup2, 1) := by decide +kernel
theorem dX2_flowOnWay_46 : decode cX2_flowOnWay 46 = .ok (.iaload, 1) := by decide +kernel
theorem dX2_flowOnWay_47 : decode cX2_flowOnWay 47 = .ok (.iload_n 2, 1) := by decide +kernel
theorem dX2_flowOnWay_48 : decode cX2_flowOnWay 48 = .ok (.iadd, 1) := by decide +kernel
theorem dX2_flowOnWay_49 : decode cX2_flowOnWay 49 = .ok (.iastore, 1) := by decide +kernel
theorem dX2_flowOnWay_50 : decode cX2_flowOnWay 50 = .ok (.iload 5, 2) := by decide +kernel
theorem dX2_flowOnWay_52 : decode cX2_flowOnWay 52 = .ok (.istore_n 3, 1) := by decide +kernel
theorem dX2_flowOnWay_53 : decode cX2_flowOnWay 53 = .ok (.iinc 4 1, 3) := by decide +kernel
theorem dX2_flowOnWay_56 : decode cX2_flowOnWay 56 = .ok (.goto (-51), 3) := by decide +kernel
theorem dX2_flowOnWay_59 : decode cX2_flowOnWay 59 = .ok (.return_, 1) := by decide +kernel
theorem dX3_init_0 : decode cX3_init 0 = .ok (.aload_n 0, 1) := by decide +kernel
theorem dX3_init_1 : decode cX3_init 1 = .ok (.invokespecial 1, 3) := by decide +kernel
theorem dX3_init_4 : decode cX3_init 4 = .ok (.aload_n 0, 1) := by decide +kernel
theorem dX3_init_5 : decode cX3_init 5 = .ok (.iconst 0, 1) := by decide +kernel
theorem dX3_init_6 : decode cX3_init 6 = .ok (.putfield 7, 3) := by decide +kernel
theorem dX3_init_9 : decode cX3_init 9 = .ok (.aload_n 0, 1) := by decide +kernel
theorem dX3_init_10 : decode cX3_init 10 = .ok (.iload_n 1, 1) := by decide +kernel
theorem dX3_init_11 : decode cX3_init 11 = .ok (.putfield 13, 3) := by decide +kernel
theorem dX3_init_14 : decode cX3_init 14 = .ok (.aload_n 0, 1) := by decide +kernel
theorem dX3_init_15 : decode cX3_init 15 = .ok (.iload_n 2, 1) := by decide +kernel
theorem dX3_init_16 : decode cX3_init 16 = .ok (.putfield 17, 3) := by decide +kernel
theorem dX3_init_19 : decode cX3_init 19 = .ok (.aload_n 0, 1) := by decide +kernel
theorem dX3_init_20 : decode cX3_init 20 = .ok (.iload_n 3, 1) := by decide +kernel
theorem dX3_init_21 : decode cX3_init 21 = .ok (.putfield 20, 3) := by decide +kernel
theorem dX3_init_24 : decode cX3_init 24 = .ok (.return_, 1) := by decide +kernel
end
section
theorem dX4_init_0 : decode cX4_init 0 = .ok (.aload_n 0, 1) := by decide +kernel
theorem dX4_init_1 : decode cX4_init 1 = .ok (.invokespecial 3, 3) := by decide +kernel
theorem dX4_init_4 : decode cX4_init 4 = .ok (.aload_n 0, 1) := by decide +kernel
theorem dX4_init_5 : decode cX4_init 5 = .ok (.new 9, 3) := by decide +kernel
theorem dX4_init_8 : decode cX4_init 8 = .ok (.dup, 1) := by decide +kernel
theorem dX4_init_9 : decode cX4_init 9 = .ok (.invokespecial 11, 3) := by decide +kernel
theorem dX4_init_12 : decode cX4_init 12 = .ok (.putfield 12, 3) := by decide +kernel
theorem dX4_init_15 : decode cX4_init 15 = .ok (.aload_n 0, 1) := by decide +kernel
theorem dX4_init_16 : decode cX4_init 16 = .ok (.new 16, 3) := by decide +kernel
theorem dX4_init_19 : decode cX4_init 19 = .ok (.dup, 1) := by decide +kernel
theorem dX4_init_20 : decode cX4_init 20 = .ok (.invokespecial 18, 3) := by decide +kernel
theorem dX4_init_23 : decode cX4_init 23 = .ok (.putfield 19, 3) := by decide +kernel
theorem dX4_init_26 : decode cX4_init 26 = .ok (.aload_n 0, 1) := by decide +kernel
theorem dX4_init_27 : decode cX4_init 27 = .ok (.new 9, 3) := by decide +kernel
theorem dX4_init_30 : decode cX4_init 30 = .ok (.dup, 1) := by decide +kernel
theorem dX4_init_31 : decode cX4_init 31 = .ok (.invokespecial 11, 3) := by decide +kernel
theorem dX4_init_34 : decode cX4_init 34 = .ok (.putfield 23, 3) := by decide +kernel
theorem dX4_init_37 : decode cX4_init 37 = .ok (.aload_n 0, 1) := by decide +kernel
theorem dX4_init_38 : decode cX4_init 38 = .ok (.iconst 0, 1) := by decide +kernel
theorem dX4_init_39 : decode cX4_init 39 = .ok (.putfield 26, 3) := by decide +kernel
theorem dX4_init_42 : decode cX4_init 42 = .ok (.aload_n 0, 1) := by decide +kernel
theorem dX4_init_43 : decode cX4_init 43 = .ok (.iconst 0, 1) := by decide +kernel
theorem dX4_init_44 : decode cX4_init 44 = .ok (.putfield 30, 3) := by decide +kernel
theorem dX4_init_47 : decode cX4_init 47 = .ok (.aload_n 0, 1) := by decide +kernel
theorem dX4_init_48 : decode cX4_init 48 = .ok (.iconst 0, 1) := by decide +kernel
theorem dX4_init_49 : decode cX4_init 49 = .ok (.putfield 33, 3) := by decide +kernel
theorem dX4_init_52 : decode cX4_init 52 = .ok (.aload_n 0, 1) := by decide +kernel
theorem dX4_init_53 : decode cX4_init 53 = .ok (.iconst 0, 1) := by decide +kernel
theorem dX4_init_54 : decode cX4_init 54 = .ok (.putfield 37, 3) := by decide +kernel
theorem dX4_init_57 : decode cX4_init 57 = .ok (.aload_n 0, 1) := by decide +kernel
theorem dX4_init_58 : decode cX4_init 58 = .ok (.iconst 0, 1) := by decide +kernel
theorem dX4_init_59 : decode cX4_init 59 = .ok (.putfield 40, 3) := by decide +kernel
theorem dX4_init_62 : decode cX4_init 62 = .ok (.aload_n 0, 1) := by decide +kernel
theorem dX4_init_63 : decode cX4_init 63 = .ok (.iconst 0, 1) := by decide +kernel
theorem dX4_init_64 : decode cX4_init 64 = .ok (.putfield 43, 3) := by decide +kernel
theorem dX4_init_67 : decode cX4_init 67 = .ok (.return_, 1) := by decide +kernel
theorem dX4_district_0 : decode cX4_district 0 = .ok (.iload_n 1, 1) := by decide +kernel
theorem dX4_district_1 : decode cX4_district 1 = .ok (.iconst 0, 1) := by decide +kernel
theorem dX4_district_2 : decode cX4_district 2 = .ok (.sipush 9999, 3) := by decide +kernel
theorem dX4_district_5 : decode cX4_district 5 = .ok (.invokestatic 46, 3) := by decide +kernel
theorem dX4_district_8 : decode cX4_district 8 = .ok (.ifCond .ne 14, 3) := by decide +kernel
theorem dX4_district_11 : decode cX4_district 11 = .ok (.iload_n 2, 1) := by decide +kernel
theorem dX4_district_12 : decode cX4_district 12 = .ok (.iconst 0, 1) := by decide +kernel
theorem dX4_district_13 : decode cX4_district 13 = .ok (.sipush 999, 3) := by decide +kernel
theorem dX4_district_16 : decode cX4_district 16 = .ok (.invokestatic 46, 3) := by decide +kernel
theorem dX4_district_19 : decode cX4_district 19 = .ok (.ifCond .eq 13, 3) := by decide +kernel
theorem dX4_district_22 : decode cX4_district 22 = .ok (.new 50, 3) := by decide +kernel
theorem dX4_district_25 : decode cX4_district 25 = .ok (.dup, 1) := by decide +kernel
theorem dX4_district_26 : decode cX4_district 26 = .ok (.ldc 52, 2) := by decide +kernel
theorem dX4_district_28 : decode cX4_district 28 = .ok (.invokespecial 54, 3) := by decide +kernel
theorem dX4_district_31 : decode cX4_district 31 = .ok (.athrow, 1) := by decide +kernel
theorem dX4_district_32 : decode cX4_district 32 = .ok (.aload_n 0, 1) := by decide +kernel
theorem dX4_district_33 : decode cX4_district 33 = .ok (.getfield 12, 3) := by decide +kernel
theorem dX4_district_36 : decode cX4_district 36 = .ok (.invokevirtual 57, 3) := by decide +kernel
theorem dX4_district_39 : decode cX4_district 39 = .ok (.bipush 8, 2) := by decide +kernel
theorem dX4_district_41 : decode cX4_district 41 = .ok (.if_icmp .lt 13, 3) := by decide +kernel
theorem dX4_district_44 : decode cX4_district 44 = .ok (.new 61, 3) := by decide +kernel
theorem dX4_district_47 : decode cX4_district 47 = .ok (.dup, 1) := by decide +kernel
theorem dX4_district_48 : decode cX4_district 48 = .ok (.ldc 63, 2) := by decide +kernel
theorem dX4_district_50 : decode cX4_district 50 = .ok (.invokespecial 65, 3) := by decide +kernel
theorem dX4_district_53 : decode cX4_district 53 = .ok (.athrow, 1) := by decide +kernel
theorem dX4_district_54 : decode cX4_district 54 = .ok (.aload_n 0, 1) := by decide +kernel
theorem dX4_district_55 : decode cX4_district 55 = .ok (.getfield 12, 3) := by decide +kernel
theorem dX4_district_58 : decode cX4_district 58 = .ok (.invokevirtual 57, 3) := by decide +kernel
theorem dX4_district_61 : decode cX4_district 61 = .ok (.istore_n 3, 1) := by decide +kernel
theorem dX4_district_62 : decode cX4_district 62 = .ok (.aload_n 0, 1) := by decide +kernel
theorem dX4_district_63 : decode cX4_district 63 = .ok (.getfield 12, 3) := by decide +kernel
theorem dX4_district_66 : decode cX4_district 66 = .ok (.new 66, 3) := by decide +kernel
theorem dX4_district_69 : decode cX4_district 69 = .ok (.dup, 1) := by decide +kernel
theorem dX4_district_70 : decode cX4_district 70 = .ok (.iload_n 3, 1) := by decide +kernel
theorem dX4_district_71 : decode cX4_district 71 = .ok (.iload_n 1, 1) := by decide +kernel
theorem dX4_district_72 : decode cX4_district 72 = .ok (.iload_n 2, 1) := by decide +kernel
theorem dX4_district_73 : decode cX4_district 73 = .ok (.invokespecial 68, 3) := by decide +kernel
theorem dX4_district_76 : decode cX4_district 76 = .ok (.invokevirtual 71, 3) := by decide +kernel
theorem dX4_district_79 : decode cX4_district 79 = .ok (.pop, 1) := by decide +kernel
theorem dX4_district_80 : decode cX4_district 80 = .ok (.iload_n 3, 1) := by decide +kernel
theorem dX4_district_81 : decode cX4_district 81 = .ok (.ireturn, 1) := by decide +kernel
theorem dX4_pipe_0 : decode cX4_pipe 0 = .ok (.iload_n 1, 1) := by decide +kernel
theorem dX4_pipe_1 : decode cX4_pipe 1 = .ok (.iconst (-1), 1) := by decide +kernel
theorem dX4_pipe_2 : decode cX4_pipe 2 = .ok (.if_icmp .eq 11, 3) := by decide +kernel
theorem dX4_pipe_5 : decode cX4_pipe 5 = .ok (.aload_n 0, 1) := by decide +kernel
theorem dX4_pipe_6 : decode cX4_pipe 6 = .ok (.iload_n 1, 1) := by decide +kernel
theorem dX4_pipe_7 : decode cX4_pipe 7 = .ok (.invokevirtual 75, 3) := by decide +kernel
theorem dX4_pipe_10 : decode cX4_pipe 10 = .ok (.ifCond .ne 11, 3) := by decide +kernel
theorem dX4_pipe_13 : decode cX4_pipe 13 = .ok (.aload_n 0, 1) := by decide +kernel
theorem dX4_pipe_14 : decode cX4_pipe 14 = .ok (.iload_n 2, 1) := by decide +kernel
theorem dX4_pipe_15 : decode cX4_pipe 15 = .ok (.invokevirtual 75, 3) := by decide +kernel
theorem dX4_pipe_18 : decode cX4_pipe 18 = .ok (.ifCond .eq 13, 3) := by decide +kernel
theorem dX4_pipe_21 : decode cX4_pipe 21 = .ok (.new 79, 3) := by decide +kernel
theorem dX4_pipe_24 : decode cX4_pipe 24 = .ok (.dup, 1) := by decide +kernel
theorem dX4_pipe_25 : decode cX4_pipe 25 = .ok (.ldc 81, 2) := by decide +kernel
theorem dX4_pipe_27 : decode cX4_pipe 27 = .ok (.invokespecial 83, 3) := by decide +kernel
theorem dX4_pipe_30 : decode cX4_pipe 30 = .ok (.athrow, 1) := by decide +kernel
theorem dX4_pipe_31 : decode cX4_pipe 31 = .ok (.iload_n 1, 1) := by decide +kernel
theorem dX4_pipe_32 : decode cX4_pipe 32 = .ok (.iload_n 2, 1) := by decide +kernel
theorem dX4_pipe_33 : decode cX4_pipe 33 = .ok (.if_icmp .eq 14, 3) := by decide +kernel
theorem dX4_pipe_36 : decode cX4_pipe 36 = .ok (.iload_n 3, 1) := by decide +kernel
theorem dX4_pipe_37 : decode cX4_pipe 37 = .ok (.iconst 1, 1) := by decide +kernel
theorem dX4_pipe_38 : decode cX4_pipe 38 = .ok (.sipush 999, 3) := by decide +kernel
theorem dX4_pipe_41 : decode cX4_pipe 41 = .ok (.invokestatic 46, 3) := by decide +kernel
theorem dX4_pipe_44 : decode cX4_pipe 44 = .ok (.ifCond .eq 13, 3) := by decide +kernel
theorem dX4_pipe_47 : decode cX4_pipe 47 = .ok (.new 50, 3) := by decide +kernel
theorem dX4_pipe_50 : decode cX4_pipe 50 = .ok (.dup, 1) := by decide +kernel
theorem dX4_pipe_51 : decode cX4_pipe 51 = .ok (.ldc 84, 2) := by decide +kernel
theorem dX4_pipe_53 : decode cX4_pipe 53 = .ok (.invokespecial 54, 3) := by decide +kernel
theorem dX4_pipe_56 : decode cX4_pipe 56 = .ok (.athrow, 1) := by decide +kernel
theorem dX4_pipe_57 : decode cX4_pipe 57 = .ok (.aload_n 0, 1) := by decide +kernel
theorem dX4_pipe_58 : decode cX4_pipe 58 = .ok (.getfield 19, 3) := by decide +kernel
theorem dX4_pipe_61 : decode cX4_pipe 61 = .ok (.getfield 86, 3) := by decide +kernel
theorem dX4_pipe_64 : decode cX4_pipe 64 = .ok (.invokevirtual 57, 3) := by decide +kernel
theorem dX4_pipe_67 : decode cX4_pipe 67 = .ok (.bipush 24, 2) := by decide +kernel
theorem dX4_pipe_69 : decode cX4_pipe 69 = .ok (.if_icmp .ge 10, 3) := by decide +kernel
theorem dX4_pipe_72 : decode cX4_pipe 72 = .ok (.aload_n 0, 1) := by decide +kernel
theorem dX4_pipe_73 : decode cX4_pipe 73 = .ok (.getfield 33, 3) := by decide +kernel
theorem dX4_pipe_76 : decode cX4_pipe 76 = .ok (.ifCond .eq 13, 3) := by decide +kernel
theorem dX4_pipe_79 : decode cX4_pipe 79 = .ok (.new 61, 3) := by decide +kernel
theorem dX4_pipe_82 : decode cX4_pipe 82 = .ok (.dup, 1) := by decide +kernel
theorem dX4_pipe_83 : decode cX4_pipe 83 = .ok (.ldc 89, 2) := by decide +kernel
theorem dX4_pipe_85 : decode cX4_pipe 85 = .ok (.invokespecial 65, 3) := by decide +kernel
theorem dX4_pipe_88 : decode cX4_pipe 88 = .ok (.athrow, 1) := by decide +kernel
theorem dX4_pipe_89 : decode cX4_pipe 89 = .ok (.aload_n 0, 1) := by decide +kernel
theorem dX4_pipe_90 : decode cX4_pipe 90 = .ok (.getfield 19, 3) := by decide +kernel
theorem dX4_pipe_93 : decode cX4_pipe 93 = .ok (.getfield 86, 3) := by decide +kernel
theorem dX4_pipe_96 : decode cX4_pipe 96 = .ok (.invokevirtual 57, 3) := by decide +kernel
theorem dX4_pipe_99 : decode cX4_pipe 99 = .ok (.istore 4, 2) := by decide +kernel
theorem dX4_pipe_101 : decode cX4_pipe 101 = .ok (.aload_n 0, 1) := by decide +kernel
theorem dX4_pipe_102 : decode cX4_pipe 102 = .ok (.getfield 19, 3) := by decide +kernel
theorem dX4_pipe_105 : decode cX4_pipe 105 = .ok (.getfield 86, 3) := by decide +kernel
theorem dX4_pipe_108 : decode cX4_pipe 108 = .ok (.new 91, 3) := by decide +kernel
theorem dX4_pipe_111 : decode cX4_pipe 111 = .ok (.dup, 1) := by decide +kernel
theorem dX4_pipe_112 : decode cX4_pipe 112 = .ok (.iload_n 1, 1) := by decide +kernel
theorem dX4_pipe_113 : decode cX4_pipe 113 = .ok (.iconst 1, 1) := by decide +kernel
theorem dX4_pipe_114 : decode cX4_pipe 114 = .ok (.iadd, 1) := by decide +kernel
theorem dX4_pipe_115 : decode cX4_pipe 115 = .ok (.iload_n 2, 1) := by decide +kernel
theorem dX4_pipe_116 : decode cX4_pipe 116 = .ok (.iconst 1, 1) := by decide +kernel
theorem dX4_pipe_117 : decode cX4_pipe 117 = .ok (.iadd, 1) := by decide +kernel
theorem dX4_pipe_118 : decode cX4_pipe 118 = .ok (.iload_n 3, 1) := by decide +kernel
theorem dX4_pipe_119 : decode cX4_pipe 119 = .ok (.invokespecial 93, 3) := by decide +kernel
theorem dX4_pipe_122 : decode cX4_pipe 122 = .ok (.invokevirtual 71, 3) := by decide +kernel
theorem dX4_pipe_125 : decode cX4_pipe 125 = .ok (.pop, 1) := by decide +kernel
theorem dX4_pipe_126 : decode cX4_pipe 126 = .ok (.iload 4, 2) := by decide +kernel
theorem dX4_pipe_128 : decode cX4_pipe 128 = .ok (.ireturn, 1) := by decide +kernel
theorem dX4_source_0 : decode cX4_source 0 = .ok (.iload_n 1, 1) := by decide +kernel
theorem dX4_source_1 : decode cX4_source 1 = .ok (.iconst 0, 1) := by decide +kernel
theorem dX4_source_2 : decode cX4_source 2 = .ok (.sipush 9999, 3) := by decide +kernel
theorem dX4_source_5 : decode cX4_source 5 = .ok (.invokestatic 46, 3) := by decide +kernel
theorem dX4_source_8 : decode cX4_source 8 = .ok (.ifCond .eq 13, 3) := by decide +kernel
theorem dX4_source_11 : decode cX4_source 11 = .ok (.new 50, 3) := by decide +kernel
theorem dX4_source_14 : decode cX4_source 14 = .ok (.dup, 1) := by decide +kernel
theorem dX4_source_15 : decode cX4_source 15 = .ok (.ldc 94, 2) := by decide +kernel
theorem dX4_source_17 : decode cX4_source 17 = .ok (.invokespecial 54, 3) := by decide +kernel
theorem dX4_source_20 : decode cX4_source 20 = .ok (.athrow, 1) := by decide +kernel
theorem dX4_source_21 : decode cX4_source 21 = .ok (.aload_n 0, 1) := by decide +kernel
theorem dX4_source_22 : decode cX4_source 22 = .ok (.getfield 33, 3) := by decide +kernel
theorem dX4_source_25 : decode cX4_source 25 = .ok (.ifCond .eq 13, 3) := by decide +kernel
theorem dX4_source_28 : decode cX4_source 28 = .ok (.new 61, 3) := by decide +kernel
theorem dX4_source_31 : decode cX4_source 31 = .ok (.dup, 1) := by decide +kernel
theorem dX4_source_32 : decode cX4_source 32 = .ok (.ldc 96, 2) := by decide +kernel
theorem dX4_source_34 : decode cX4_source 34 = .ok (.invokespecial 65, 3) := by decide +kernel
theorem dX4_source_37 : decode cX4_source 37 = .ok (.athrow, 1) := by decide +kernel
theorem dX4_source_38 : decode cX4_source 38 = .ok (.aload_n 0, 1) := by decide +kernel
theorem dX4_source_39 : decode cX4_source 39 = .ok (.getfield 19, 3) := by decide +kernel
theorem dX4_source_42 : decode cX4_source 42 = .ok (.getfield 98, 3) := by decide +kernel
theorem dX4_source_45 : decode cX4_source 45 = .ok (.istore_n 2, 1) := by decide +kernel
theorem dX4_source_46 : decode cX4_source 46 = .ok (.aload_n 0, 1) := by decide +kernel
theorem dX4_source_47 : decode cX4_source 47 = .ok (.getfield 19, 3) := by decide +kernel
theorem dX4_source_50 : decode cX4_source 50 = .ok (.iload_n 1, 1) := by decide +kernel
theorem dX4_source_51 : decode cX4_source 51 = .ok (.putfield 98, 3) := by decide +kernel
theorem dX4_source_54 : decode cX4_source 54 = .ok (.iload_n 2, 1) := by decide +kernel
theorem dX4_source_55 : decode cX4_source 55 = .ok (.ireturn, 1) := by decide +kernel
theorem dX4_need_0 : decode cX4_need 0 = .ok (.aload_n 0, 1) := by decide +kernel
theorem dX4_need_1 : decode cX4_need 1 = .ok (.iload_n 1, 1) := by decide +kernel
theorem dX4_need_2 : decode cX4_need 2 = .ok (.invokevirtual 75, 3) := by decide +kernel
theorem dX4_need_5 : decode cX4_need 5 = .ok (.ifCond .eq 13, 3) := by decide +kernel
theorem dX4_need_8 : decode cX4_need 8 = .ok (.new 79, 3) := by decide +kernel
theorem dX4_need_11 : decode cX4_need 11 = .ok (.dup, 1) := by decide +kernel
theorem dX4_need_12 : decode cX4_need 12 = .ok (.ldc 81, 2) := by decide +kernel
theorem dX4_need_14 : decode cX4_need 14 = .ok (.invokespecial 83, 3) := by decide +kernel
theorem dX4_need_17 : decode cX4_need 17 = .ok (.athrow, 1) := by decide +kernel
theorem dX4_need_18 : decode cX4_need 18 = .ok (.iload_n 2, 1) := by decide +kernel
theorem dX4_need_19 : decode cX4_need 19 = .ok (.iconst 0, 1) := by decide +kernel
theorem dX4_need_20 : decode cX4_need 20 = .ok (.sipush 999, 3) := by decide +kernel
theorem dX4_need_23 : decode cX4_need 23 = .ok (.invokestatic 46, 3) := by decide +kernel
theorem dX4_need_26 : decode cX4_need 26 = .ok (.ifCond .eq 13, 3) := by decide +kernel
theorem dX4_need_29 : decode cX4_need 29 = .ok (.new 50, 3) := by decide +kernel
theorem dX4_need_32 : decode cX4_need 32 = .ok (.dup, 1) := by decide +kernel
theorem dX4_need_33 : decode cX4_need 33 = .ok (.ldc 101, 2) := by decide +kernel
theorem dX4_need_35 : decode cX4_need 35 = .ok (.invokespecial 54, 3) := by decide +kernel
theorem dX4_need_38 : decode cX4_need 38 = .ok (.athrow, 1) := by decide +kernel
theorem dX4_need_39 : decode cX4_need 39 = .ok (.aload_n 0, 1) := by decide +kernel
theorem dX4_need_40 : decode cX4_need 40 = .ok (.getfield 12, 3) := by decide +kernel
theorem dX4_need_43 : decode cX4_need 43 = .ok (.iload_n 1, 1) := by decide +kernel
theorem dX4_need_44 : decode cX4_need 44 = .ok (.invokevirtual 103, 3) := by decide +kernel
theorem dX4_need_47 : decode cX4_need 47 = .ok (.checkcast 66, 3) := by decide +kernel
theorem dX4_need_50 : decode cX4_need 50 = .ok (.astore_n 3, 1) := by decide +kernel
theorem dX4_need_51 : decode cX4_need 51 = .ok (.aload_n 3, 1) := by decide +kernel
theorem dX4_need_52 : decode cX4_need 52 = .ok (.getfield 107, 3) := by decide +kernel
theorem dX4_need_55 : decode cX4_need 55 = .ok (.istore 4, 2) := by decide +kernel
theorem dX4_need_57 : decode cX4_need 57 = .ok (.aload_n 3, 1) := by decide +kernel
theorem dX4_need_58 : decode cX4_need 58 = .ok (.iload_n 2, 1) := by decide +kernel
theorem dX4_need_59 : decode cX4_need 59 = .ok (.putfield 107, 3) := by decide +kernel
theorem dX4_need_62 : decode cX4_need 62 = .ok (.iload 4, 2) := by decide +kernel
theorem dX4_need_64 : decode cX4_need 64 = .ok (.ireturn, 1) := by decide +kernel
theorem dX4_bid_0 : decode cX4_bid 0 = .ok (.aload_n 0, 1) := by decide +kernel
theorem dX4_bid_1 : decode cX4_bid 1 = .ok (.iload_n 1, 1) := by decide +kernel
theorem dX4_bid_2 : decode cX4_bid 2 = .ok (.invokevirtual 75, 3) := by decide +kernel
theorem dX4_bid_5 : decode cX4_bid 5 = .ok (.ifCond .eq 13, 3) := by decide +kernel
theorem dX4_bid_8 : decode cX4_bid 8 = .ok (.new 79, 3) := by decide +kernel
theorem dX4_bid_11 : decode cX4_bid 11 = .ok (.dup, 1) := by decide +kernel
theorem dX4_bid_12 : decode cX4_bid 12 = .ok (.ldc 81, 2) := by decide +kernel
theorem dX4_bid_14 : decode cX4_bid 14 = .ok (.invokespecial 83, 3) := by decide +kernel
theorem dX4_bid_17 : decode cX4_bid 17 = .ok (.athrow, 1) := by decide +kernel
theorem dX4_bid_18 : decode cX4_bid 18 = .ok (.iload_n 2, 1) := by decide +kernel
theorem dX4_bid_19 : decode cX4_bid 19 = .ok (.iconst 0, 1) := by decide +kernel
theorem dX4_bid_20 : decode cX4_bid 20 = .ok (.bipush 99, 2) := by decide +kernel
theorem dX4_bid_22 : decode cX4_bid 22 = .ok (.invokestatic 46, 3) := by decide +kernel
theorem dX4_bid_25 : decode cX4_bid 25 = .ok (.ifCond .ne 14, 3) := by decide +kernel
theorem dX4_bid_28 : decode cX4_bid 28 = .ok (.iload_n 3, 1) := by decide +kernel
theorem dX4_bid_29 : decode cX4_bid 29 = .ok (.iconst 0, 1) := by decide +kernel
theorem dX4_bid_30 : decode cX4_bid 30 = .ok (.sipush 999, 3) := by decide +kernel
theorem dX4_bid_33 : decode cX4_bid 33 = .ok (.invokestatic 46, 3) := by decide +kernel
theorem dX4_bid_36 : decode cX4_bid 36 = .ok (.ifCond .eq 13, 3) := by decide +kernel
theorem dX4_bid_39 : decode cX4_bid 39 = .ok (.new 50, 3) := by decide +kernel
theorem dX4_bid_42 : decode cX4_bid 42 = .ok (.dup, 1) := by decide +kernel
theorem dX4_bid_43 : decode cX4_bid 43 = .ok (.ldc 110, 2) := by decide +kernel
theorem dX4_bid_45 : decode cX4_bid 45 = .ok (.invokespecial 54, 3) := by decide +kernel
theorem dX4_bid_48 : decode cX4_bid 48 = .ok (.athrow, 1) := by decide +kernel
theorem dX4_bid_49 : decode cX4_bid 49 = .ok (.aload_n 0, 1) := by decide +kernel
theorem dX4_bid_50 : decode cX4_bid 50 = .ok (.getfield 12, 3) := by decide +kernel
theorem dX4_bid_53 : decode cX4_bid 53 = .ok (.iload_n 1, 1) := by decide +kernel
theorem dX4_bid_54 : decode cX4_bid 54 = .ok (.invokevirtual 103, 3) := by decide +kernel
theorem dX4_bid_57 : decode cX4_bid 57 = .ok (.checkcast 66, 3) := by decide +kernel
theorem dX4_bid_60 : decode cX4_bid 60 = .ok (.astore 4, 2) := by decide +kernel
theorem dX4_bid_62 : decode cX4_bid 62 = .ok (.aload_n 0, 1) := by decide +kernel
theorem dX4_bid_63 : decode cX4_bid 63 = .ok (.getfield 33, 3) := by decide +kernel
theorem dX4_bid_66 : decode cX4_bid 66 = .ok (.ifCond .ne 26, 3) := by decide +kernel
theorem dX4_bid_69 : decode cX4_bid 69 = .ok (.aload 4, 2) := by decide +kernel
theorem dX4_bid_71 : decode cX4_bid 71 = .ok (.getfield 112, 3) := by decide +kernel
theorem dX4_bid_74 : decode cX4_bid 74 = .ok (.getfield 116, 3) := by decide +kernel
theorem dX4_bid_77 : decode cX4_bid 77 = .ok (.ifCond .eq 25, 3) := by decide +kernel
theorem dX4_bid_80 : decode cX4_bid 80 = .ok (.iload_n 2, 1) := by decide +kernel
theorem dX4_bid_81 : decode cX4_bid 81 = .ok (.aload 4, 2) := by decide +kernel
theorem dX4_bid_83 : decode cX4_bid 83 = .ok (.getfield 112, 3) := by decide +kernel
theorem dX4_bid_86 : decode cX4_bid 86 = .ok (.getfield 121, 3) := by decide +kernel
theorem dX4_bid_89 : decode cX4_bid 89 = .ok (.if_icmp .ge 13, 3) := by decide +kernel
theorem dX4_bid_92 : decode cX4_bid 92 = .ok (.new 61, 3) := by decide +kernel
theorem dX4_bid_95 : decode cX4_bid 95 = .ok (.dup, 1) := by decide +kernel
theorem dX4_bid_96 : decode cX4_bid 96 = .ok (.ldc 124, 2) := by decide +kernel
theorem dX4_bid_98 : decode cX4_bid 98 = .ok (.invokespecial 65, 3) := by decide +kernel
theorem dX4_bid_101 : decode cX4_bid 101 = .ok (.athrow, 1) := by decide +kernel
theorem dX4_bid_102 : decode cX4_bid 102 = .ok (.aload 4, 2) := by decide +kernel
theorem dX4_bid_104 : decode cX4_bid 104 = .ok (.getfield 126, 3) := by decide +kernel
theorem dX4_bid_107 : decode cX4_bid 107 = .ok (.getfield 116, 3) := by decide +kernel
theorem dX4_bid_110 : decode cX4_bid 110 = .ok (.ifCond .ne 13, 3) := by decide +kernel
theorem dX4_bid_113 : decode cX4_bid 113 = .ok (.aload_n 0, 1) := by decide +kernel
theorem dX4_bid_114 : decode cX4_bid 114 = .ok (.dup, 1) := by decide +kernel
theorem dX4_bid_115 : decode cX4_bid 115 = .ok (.getfield 37, 3) := by decide +kernel
theorem dX4_bid_118 : decode cX4_bid 118 = .ok (.iconst 1, 1) := by decide +kernel
theorem dX4_bid_119 : decode cX4_bid 119 = .ok (.iadd, 1) := by decide +kernel
theorem dX4_bid_120 : decode cX4_bid 120 = .ok (.putfield 37, 3) := by decide +kernel
theorem dX4_bid_123 : decode cX4_bid 123 = .ok (.aload 4, 2) := by decide +kernel
theorem dX4_bid_125 : decode cX4_bid 125 = .ok (.getfield 126, 3) := by decide +kernel
theorem dX4_bid_128 : decode cX4_bid 128 = .ok (.iload_n 2, 1) := by decide +kernel
theorem dX4_bid_129 : decode cX4_bid 129 = .ok (.iload_n 3, 1) := by decide +kernel
theorem dX4_bid_130 : decode cX4_bid 130 = .ok (.aload_n 0, 1) := by decide +kernel
theorem dX4_bid_131 : decode cX4_bid 131 = .ok (.getfield 40, 3) := by decide +kernel
theorem dX4_bid_134 : decode cX4_bid 134 = .ok (.invokevirtual 129, 3) := by decide +kernel
theorem dX4_bid_137 : decode cX4_bid 137 = .ok (.aload_n 0, 1) := by decide +kernel
theorem dX4_bid_138 : decode cX4_bid 138 = .ok (.dup, 1) := by decide +kernel
theorem dX4_bid_139 : decode cX4_bid 139 = .ok (.getfield 40, 3) := by decide +kernel
theorem dX4_bid_142 : decode cX4_bid 142 = .ok (.iconst 1, 1) := by decide +kernel
theorem dX4_bid_143 : decode cX4_bid 143 = .ok (.iadd, 1) := by decide +kernel
theorem dX4_bid_144 : decode cX4_bid 144 = .ok (.putfield 40, 3) := by decide +kernel
theorem dX4_bid_147 : decode cX4_bid 147 = .ok (.aload_n 0, 1) := by decide +kernel
theorem dX4_bid_148 : decode cX4_bid 148 = .ok (.getfield 37, 3) := by decide +kernel
theorem dX4_bid_151 : decode cX4_bid 151 = .ok (.ireturn, 1) := by decide +kernel
theorem dX4_close_0 : decode cX4_close 0 = .ok (.aload_n 0, 1) := by decide +kernel
theorem dX4_close_1 : decode cX4_close 1 = .ok (.getfield 33, 3) := by decide +kernel
theorem dX4_close_4 : decode cX4_close 4 = .ok (.ifCond .eq 13, 3) := by decide +kernel
theorem dX4_close_7 : decode cX4_close 7 = .ok (.new 61, 3) := by decide +kernel
theorem dX4_close_10 : decode cX4_close 10 = .ok (.dup, 1) := by decide +kernel
theorem dX4_close_11 : decode cX4_close 11 = .ok (.ldc 132, 2) := by decide +kernel
theorem dX4_close_13 : decode cX4_close 13 = .ok (.invokespecial 65, 3) := by decide +kernel
theorem dX4_close_16 : decode cX4_close 16 = .ok (.athrow, 1) := by decide +kernel
theorem dX4_close_17 : decode cX4_close 17 = .ok (.aload_n 0, 1) := by decide +kernel
theorem dX4_close_18 : decode cX4_close 18 = .ok (.getfield 37, 3) := by decide +kernel
theorem dX4_close_21 : decode cX4_close 21 = .ok (.ifCond .eq 11, 3) := by decide +kernel
theorem dX4_close_24 : decode cX4_close 24 = .ok (.aload_n 0, 1) := by decide +kernel
theorem dX4_close_25 : decode cX4_close 25 = .ok (.getfield 30, 3) := by decide +kernel
theorem dX4_close_28 : decode cX4_close 28 = .ok (.iconst 4, 1) := by decide +kernel
theorem dX4_close_29 : decode cX4_close 29 = .ok (.if_icmp .lt 7, 3) := by decide +kernel
theorem dX4_close_32 : decode cX4_close 32 = .ok (.iconst 1, 1) := by decide +kernel
theorem dX4_close_33 : decode cX4_close 33 = .ok (.goto 4, 3) := by decide +kernel
theorem dX4_close_36 : decode cX4_close 36 = .ok (.iconst 0, 1) := by decide +kernel
theorem dX4_close_37 : decode cX4_close 37 = .ok (.istore_n 1, 1) := by decide +kernel
theorem dX4_close_38 : decode cX4_close 38 = .ok (.iconst 0, 1) := by decide +kernel
theorem dX4_close_39 : decode cX4_close 39 = .ok (.istore_n 2, 1) := by decide +kernel
theorem dX4_close_40 : decode cX4_close 40 = .ok (.iload_n 2, 1) := by decide +kernel
theorem dX4_close_41 : decode cX4_close 41 = .ok (.aload_n 0, 1) := by decide +kernel
theorem dX4_close_42 : decode cX4_close 42 = .ok (.getfield 12, 3) := by decide +kernel
theorem dX4_close_45 : decode cX4_close 45 = .ok (.invokevirtual 57, 3) := by decide +kernel
theorem dX4_close_48 : decode cX4_close 48 = .ok (.if_icmp .ge 23, 3) := by decide +kernel
theorem dX4_close_51 : decode cX4_close 51 = .ok (.aload_n 0, 1) := by decide +kernel
theorem dX4_close_52 : decode cX4_close 52 = .ok (.getfield 12, 3) := by decide +kernel
theorem dX4_close_55 : decode cX4_close 55 = .ok (.iload_n 2, 1) := by decide +kernel
theorem dX4_close_56 : decode cX4_close 56 = .ok (.invokevirtual 103, 3) := by decide +kernel
theorem dX4_close_59 : decode cX4_close 59 = .ok (.checkcast 66, 3) := by decide +kernel
theorem dX4_close_62 : decode cX4_close 62 = .ok (.invokevirtual 134, 3) := by decide +kernel
theorem dX4_close_65 : decode cX4_close 65 = .ok (.iinc 2 1, 3) := by decide +kernel
theorem dX4_close_68 : decode cX4_close 68 = .ok (.goto (-28), 3) := by decide +kernel
theorem dX4_close_71 : decode cX4_close 71 = .ok (.aload_n 0, 1) := by decide +kernel
theorem dX4_close_72 : decode cX4_close 72 = .ok (.iconst 0, 1) := by decide +kernel
theorem dX4_close_73 : decode cX4_close 73 = .ok (.putfield 37, 3) := by decide +kernel
theorem dX4_close_76 : decode cX4_close 76 = .ok (.aload_n 0, 1) := by decide +kernel
theorem dX4_close_77 : decode cX4_close 77 = .ok (.invokevirtual 137, 3) := by decide +kernel
theorem dX4_close_80 : decode cX4_close 80 = .ok (.iload_n 1, 1) := by decide +kernel
theorem dX4_close_81 : decode cX4_close 81 = .ok (.ifCond .eq 10, 3) := by decide +kernel
theorem dX4_close_84 : decode cX4_close 84 = .ok (.aload_n 0, 1) := by decide +kernel
theorem dX4_close_85 : decode cX4_close 85 = .ok (.invokevirtual 140, 3) := by decide +kernel
theorem dX4_close_88 : decode cX4_close 88 = .ok (.goto 13, 3) := by decide +kernel
theorem dX4_close_91 : decode cX4_close 91 = .ok (.aload_n 0, 1) := by decide +kernel
theorem dX4_close_92 : decode cX4_close 92 = .ok (.dup, 1) := by decide +kernel
theorem dX4_close_93 : decode cX4_close 93 = .ok (.getfield 30, 3) := by decide +kernel
theorem dX4_close_96 : decode cX4_close 96 = .ok (.iconst 1, 1) := by decide +kernel
theorem dX4_close_97 : decode cX4_close 97 = .ok (.iadd, 1) := by decide +kernel
theorem dX4_close_98 : decode cX4_close 98 = .ok (.putfield 30, 3) := by decide +kernel
theorem dX4_close_101 : decode cX4_close 101 = .ok (.iload_n 1, 1) := by decide +kernel
theorem dX4_close_102 : decode cX4_close 102 = .ok (.ireturn, 1) := by decide +kernel
theorem dX4_burst_0 : decode cX4_burst 0 = .ok (.aload_n 0, 1) := by decide +kernel
theorem dX4_burst_1 : decode cX4_burst 1 = .ok (.iload_n 1, 1) := by decide +kernel
theorem dX4_burst_2 : decode cX4_burst 2 = .ok (.invokevirtual 143, 3) := by decide +kernel
theorem dX4_burst_5 : decode cX4_burst 5 = .ok (.ifCond .eq 13, 3) := by decide +kernel
theorem dX4_burst_8 : decode cX4_burst 8 = .ok (.new 79, 3) := by decide +kernel
theorem dX4_burst_11 : decode cX4_burst 11 = .ok (.dup, 1) := by decide +kernel
theorem dX4_burst_12 : decode cX4_burst 12 = .ok (.ldc 146, 2) := by decide +kernel
theorem dX4_burst_14 : decode cX4_burst 14 = .ok (.invokespecial 83, 3) := by decide +kernel
theorem dX4_burst_17 : decode cX4_burst 17 = .ok (.athrow, 1) := by decide +kernel
theorem dX4_burst_18 : decode cX4_burst 18 = .ok (.aload_n 0, 1) := by decide +kernel
theorem dX4_burst_19 : decode cX4_burst 19 = .ok (.getfield 19, 3) := by decide +kernel
theorem dX4_burst_22 : decode cX4_burst 22 = .ok (.getfield 86, 3) := by decide +kernel
theorem dX4_burst_25 : decode cX4_burst 25 = .ok (.iload_n 1, 1) := by decide +kernel
theorem dX4_burst_26 : decode cX4_burst 26 = .ok (.invokevirtual 103, 3) := by decide +kernel
theorem dX4_burst_29 : decode cX4_burst 29 = .ok (.checkcast 91, 3) := by decide +kernel
theorem dX4_burst_32 : decode cX4_burst 32 = .ok (.astore_n 2, 1) := by decide +kernel
theorem dX4_burst_33 : decode cX4_burst 33 = .ok (.aload_n 2, 1) := by decide +kernel
theorem dX4_burst_34 : decode cX4_burst 34 = .ok (.getfield 148, 3) := by decide +kernel
theorem dX4_burst_37 : decode cX4_burst 37 = .ok (.ifCond .eq 13, 3) := by decide +kernel
theorem dX4_burst_40 : decode cX4_burst 40 = .ok (.new 61, 3) := by decide +kernel
theorem dX4_burst_43 : decode cX4_burst 43 = .ok (.dup, 1) := by decide +kernel
theorem dX4_burst_44 : decode cX4_burst 44 = .ok (.ldc 151, 2) := by decide +kernel
theorem dX4_burst_46 : decode cX4_burst 46 = .ok (.invokespecial 65, 3) := by decide +kernel
theorem dX4_burst_49 : decode cX4_burst 49 = .ok (.athrow, 1) := by decide +kernel
theorem dX4_burst_50 : decode cX4_burst 50 = .ok (.aload_n 2, 1) := by decide +kernel
theorem dX4_burst_51 : decode cX4_burst 51 = .ok (.iconst 1, 1) := by decide +kernel
theorem dX4_burst_52 : decode cX4_burst 52 = .ok (.putfield 148, 3) := by decide +kernel
theorem dX4_burst_55 : decode cX4_burst 55 = .ok (.aload_n 0, 1) := by decide +kernel
theorem dX4_burst_56 : decode cX4_burst 56 = .ok (.getfield 33, 3) := by decide +kernel
theorem dX4_burst_59 : decode cX4_burst 59 = .ok (.ifCond .eq 10, 3) := by decide +kernel
theorem dX4_burst_62 : decode cX4_burst 62 = .ok (.aload_n 0, 1) := by decide +kernel
theorem dX4_burst_63 : decode cX4_burst 63 = .ok (.invokevirtual 153, 3) := by decide +kernel
theorem dX4_burst_66 : decode cX4_burst 66 = .ok (.goto 4, 3) := by decide +kernel
theorem dX4_burst_69 : decode cX4_burst 69 = .ok (.iconst 0, 1) := by decide +kernel
theorem dX4_burst_70 : decode cX4_burst 70 = .ok (.ireturn, 1) := by decide +kernel
theorem dX4_repair_0 : decode cX4_repair 0 = .ok (.aload_n 0, 1) := by decide +kernel
theorem dX4_repair_1 : decode cX4_repair 1 = .ok (.iload_n 1, 1) := by decide +kernel
theorem dX4_repair_2 : decode cX4_repair 2 = .ok (.invokevirtual 143, 3) := by decide +kernel
theorem dX4_repair_5 : decode cX4_repair 5 = .ok (.ifCond .eq 13, 3) := by decide +kernel
theorem dX4_repair_8 : decode cX4_repair 8 = .ok (.new 79, 3) := by decide +kernel
theorem dX4_repair_11 : decode cX4_repair 11 = .ok (.dup, 1) := by decide +kernel
theorem dX4_repair_12 : decode cX4_repair 12 = .ok (.ldc 146, 2) := by decide +kernel
theorem dX4_repair_14 : decode cX4_repair 14 = .ok (.invokespecial 83, 3) := by decide +kernel
theorem dX4_repair_17 : decode cX4_repair 17 = .ok (.athrow, 1) := by decide +kernel
theorem dX4_repair_18 : decode cX4_repair 18 = .ok (.aload_n 0, 1) := by decide +kernel
theorem dX4_repair_19 : decode cX4_repair 19 = .ok (.getfield 19, 3) := by decide +kernel
theorem dX4_repair_22 : decode cX4_repair 22 = .ok (.getfield 86, 3) := by decide +kernel
theorem dX4_repair_25 : decode cX4_repair 25 = .ok (.iload_n 1, 1) := by decide +kernel
theorem dX4_repair_26 : decode cX4_repair 26 = .ok (.invokevirtual 103, 3) := by decide +kernel
theorem dX4_repair_29 : decode cX4_repair 29 = .ok (.checkcast 91, 3) := by decide +kernel
theorem dX4_repair_32 : decode cX4_repair 32 = .ok (.astore_n 2, 1) := by decide +kernel
theorem dX4_repair_33 : decode cX4_repair 33 = .ok (.aload_n 2, 1) := by decide +kernel
theorem dX4_repair_34 : decode cX4_repair 34 = .ok (.getfield 148, 3) := by decide +kernel
theorem dX4_repair_37 : decode cX4_repair 37 = .ok (.ifCond .eq 10, 3) := by decide +kernel
theorem dX4_repair_40 : decode cX4_repair 40 = .ok (.aload_n 0, 1) := by decide +kernel
theorem dX4_repair_41 : decode cX4_repair 41 = .ok (.getfield 33, 3) := by decide +kernel
theorem dX4_repair_44 : decode cX4_repair 44 = .ok (.ifCond .eq 13, 3) := by decide +kernel
theorem dX4_repair_47 : decode cX4_repair 47 = .ok (.new 61, 3) := by decide +kernel
theorem dX4_repair_50 : decode cX4_repair 50 = .ok (.dup, 1) := by decide +kernel
theorem dX4_repair_51 : decode cX4_repair 51 = .ok (.ldc 156, 2) := by decide +kernel
theorem dX4_repair_53 : decode cX4_repair 53 = .ok (.invokespecial 65, 3) := by decide +kernel
theorem dX4_repair_56 : decode cX4_repair 56 = .ok (.athrow, 1) := by decide +kernel
theorem dX4_repair_57 : decode cX4_repair 57 = .ok (.aload_n 2, 1) := by decide +kernel
theorem dX4_repair_58 : decode cX4_repair 58 = .ok (.iconst 0, 1) := by decide +kernel
theorem dX4_repair_59 : decode cX4_repair 59 = .ok (.putfield 148, 3) := by decide +kernel
theorem dX4_repair_62 : decode cX4_repair 62 = .ok (.return_, 1) := by decide +kernel
theorem dX4_end_0 : decode cX4_end 0 = .ok (.aload_n 0, 1) := by decide +kernel
theorem dX4_end_1 : decode cX4_end 1 = .ok (.getfield 33, 3) := by decide +kernel
theorem dX4_end_4 : decode cX4_end 4 = .ok (.ifCond .eq 13, 3) := by decide +kernel
theorem dX4_end_7 : decode cX4_end 7 = .ok (.aload_n 0, 1) := by decide +kernel
theorem dX4_end_8 : decode cX4_end 8 = .ok (.getfield 26, 3) := by decide +kernel
theorem dX4_end_11 : decode cX4_end 11 = .ok (.sipush 1000, 3) := by decide +kernel
theorem dX4_end_14 : decode cX4_end 14 = .ok (.if_icmp .lt 13, 3) := by decide +kernel
theorem dX4_end_17 : decode cX4_end 17 = .ok (.new 61, 3) := by decide +kernel
theorem dX4_end_20 : decode cX4_end 20 = .ok (.dup, 1) := by decide +kernel
theorem dX4_end_21 : decode cX4_end 21 = .ok (.ldc 158, 2) := by decide +kernel
theorem dX4_end_23 : decode cX4_end 23 = .ok (.invokespecial 65, 3) := by decide +kernel
theorem dX4_end_26 : decode cX4_end 26 = .ok (.athrow, 1) := by decide +kernel
theorem dX4_end_27 : decode cX4_end 27 = .ok (.iconst 0, 1) := by decide +kernel
theorem dX4_end_28 : decode cX4_end 28 = .ok (.istore_n 1, 1) := by decide +kernel
theorem dX4_end_29 : decode cX4_end 29 = .ok (.iconst 0, 1) := by decide +kernel
theorem dX4_end_30 : decode cX4_end 30 = .ok (.istore_n 2, 1) := by decide +kernel
theorem dX4_end_31 : decode cX4_end 31 = .ok (.iload_n 2, 1) := by decide +kernel
theorem dX4_end_32 : decode cX4_end 32 = .ok (.aload_n 0, 1) := by decide +kernel
theorem dX4_end_33 : decode cX4_end 33 = .ok (.getfield 12, 3) := by decide +kernel
theorem dX4_end_36 : decode cX4_end 36 = .ok (.invokevirtual 57, 3) := by decide +kernel
theorem dX4_end_39 : decode cX4_end 39 = .ok (.if_icmp .ge 52, 3) := by decide +kernel
theorem dX4_end_42 : decode cX4_end 42 = .ok (.aload_n 0, 1) := by decide +kernel
theorem dX4_end_43 : decode cX4_end 43 = .ok (.getfield 12, 3) := by decide +kernel
theorem dX4_end_46 : decode cX4_end 46 = .ok (.iload_n 2, 1) := by decide +kernel
theorem dX4_end_47 : decode cX4_end 47 = .ok (.invokevirtual 103, 3) := by decide +kernel
theorem dX4_end_50 : decode cX4_end 50 = .ok (.checkcast 66, 3) := by decide +kernel
theorem dX4_end_53 : decode cX4_end 53 = .ok (.astore_n 3, 1) := by decide +kernel
theorem dX4_end_54 : decode cX4_end 54 = .ok (.aload_n 0, 1) := by decide +kernel
theorem dX4_end_55 : decode cX4_end 55 = .ok (.dup, 1) := by decide +kernel
theorem dX4_end_56 : decode cX4_end 56 = .ok (.getfield 43, 3) := by decide +kernel
theorem dX4_end_59 : decode cX4_end 59 = .ok (.aload_n 3, 1) := by decide +kernel
theorem dX4_end_60 : decode cX4_end 60 = .ok (.getfield 160, 3) := by decide +kernel
theorem dX4_end_63 : decode cX4_end 63 = .ok (.iadd, 1) := by decide +kernel
theorem dX4_end_64 : decode cX4_end 64 = .ok (.putfield 43, 3) := by decide +kernel
theorem dX4_end_67 : decode cX4_end 67 = .ok (.aload_n 3, 1) := by decide +kernel
theorem dX4_end_68 : decode cX4_end 68 = .ok (.invokevirtual 163, 3) := by decide +kernel
theorem dX4_end_71 : decode cX4_end 71 = .ok (.aload_n 3, 1) := by decide +kernel
theorem dX4_end_72 : decode cX4_end 72 = .ok (.invokevirtual 166, 3) := by decide +kernel
theorem dX4_end_75 : decode cX4_end 75 = .ok (.ifCond .le 6, 3) := by decide +kernel
theorem dX4_end_78 : decode cX4_end 78 = .ok (.iinc 1 1, 3) := by decide +kernel
theorem dX4_end_81 : decode cX4_end 81 = .ok (.aload_n 3, 1) := by decide +kernel
theorem dX4_end_82 : decode cX4_end 82 = .ok (.invokevirtual 169, 3) := by decide +kernel
theorem dX4_end_85 : decode cX4_end 85 = .ok (.iinc 2 1, 3) := by decide +kernel
theorem dX4_end_88 : decode cX4_end 88 = .ok (.goto (-57), 3) := by decide +kernel
theorem dX4_end_91 : decode cX4_end 91 = .ok (.aload_n 0, 1) := by decide +kernel
theorem dX4_end_92 : decode cX4_end 92 = .ok (.getfield 23, 3) := by decide +kernel
theorem dX4_end_95 : decode cX4_end 95 = .ok (.invokevirtual 172, 3) := by decide +kernel
theorem dX4_end_98 : decode cX4_end 98 = .ok (.aload_n 0, 1) := by decide +kernel
theorem dX4_end_99 : decode cX4_end 99 = .ok (.iconst 0, 1) := by decide +kernel
theorem dX4_end_100 : decode cX4_end 100 = .ok (.putfield 33, 3) := by decide +kernel
theorem dX4_end_103 : decode cX4_end 103 = .ok (.aload_n 0, 1) := by decide +kernel
theorem dX4_end_104 : decode cX4_end 104 = .ok (.iconst 0, 1) := by decide +kernel
theorem dX4_end_105 : decode cX4_end 105 = .ok (.putfield 30, 3) := by decide +kernel
theorem dX4_end_108 : decode cX4_end 108 = .ok (.aload_n 0, 1) := by decide +kernel
theorem dX4_end_109 : decode cX4_end 109 = .ok (.dup, 1) := by decide +kernel
theorem dX4_end_110 : decode cX4_end 110 = .ok (.getfield 26, 3) := by decide +kernel
theorem dX4_end_113 : decode cX4_end 113 = .ok (.iconst 1, 1) := by decide +kernel
theorem dX4_end_114 : decode cX4_end 114 = .ok (.iadd, 1) := by decide +kernel
theorem dX4_end_115 : decode cX4_end 115 = .ok (.putfield 26, 3) := by decide +kernel
theorem dX4_end_118 : decode cX4_end 118 = .ok (.iload_n 1, 1) := by decide +kernel
theorem dX4_end_119 : decode cX4_end 119 = .ok (.ireturn, 1) := by decide +kernel
theorem dX4_hour_0 : decode cX4_hour 0 = .ok (.aload_n 0, 1) := by decide +kernel
theorem dX4_hour_1 : decode cX4_hour 1 = .ok (.getfield 26, 3) := by decide +kernel
theorem dX4_hour_4 : decode cX4_hour 4 = .ok (.ireturn, 1) := by decide +kernel
theorem dX4_round_0 : decode cX4_round 0 = .ok (.aload_n 0, 1) := by decide +kernel
theorem dX4_round_1 : decode cX4_round 1 = .ok (.getfield 33, 3) := by decide +kernel
theorem dX4_round_4 : decode cX4_round 4 = .ok (.ifCond .eq 7, 3) := by decide +kernel
theorem dX4_round_7 : decode cX4_round 7 = .ok (.iconst (-1), 1) := by decide +kernel
theorem dX4_round_8 : decode cX4_round 8 = .ok (.goto 7, 3) := by decide +kernel
theorem dX4_round_11 : decode cX4_round 11 = .ok (.aload_n 0, 1) := by decide +kernel
theorem dX4_round_12 : decode cX4_round 12 = .ok (.getfield 30, 3) := by decide +kernel
theorem dX4_round_15 : decode cX4_round 15 = .ok (.ireturn, 1) := by decide +kernel
theorem dX4_ofDistrict_0 : decode cX4_ofDistrict 0 = .ok (.aload_n 0, 1) := by decide +kernel
theorem dX4_ofDistrict_1 : decode cX4_ofDistrict 1 = .ok (.iload_n 1, 1) := by decide +kernel
theorem dX4_ofDistrict_2 : decode cX4_ofDistrict 2 = .ok (.invokevirtual 75, 3) := by decide +kernel
theorem dX4_ofDistrict_5 : decode cX4_ofDistrict 5 = .ok (.ifCond .eq 13, 3) := by decide +kernel
theorem dX4_ofDistrict_8 : decode cX4_ofDistrict 8 = .ok (.new 79, 3) := by decide +kernel
theorem dX4_ofDistrict_11 : decode cX4_ofDistrict 11 = .ok (.dup, 1) := by decide +kernel
theorem dX4_ofDistrict_12 : decode cX4_ofDistrict 12 = .ok (.ldc 81, 2) := by decide +kernel
theorem dX4_ofDistrict_14 : decode cX4_ofDistrict 14 = .ok (.invokespecial 83, 3) := by decide +kernel
theorem dX4_ofDistrict_17 : decode cX4_ofDistrict 17 = .ok (.athrow, 1) := by decide +kernel
theorem dX4_ofDistrict_18 : decode cX4_ofDistrict 18 = .ok (.aload_n 0, 1) := by decide +kernel
theorem dX4_ofDistrict_19 : decode cX4_ofDistrict 19 = .ok (.getfield 12, 3) := by decide +kernel
theorem dX4_ofDistrict_22 : decode cX4_ofDistrict 22 = .ok (.iload_n 1, 1) := by decide +kernel
theorem dX4_ofDistrict_23 : decode cX4_ofDistrict 23 = .ok (.invokevirtual 103, 3) := by decide +kernel
theorem dX4_ofDistrict_26 : decode cX4_ofDistrict 26 = .ok (.checkcast 66, 3) := by decide +kernel
theorem dX4_ofDistrict_29 : decode cX4_ofDistrict 29 = .ok (.astore_n 3, 1) := by decide +kernel
theorem dX4_ofDistrict_30 : decode cX4_ofDistrict 30 = .ok (.iload_n 2, 1) := by decide +kernel
theorem dX4_ofDistrict_31 : decode cX4_ofDistrict 31 = .ok (.tableswitch 128 0 8 #[49, 54, 76, 98, 103, 108, 113, 118, 123], 49) := by decide +kernel
theorem dX4_ofDistrict_80 : decode cX4_ofDistrict 80 = .ok (.aload_n 3, 1) := by decide +kernel
theorem dX4_ofDistrict_81 : decode cX4_ofDistrict 81 = .ok (.getfield 175, 3) := by decide +kernel
theorem dX4_ofDistrict_84 : decode cX4_ofDistrict 84 = .ok (.ireturn, 1) := by decide +kernel
theorem dX4_ofDistrict_85 : decode cX4_ofDistrict 85 = .ok (.aload_n 3, 1) := by decide +kernel
theorem dX4_ofDistrict_86 : decode cX4_ofDistrict 86 = .ok (.getfield 112, 3) := by decide +kernel
theorem dX4_ofDistrict_89 : decode cX4_ofDistrict 89 = .ok (.getfield 116, 3) := by decide +kernel
theorem dX4_ofDistrict_92 : decode cX4_ofDistrict 92 = .ok (.ifCond .eq 13, 3) := by decide +kernel
theorem dX4_ofDistrict_95 : decode cX4_ofDistrict 95 = .ok (.aload_n 3, 1) := by decide +kernel
theorem dX4_ofDistrict_96 : decode cX4_ofDistrict 96 = .ok (.getfield 112, 3) := by decide +kernel
theorem dX4_ofDistrict_99 : decode cX4_ofDistrict 99 = .ok (.getfield 121, 3) := by decide +kernel
theorem dX4_ofDistrict_102 : decode cX4_ofDistrict 102 = .ok (.goto 4, 3) := by decide +kernel
theorem dX4_ofDistrict_105 : decode cX4_ofDistrict 105 = .ok (.iconst (-1), 1) := by decide +kernel
theorem dX4_ofDistrict_106 : decode cX4_ofDistrict 106 = .ok (.ireturn, 1) := by decide +kernel
theorem dX4_ofDistrict_107 : decode cX4_ofDistrict 107 = .ok (.aload_n 3, 1) := by decide +kernel
theorem dX4_ofDistrict_108 : decode cX4_ofDistrict 108 = .ok (.getfield 112, 3) := by decide +kernel
theorem dX4_ofDistrict_111 : decode cX4_ofDistrict 111 = .ok (.getfield 116, 3) := by decide +kernel
theorem dX4_ofDistrict_114 : decode cX4_ofDistrict 114 = .ok (.ifCond .eq 13, 3) := by decide +kernel
theorem dX4_ofDistrict_117 : decode cX4_ofDistrict 117 = .ok (.aload_n 3, 1) := by decide +kernel
theorem dX4_ofDistrict_118 : decode cX4_ofDistrict 118 = .ok (.getfield 112, 3) := by decide +kernel
theorem dX4_ofDistrict_121 : decode cX4_ofDistrict 121 = .ok (.getfield 178, 3) := by decide +kernel
theorem dX4_ofDistrict_124 : decode cX4_ofDistrict 124 = .ok (.goto 4, 3) := by decide +kernel
theorem dX4_ofDistrict_127 : decode cX4_ofDistrict 127 = .ok (.iconst (-1), 1) := by decide +kernel
theorem dX4_ofDistrict_128 : decode cX4_ofDistrict 128 = .ok (.ireturn, 1) := by decide +kernel
theorem dX4_ofDistrict_129 : decode cX4_ofDistrict 129 = .ok (.aload_n 3, 1) := by decide +kernel
theorem dX4_ofDistrict_130 : decode cX4_ofDistrict 130 = .ok (.getfield 160, 3) := by decide +kernel
theorem dX4_ofDistrict_133 : decode cX4_ofDistrict 133 = .ok (.ireturn, 1) := by decide +kernel
theorem dX4_ofDistrict_134 : decode cX4_ofDistrict 134 = .ok (.aload_n 3, 1) := by decide +kernel
theorem dX4_ofDistrict_135 : decode cX4_ofDistrict 135 = .ok (.getfield 181, 3) := by decide +kernel
theorem dX4_ofDistrict_138 : decode cX4_ofDistrict 138 = .ok (.ireturn, 1) := by decide +kernel
theorem dX4_ofDistrict_139 : decode cX4_ofDistrict 139 = .ok (.aload_n 3, 1) := by decide +kernel
theorem dX4_ofDistrict_140 : decode cX4_ofDistrict 140 = .ok (.getfield 184, 3) := by decide +kernel
theorem dX4_ofDistrict_143 : decode cX4_ofDistrict 143 = .ok (.ireturn, 1) := by decide +kernel
theorem dX4_ofDistrict_144 : decode cX4_ofDistrict 144 = .ok (.aload_n 3, 1) := by decide +kernel
theorem dX4_ofDistrict_145 : decode cX4_ofDistrict 145 = .ok (.getfield 187, 3) := by decide +kernel
theorem dX4_ofDistrict_148 : decode cX4_ofDistrict 148 = .ok (.ireturn, 1) := by decide +kernel
theorem dX4_ofDistrict_149 : decode cX4_ofDistrict 149 = .ok (.aload_n 3, 1) := by decide +kernel
theorem dX4_ofDistrict_150 : decode cX4_ofDistrict 150 = .ok (.getfield 190, 3) := by decide +kernel
theorem dX4_ofDistrict_153 : decode cX4_ofDistrict 153 = .ok (.ireturn, 1) := by decide +kernel
theorem dX4_ofDistrict_154 : decode cX4_ofDistrict 154 = .ok (.aload_n 3, 1) := by decide +kernel
theorem dX4_ofDistrict_155 : decode cX4_ofDistrict 155 = .ok (.getfield 193, 3) := by decide +kernel
theorem dX4_ofDistrict_158 : decode cX4_ofDistrict 158 = .ok (.ireturn, 1) := by decide +kernel
theorem dX4_ofDistrict_159 : decode cX4_ofDistrict 159 = .ok (.new 79, 3) := by decide +kernel
theorem dX4_ofDistrict_162 : decode cX4_ofDistrict 162 = .ok (.dup, 1) := by decide +kernel
theorem dX4_ofDistrict_163 : decode cX4_ofDistrict 163 = .ok (.ldc 196, 2) := by decide +kernel
theorem dX4_ofDistrict_165 : decode cX4_ofDistrict 165 = .ok (.invokespecial 83, 3) := by decide +kernel
theorem dX4_ofDistrict_168 : decode cX4_ofDistrict 168 = .ok (.athrow, 1) := by decide +kernel
theorem dX4_flowAnew_0 : decode cX4_flowAnew 0 = .ok (.aload_n 0, 1) := by decide +kernel
theorem dX4_flowAnew_1 : decode cX4_flowAnew 1 = .ok (.iload_n 1, 1) := by decide +kernel
theorem dX4_flowAnew_2 : decode cX4_flowAnew 2 = .ok (.invokevirtual 75, 3) := by decide +kernel
theorem dX4_flowAnew_5 : decode cX4_flowAnew 5 = .ok (.ifCond .eq 13, 3) := by decide +kernel
theorem dX4_flowAnew_8 : decode cX4_flowAnew 8 = .ok (.new 79, 3) := by decide +kernel
theorem dX4_flowAnew_11 : decode cX4_flowAnew 11 = .ok (.dup, 1) := by decide +kernel
theorem dX4_flowAnew_12 : decode cX4_flowAnew 12 = .ok (.ldc 81, 2) := by decide +kernel
theorem dX4_flowAnew_14 : decode cX4_flowAnew 14 = .ok (.invokespecial 83, 3) := by decide +kernel
theorem dX4_flowAnew_17 : decode cX4_flowAnew 17 = .ok (.athrow, 1) := by decide +kernel
theorem dX4_flowAnew_18 : decode cX4_flowAnew 18 = .ok (.aload_n 0, 1) := by decide +kernel
theorem dX4_flowAnew_19 : decode cX4_flowAnew 19 = .ok (.getfield 12, 3) := by decide +kernel
theorem dX4_flowAnew_22 : decode cX4_flowAnew 22 = .ok (.iload_n 1, 1) := by decide +kernel
theorem dX4_flowAnew_23 : decode cX4_flowAnew 23 = .ok (.invokevirtual 103, 3) := by decide +kernel
theorem dX4_flowAnew_26 : decode cX4_flowAnew 26 = .ok (.checkcast 66, 3) := by decide +kernel
theorem dX4_flowAnew_29 : decode cX4_flowAnew 29 = .ok (.astore_n 2, 1) := by decide +kernel
theorem dX4_flowAnew_30 : decode cX4_flowAnew 30 = .ok (.aload_n 0, 1) := by decide +kernel
theorem dX4_flowAnew_31 : decode cX4_flowAnew 31 = .ok (.getfield 33, 3) := by decide +kernel
theorem dX4_flowAnew_34 : decode cX4_flowAnew 34 = .ok (.ifCond .eq 13, 3) := by decide +kernel
theorem dX4_flowAnew_37 : decode cX4_flowAnew 37 = .ok (.aload_n 2, 1) := by decide +kernel
theorem dX4_flowAnew_38 : decode cX4_flowAnew 38 = .ok (.getfield 112, 3) := by decide +kernel
theorem dX4_flowAnew_41 : decode cX4_flowAnew 41 = .ok (.getfield 116, 3) := by decide +kernel
theorem dX4_flowAnew_44 : decode cX4_flowAnew 44 = .ok (.ifCond .ne 5, 3) := by decide +kernel
theorem dX4_flowAnew_47 : decode cX4_flowAnew 47 = .ok (.iconst 0, 1) := by decide +kernel
theorem dX4_flowAnew_48 : decode cX4_flowAnew 48 = .ok (.ireturn, 1) := by decide +kernel
theorem dX4_flowAnew_49 : decode cX4_flowAnew 49 = .ok (.aload_n 0, 1) := by decide +kernel
theorem dX4_flowAnew_50 : decode cX4_flowAnew 50 = .ok (.aload_n 2, 1) := by decide +kernel
theorem dX4_flowAnew_51 : decode cX4_flowAnew 51 = .ok (.invokevirtual 198, 3) := by decide +kernel
theorem dX4_flowAnew_54 : decode cX4_flowAnew 54 = .ok (.istore_n 3, 1) := by decide +kernel
theorem dX4_flowAnew_55 : decode cX4_flowAnew 55 = .ok (.aload_n 0, 1) := by decide +kernel
theorem dX4_flowAnew_56 : decode cX4_flowAnew 56 = .ok (.iload_n 3, 1) := by decide +kernel
theorem dX4_flowAnew_57 : decode cX4_flowAnew 57 = .ok (.iconst 1, 1) := by decide +kernel
theorem dX4_flowAnew_58 : decode cX4_flowAnew 58 = .ok (.iadd, 1) := by decide +kernel
theorem dX4_flowAnew_59 : decode cX4_flowAnew 59 = .ok (.invokevirtual 202, 3) := by decide +kernel
theorem dX4_flowAnew_62 : decode cX4_flowAnew 62 = .ok (.aload_n 0, 1) := by decide +kernel
theorem dX4_flowAnew_63 : decode cX4_flowAnew 63 = .ok (.iload_n 3, 1) := by decide +kernel
theorem dX4_flowAnew_64 : decode cX4_flowAnew 64 = .ok (.invokevirtual 202, 3) := by decide +kernel
theorem dX4_flowAnew_67 : decode cX4_flowAnew 67 = .ok (.isub, 1) := by decide +kernel
theorem dX4_flowAnew_68 : decode cX4_flowAnew 68 = .ok (.ireturn, 1) := by decide +kernel
theorem dX4_most_0 : decode cX4_most 0 = .ok (.iload_n 1, 1) := by decide +kernel
theorem dX4_most_1 : decode cX4_most 1 = .ok (.ifCond .lt 16, 3) := by decide +kernel
theorem dX4_most_4 : decode cX4_most 4 = .ok (.iload_n 1, 1) := by decide +kernel
theorem dX4_most_5 : decode cX4_most 5 = .ok (.iconst 1, 1) := by decide +kernel
theorem dX4_most_6 : decode cX4_most 6 = .ok (.aload_n 0, 1) := by decide +kernel
theorem dX4_most_7 : decode cX4_most 7 = .ok (.getfield 12, 3) := by decide +kernel
theorem dX4_most_10 : decode cX4_most 10 = .ok (.invokevirtual 57, 3) := by decide +kernel
theorem dX4_most_13 : decode cX4_most 13 = .ok (.ishl, 1) := by decide +kernel
theorem dX4_most_14 : decode cX4_most 14 = .ok (.if_icmp .lt 13, 3) := by decide +kernel
theorem dX4_most_17 : decode cX4_most 17 = .ok (.new 50, 3) := by decide +kernel
theorem dX4_most_20 : decode cX4_most 20 = .ok (.dup, 1) := by decide +kernel
theorem dX4_most_21 : decode cX4_most 21 = .ok (.ldc 206, 2) := by decide +kernel
theorem dX4_most_23 : decode cX4_most 23 = .ok (.invokespecial 54, 3) := by decide +kernel
theorem dX4_most_26 : decode cX4_most 26 = .ok (.athrow, 1) := by decide +kernel
theorem dX4_most_27 : decode cX4_most 27 = .ok (.aload_n 0, 1) := by decide +kernel
theorem dX4_most_28 : decode cX4_most 28 = .ok (.getfield 19, 3) := by decide +kernel
theorem dX4_most_31 : decode cX4_most 31 = .ok (.invokevirtual 208, 3) := by decide +kernel
theorem dX4_most_34 : decode cX4_most 34 = .ok (.iconst 0, 1) := by decide +kernel
theorem dX4_most_35 : decode cX4_most 35 = .ok (.istore_n 2, 1) := by decide +kernel
theorem dX4_most_36 : decode cX4_most 36 = .ok (.iconst 0, 1) := by decide +kernel
theorem dX4_most_37 : decode cX4_most 37 = .ok (.istore_n 3, 1) := by decide +kernel
theorem dX4_most_38 : decode cX4_most 38 = .ok (.iload_n 3, 1) := by decide +kernel
theorem dX4_most_39 : decode cX4_most 39 = .ok (.aload_n 0, 1) := by decide +kernel
theorem dX4_most_40 : decode cX4_most 40 = .ok (.getfield 12, 3) := by decide +kernel
theorem dX4_most_43 : decode cX4_most 43 = .ok (.invokevirtual 57, 3) := by decide +kernel
theorem dX4_most_46 : decode cX4_most 46 = .ok (.if_icmp .ge 45, 3) := by decide +kernel
theorem dX4_most_49 : decode cX4_most 49 = .ok (.iload_n 1, 1) := by decide +kernel
theorem dX4_most_50 : decode cX4_most 50 = .ok (.iload_n 3, 1) := by decide +kernel
theorem dX4_most_51 : decode cX4_most 51 = .ok (.ishr, 1) := by decide +kernel
theorem dX4_most_52 : decode cX4_most 52 = .ok (.iconst 1, 1) := by decide +kernel
theorem dX4_most_53 : decode cX4_most 53 = .ok (.iand, 1) := by decide +kernel
theorem dX4_most_54 : decode cX4_most 54 = .ok (.iconst 1, 1) := by decide +kernel
theorem dX4_most_55 : decode cX4_most 55 = .ok (.if_icmp .ne 30, 3) := by decide +kernel
theorem dX4_most_58 : decode cX4_most 58 = .ok (.iload_n 2, 1) := by decide +kernel
theorem dX4_most_59 : decode cX4_most 59 = .ok (.aload_n 0, 1) := by decide +kernel
theorem dX4_most_60 : decode cX4_most 60 = .ok (.getfield 19, 3) := by decide +kernel
theorem dX4_most_63 : decode cX4_most 63 = .ok (.aload_n 0, 1) := by decide +kernel
theorem dX4_most_64 : decode cX4_most 64 = .ok (.getfield 12, 3) := by decide +kernel
theorem dX4_most_67 : decode cX4_most 67 = .ok (.iload_n 3, 1) := by decide +kernel
theorem dX4_most_68 : decode cX4_most 68 = .ok (.invokevirtual 103, 3) := by decide +kernel
theorem dX4_most_71 : decode cX4_most 71 = .ok (.checkcast 66, 3) := by decide +kernel
theorem dX4_most_74 : decode cX4_most 74 = .ok (.getfield 211, 3) := by decide +kernel
theorem dX4_most_77 : decode cX4_most 77 = .ok (.sipush 9999, 3) := by decide +kernel
theorem dX4_most_80 : decode cX4_most 80 = .ok (.invokevirtual 214, 3) := by decide +kernel
theorem dX4_most_83 : decode cX4_most 83 = .ok (.iadd, 1) := by decide +kernel
theorem dX4_most_84 : decode cX4_most 84 = .ok (.istore_n 2, 1) := by decide +kernel
theorem dX4_most_85 : decode cX4_most 85 = .ok (.iinc 3 1, 3) := by decide +kernel
theorem dX4_most_88 : decode cX4_most 88 = .ok (.goto (-50), 3) := by decide +kernel
theorem dX4_most_91 : decode cX4_most 91 = .ok (.iload_n 2, 1) := by decide +kernel
theorem dX4_most_92 : decode cX4_most 92 = .ok (.ireturn, 1) := by decide +kernel
theorem dX4_place_0 : decode cX4_place 0 = .ok (.aload_n 0, 1) := by decide +kernel
theorem dX4_place_1 : decode cX4_place 1 = .ok (.iload_n 1, 1) := by decide +kernel
theorem dX4_place_2 : decode cX4_place 2 = .ok (.invokevirtual 75, 3) := by decide +kernel
theorem dX4_place_5 : decode cX4_place 5 = .ok (.ifCond .eq 13, 3) := by decide +kernel
theorem dX4_place_8 : decode cX4_place 8 = .ok (.new 79, 3) := by decide +kernel
theorem dX4_place_11 : decode cX4_place 11 = .ok (.dup, 1) := by decide +kernel
theorem dX4_place_12 : decode cX4_place 12 = .ok (.ldc 81, 2) := by decide +kernel
theorem dX4_place_14 : decode cX4_place 14 = .ok (.invokespecial 83, 3) := by decide +kernel
theorem dX4_place_17 : decode cX4_place 17 = .ok (.athrow, 1) := by decide +kernel
theorem dX4_place_18 : decode cX4_place 18 = .ok (.aload_n 0, 1) := by decide +kernel
theorem dX4_place_19 : decode cX4_place 19 = .ok (.getfield 12, 3) := by decide +kernel
theorem dX4_place_22 : decode cX4_place 22 = .ok (.iload_n 1, 1) := by decide +kernel
theorem dX4_place_23 : decode cX4_place 23 = .ok (.invokevirtual 103, 3) := by decide +kernel
theorem dX4_place_26 : decode cX4_place 26 = .ok (.checkcast 66, 3) := by decide +kernel
theorem dX4_place_29 : decode cX4_place 29 = .ok (.astore_n 2, 1) := by decide +kernel
theorem dX4_place_30 : decode cX4_place 30 = .ok (.aload_n 2, 1) := by decide +kernel
theorem dX4_place_31 : decode cX4_place 31 = .ok (.getfield 112, 3) := by decide +kernel
theorem dX4_place_34 : decode cX4_place 34 = .ok (.getfield 116, 3) := by decide +kernel
theorem dX4_place_37 : decode cX4_place 37 = .ok (.ifCond .eq 11, 3) := by decide +kernel
theorem dX4_place_40 : decode cX4_place 40 = .ok (.aload_n 0, 1) := by decide +kernel
theorem dX4_place_41 : decode cX4_place 41 = .ok (.aload_n 2, 1) := by decide +kernel
theorem dX4_place_42 : decode cX4_place 42 = .ok (.invokevirtual 198, 3) := by decide +kernel
theorem dX4_place_45 : decode cX4_place 45 = .ok (.goto 4, 3) := by decide +kernel
theorem dX4_place_48 : decode cX4_place 48 = .ok (.iconst (-1), 1) := by decide +kernel
theorem dX4_place_49 : decode cX4_place 49 = .ok (.ireturn, 1) := by decide +kernel
theorem dX4_count_0 : decode cX4_count 0 = .ok (.iload_n 1, 1) := by decide +kernel
theorem dX4_count_1 : decode cX4_count 1 = .ok (.tableswitch 102 0 7 #[47, 55, 66, 74, 82, 87, 92, 97], 47) := by decide +kernel
theorem dX4_count_48 : decode cX4_count 48 = .ok (.aload_n 0, 1) := by decide +kernel
theorem dX4_count_49 : decode cX4_count 49 = .ok (.getfield 12, 3) := by decide +kernel
theorem dX4_count_52 : decode cX4_count 52 = .ok (.invokevirtual 57, 3) := by decide +kernel
theorem dX4_count_55 : decode cX4_count 55 = .ok (.ireturn, 1) := by decide +kernel
theorem dX4_count_56 : decode cX4_count 56 = .ok (.aload_n 0, 1) := by decide +kernel
theorem dX4_count_57 : decode cX4_count 57 = .ok (.getfield 19, 3) := by decide +kernel
theorem dX4_count_60 : decode cX4_count 60 = .ok (.getfield 86, 3) := by decide +kernel
theorem dX4_count_63 : decode cX4_count 63 = .ok (.invokevirtual 57, 3) := by decide +kernel
theorem dX4_count_66 : decode cX4_count 66 = .ok (.ireturn, 1) := by decide +kernel
theorem dX4_count_67 : decode cX4_count 67 = .ok (.aload_n 0, 1) := by decide +kernel
theorem dX4_count_68 : decode cX4_count 68 = .ok (.getfield 19, 3) := by decide +kernel
theorem dX4_count_71 : decode cX4_count 71 = .ok (.invokevirtual 218, 3) := by decide +kernel
theorem dX4_count_74 : decode cX4_count 74 = .ok (.ireturn, 1) := by decide +kernel
theorem dX4_count_75 : decode cX4_count 75 = .ok (.aload_n 0, 1) := by decide +kernel
theorem dX4_count_76 : decode cX4_count 76 = .ok (.getfield 23, 3) := by decide +kernel
theorem dX4_count_79 : decode cX4_count 79 = .ok (.invokevirtual 57, 3) := by decide +kernel
theorem dX4_count_82 : decode cX4_count 82 = .ok (.ireturn, 1) := by decide +kernel
theorem dX4_count_83 : decode cX4_count 83 = .ok (.aload_n 0, 1) := by decide +kernel
theorem dX4_count_84 : decode cX4_count 84 = .ok (.invokevirtual 221, 3) := by decide +kernel
theorem dX4_count_87 : decode cX4_count 87 = .ok (.ireturn, 1) := by decide +kernel
theorem dX4_count_88 : decode cX4_count 88 = .ok (.aload_n 0, 1) := by decide +kernel
theorem dX4_count_89 : decode cX4_count 89 = .ok (.invokevirtual 224, 3) := by decide +kernel
theorem dX4_count_92 : decode cX4_count 92 = .ok (.ireturn, 1) := by decide +kernel
theorem dX4_count_93 : decode cX4_count 93 = .ok (.aload_n 0, 1) := by decide +kernel
theorem dX4_count_94 : decode cX4_count 94 = .ok (.invokevirtual 227, 3) := by decide +kernel
theorem dX4_count_97 : decode cX4_count 97 = .ok (.ireturn, 1) := by decide +kernel
theorem dX4_count_98 : decode cX4_count 98 = .ok (.aload_n 0, 1) := by decide +kernel
theorem dX4_count_99 : decode cX4_count 99 = .ok (.getfield 43, 3) := by decide +kernel
theorem dX4_count_102 : decode cX4_count 102 = .ok (.ireturn, 1) := by decide +kernel
theorem dX4_count_103 : decode cX4_count 103 = .ok (.new 50, 3) := by decide +kernel
theorem dX4_count_106 : decode cX4_count 106 = .ok (.dup, 1) := by decide +kernel
theorem dX4_count_107 : decode cX4_count 107 = .ok (.ldc 196, 2) := by decide +kernel
theorem dX4_count_109 : decode cX4_count 109 = .ok (.invokespecial 54, 3) := by decide +kernel
theorem dX4_count_112 : decode cX4_count 112 = .ok (.athrow, 1) := by decide +kernel
theorem dX4_isOutside_0 : decode cX4_isOutside 0 = .ok (.iload_n 0, 1) := by decide +kernel
theorem dX4_isOutside_1 : decode cX4_isOutside 1 = .ok (.iload_n 1, 1) := by decide +kernel
theorem dX4_isOutside_2 : decode cX4_isOutside 2 = .ok (.if_icmp .lt 8, 3) := by decide +kernel
theorem dX4_isOutside_5 : decode cX4_isOutside 5 = .ok (.iload_n 0, 1) := by decide +kernel
theorem dX4_isOutside_6 : decode cX4_isOutside 6 = .ok (.iload_n 2, 1) := by decide +kernel
theorem dX4_isOutside_7 : decode cX4_isOutside 7 = .ok (.if_icmp .le 7, 3) := by decide +kernel
theorem dX4_isOutside_10 : decode cX4_isOutside 10 = .ok (.iconst 1, 1) := by decide +kernel
theorem dX4_isOutside_11 : decode cX4_isOutside 11 = .ok (.goto 4, 3) := by decide +kernel
theorem dX4_isOutside_14 : decode cX4_isOutside 14 = .ok (.iconst 0, 1) := by decide +kernel
theorem dX4_isOutside_15 : decode cX4_isOutside 15 = .ok (.ireturn, 1) := by decide +kernel
theorem dX4_isNoDistrict_0 : decode cX4_isNoDistrict 0 = .ok (.iload_n 1, 1) := by decide +kernel
theorem dX4_isNoDistrict_1 : decode cX4_isNoDistrict 1 = .ok (.ifCond .lt 14, 3) := by decide +kernel
theorem dX4_isNoDistrict_4 : decode cX4_isNoDistrict 4 = .ok (.iload_n 1, 1) := by decide +kernel
theorem dX4_isNoDistrict_5 : decode cX4_isNoDistrict 5 = .ok (.aload_n 0, 1) := by decide +kernel
theorem dX4_isNoDistrict_6 : decode cX4_isNoDistrict 6 = .ok (.getfield 12, 3) := by decide +kernel
theorem dX4_isNoDistrict_9 : decode cX4_isNoDistrict 9 = .ok (.invokevirtual 57, 3) := by decide +kernel
theorem dX4_isNoDistrict_12 : decode cX4_isNoDistrict 12 = .ok (.if_icmp .lt 7, 3) := by decide +kernel
theorem dX4_isNoDistrict_15 : decode cX4_isNoDistrict 15 = .ok (.iconst 1, 1) := by decide +kernel
theorem dX4_isNoDistrict_16 : decode cX4_isNoDistrict 16 = .ok (.goto 4, 3) := by decide +kernel
theorem dX4_isNoDistrict_19 : decode cX4_isNoDistrict 19 = .ok (.iconst 0, 1) := by decide +kernel
theorem dX4_isNoDistrict_20 : decode cX4_isNoDistrict 20 = .ok (.ireturn, 1) := by decide +kernel
theorem dX4_isNoPipe_0 : decode cX4_isNoPipe 0 = .ok (.iload_n 1, 1) := by decide +kernel
theorem dX4_isNoPipe_1 : decode cX4_isNoPipe 1 = .ok (.ifCond .lt 17, 3) := by decide +kernel
theorem dX4_isNoPipe_4 : decode cX4_isNoPipe 4 = .ok (.iload_n 1, 1) := by decide +kernel
theorem dX4_isNoPipe_5 : decode cX4_isNoPipe 5 = .ok (.aload_n 0, 1) := by decide +kernel
theorem dX4_isNoPipe_6 : decode cX4_isNoPipe 6 = .ok (.getfield 19, 3) := by decide +kernel
theorem dX4_isNoPipe_9 : decode cX4_isNoPipe 9 = .ok (.getfield 86, 3) := by decide +kernel
theorem dX4_isNoPipe_12 : decode cX4_isNoPipe 12 = .ok (.invokevirtual 57, 3) := by decide +kernel
theorem dX4_isNoPipe_15 : decode cX4_isNoPipe 15 = .ok (.if_icmp .lt 7, 3) := by decide +kernel
theorem dX4_isNoPipe_18 : decode cX4_isNoPipe 18 = .ok (.iconst 1, 1) := by decide +kernel
theorem dX4_isNoPipe_19 : decode cX4_isNoPipe 19 = .ok (.goto 4, 3) := by decide +kernel
theorem dX4_isNoPipe_22 : decode cX4_isNoPipe 22 = .ok (.iconst 0, 1) := by decide +kernel
theorem dX4_isNoPipe_23 : decode cX4_isNoPipe 23 = .ok (.ireturn, 1) := by decide +kernel
theorem dX4_orderBids_0 : decode cX4_orderBids 0 = .ok (.aload_n 0, 1) := by decide +kernel
theorem dX4_orderBids_1 : decode cX4_orderBids 1 = .ok (.getfield 23, 3) := by decide +kernel
theorem dX4_orderBids_4 : decode cX4_orderBids 4 = .ok (.invokevirtual 172, 3) := by decide +kernel
theorem dX4_orderBids_7 : decode cX4_orderBids 7 = .ok (.iconst 0, 1) := by decide +kernel
theorem dX4_orderBids_8 : decode cX4_orderBids 8 = .ok (.istore_n 1, 1) := by decide +kernel
theorem dX4_orderBids_9 : decode cX4_orderBids 9 = .ok (.iload_n 1, 1) := by decide +kernel
theorem dX4_orderBids_10 : decode cX4_orderBids 10 = .ok (.aload_n 0, 1) := by decide +kernel
theorem dX4_orderBids_11 : decode cX4_orderBids 11 = .ok (.getfield 12, 3) := by decide +kernel
theorem dX4_orderBids_14 : decode cX4_orderBids 14 = .ok (.invokevirtual 57, 3) := by decide +kernel
theorem dX4_orderBids_17 : decode cX4_orderBids 17 = .ok (.if_icmp .ge 44, 3) := by decide +kernel
theorem dX4_orderBids_20 : decode cX4_orderBids 20 = .ok (.aload_n 0, 1) := by decide +kernel
theorem dX4_orderBids_21 : decode cX4_orderBids 21 = .ok (.getfield 12, 3) := by decide +kernel
theorem dX4_orderBids_24 : decode cX4_orderBids 24 = .ok (.iload_n 1, 1) := by decide +kernel
theorem dX4_orderBids_25 : decode cX4_orderBids 25 = .ok (.invokevirtual 103, 3) := by decide +kernel
theorem dX4_orderBids_28 : decode cX4_orderBids 28 = .ok (.checkcast 66, 3) := by decide +kernel
theorem dX4_orderBids_31 : decode cX4_orderBids 31 = .ok (.astore_n 2, 1) := by decide +kernel
theorem dX4_orderBids_32 : decode cX4_orderBids 32 = .ok (.aload_n 2, 1) := by decide +kernel
theorem dX4_orderBids_33 : decode cX4_orderBids 33 = .ok (.getfield 112, 3) := by decide +kernel
theorem dX4_orderBids_36 : decode cX4_orderBids 36 = .ok (.getfield 116, 3) := by decide +kernel
theorem dX4_orderBids_39 : decode cX4_orderBids 39 = .ok (.ifCond .eq 16, 3) := by decide +kernel
theorem dX4_orderBids_42 : decode cX4_orderBids 42 = .ok (.aload_n 0, 1) := by decide +kernel
theorem dX4_orderBids_43 : decode cX4_orderBids 43 = .ok (.getfield 23, 3) := by decide +kernel
theorem dX4_orderBids_46 : decode cX4_orderBids 46 = .ok (.aload_n 0, 1) := by decide +kernel
theorem dX4_orderBids_47 : decode cX4_orderBids 47 = .ok (.aload_n 2, 1) := by decide +kernel
theorem dX4_orderBids_48 : decode cX4_orderBids 48 = .ok (.invokevirtual 198, 3) := by decide +kernel
theorem dX4_orderBids_51 : decode cX4_orderBids 51 = .ok (.aload_n 2, 1) := by decide +kernel
theorem dX4_orderBids_52 : decode cX4_orderBids 52 = .ok (.invokevirtual 230, 3) := by decide +kernel
theorem dX4_orderBids_55 : decode cX4_orderBids 55 = .ok (.iinc 1 1, 3) := by decide +kernel
theorem dX4_orderBids_58 : decode cX4_orderBids 58 = .ok (.goto (-49), 3) := by decide +kernel
theorem dX4_orderBids_61 : decode cX4_orderBids 61 = .ok (.return_, 1) := by decide +kernel
theorem dX4_bidsAheadOf_0 : decode cX4_bidsAheadOf 0 = .ok (.iconst 0, 1) := by decide +kernel
theorem dX4_bidsAheadOf_1 : decode cX4_bidsAheadOf 1 = .ok (.istore_n 2, 1) := by decide +kernel
theorem dX4_bidsAheadOf_2 : decode cX4_bidsAheadOf 2 = .ok (.iconst 0, 1) := by decide +kernel
theorem dX4_bidsAheadOf_3 : decode cX4_bidsAheadOf 3 = .ok (.istore_n 3, 1) := by decide +kernel
theorem dX4_bidsAheadOf_4 : decode cX4_bidsAheadOf 4 = .ok (.iload_n 3, 1) := by decide +kernel
theorem dX4_bidsAheadOf_5 : decode cX4_bidsAheadOf 5 = .ok (.aload_n 0, 1) := by decide +kernel
theorem dX4_bidsAheadOf_6 : decode cX4_bidsAheadOf 6 = .ok (.getfield 23, 3) := by decide +kernel
theorem dX4_bidsAheadOf_9 : decode cX4_bidsAheadOf 9 = .ok (.invokevirtual 57, 3) := by decide +kernel
theorem dX4_bidsAheadOf_12 : decode cX4_bidsAheadOf 12 = .ok (.if_icmp .ge 36, 3) := by decide +kernel
theorem dX4_bidsAheadOf_15 : decode cX4_bidsAheadOf 15 = .ok (.aload_n 0, 1) := by decide +kernel
theorem dX4_bidsAheadOf_16 : decode cX4_bidsAheadOf 16 = .ok (.getfield 23, 3) := by decide +kernel
theorem dX4_bidsAheadOf_19 : decode cX4_bidsAheadOf 19 = .ok (.iload_n 3, 1) := by decide +kernel
theorem dX4_bidsAheadOf_20 : decode cX4_bidsAheadOf 20 = .ok (.invokevirtual 103, 3) := by decide +kernel
theorem dX4_bidsAheadOf_23 : decode cX4_bidsAheadOf 23 = .ok (.checkcast 66, 3) := by decide +kernel
theorem dX4_bidsAheadOf_26 : decode cX4_bidsAheadOf 26 = .ok (.getfield 112, 3) := by decide +kernel
theorem dX4_bidsAheadOf_29 : decode cX4_bidsAheadOf 29 = .ok (.aload_n 1, 1) := by decide +kernel
theorem dX4_bidsAheadOf_30 : decode cX4_bidsAheadOf 30 = .ok (.getfield 112, 3) := by decide +kernel
theorem dX4_bidsAheadOf_33 : decode cX4_bidsAheadOf 33 = .ok (.invokevirtual 233, 3) := by decide +kernel
theorem dX4_bidsAheadOf_36 : decode cX4_bidsAheadOf 36 = .ok (.ifCond .eq 6, 3) := by decide +kernel
theorem dX4_bidsAheadOf_39 : decode cX4_bidsAheadOf 39 = .ok (.iinc 2 1, 3) := by decide +kernel
theorem dX4_bidsAheadOf_42 : decode cX4_bidsAheadOf 42 = .ok (.iinc 3 1, 3) := by decide +kernel
theorem dX4_bidsAheadOf_45 : decode cX4_bidsAheadOf 45 = .ok (.goto (-41), 3) := by decide +kernel
theorem dX4_bidsAheadOf_48 : decode cX4_bidsAheadOf 48 = .ok (.iload_n 2, 1) := by decide +kernel
theorem dX4_bidsAheadOf_49 : decode cX4_bidsAheadOf 49 = .ok (.ireturn, 1) := by decide +kernel
theorem dX4_beginFlowing_0 : decode cX4_beginFlowing 0 = .ok (.aload_n 0, 1) := by decide +kernel
theorem dX4_beginFlowing_1 : decode cX4_beginFlowing 1 = .ok (.iconst 1, 1) := by decide +kernel
theorem dX4_beginFlowing_2 : decode cX4_beginFlowing 2 = .ok (.putfield 33, 3) := by decide +kernel
theorem dX4_beginFlowing_5 : decode cX4_beginFlowing 5 = .ok (.iconst 0, 1) := by decide +kernel
theorem dX4_beginFlowing_6 : decode cX4_beginFlowing 6 = .ok (.istore_n 1, 1) := by decide +kernel
theorem dX4_beginFlowing_7 : decode cX4_beginFlowing 7 = .ok (.iload_n 1, 1) := by decide +kernel
theorem dX4_beginFlowing_8 : decode cX4_beginFlowing 8 = .ok (.aload_n 0, 1) := by decide +kernel
theorem dX4_beginFlowing_9 : decode cX4_beginFlowing 9 = .ok (.getfield 23, 3) := by decide +kernel
theorem dX4_beginFlowing_12 : decode cX4_beginFlowing 12 = .ok (.invokevirtual 57, 3) := by decide +kernel
theorem dX4_beginFlowing_15 : decode cX4_beginFlowing 15 = .ok (.if_icmp .ge 32, 3) := by decide +kernel
theorem dX4_beginFlowing_18 : decode cX4_beginFlowing 18 = .ok (.aload_n 0, 1) := by decide +kernel
theorem dX4_beginFlowing_19 : decode cX4_beginFlowing 19 = .ok (.getfield 23, 3) := by decide +kernel
theorem dX4_beginFlowing_22 : decode cX4_beginFlowing 22 = .ok (.iload_n 1, 1) := by decide +kernel
theorem dX4_beginFlowing_23 : decode cX4_beginFlowing 23 = .ok (.invokevirtual 103, 3) := by decide +kernel
theorem dX4_beginFlowing_26 : decode cX4_beginFlowing 26 = .ok (.checkcast 66, 3) := by decide +kernel
theorem dX4_beginFlowing_29 : decode cX4_beginFlowing 29 = .ok (.astore_n 2, 1) := by decide +kernel
theorem dX4_beginFlowing_30 : decode cX4_beginFlowing 30 = .ok (.aload_n 2, 1) := by decide +kernel
theorem dX4_beginFlowing_31 : decode cX4_beginFlowing 31 = .ok (.aload_n 2, 1) := by decide +kernel
theorem dX4_beginFlowing_32 : decode cX4_beginFlowing 32 = .ok (.getfield 112, 3) := by decide +kernel
theorem dX4_beginFlowing_35 : decode cX4_beginFlowing 35 = .ok (.getfield 178, 3) := by decide +kernel
theorem dX4_beginFlowing_38 : decode cX4_beginFlowing 38 = .ok (.putfield 237, 3) := by decide +kernel
theorem dX4_beginFlowing_41 : decode cX4_beginFlowing 41 = .ok (.iinc 1 1, 3) := by decide +kernel
theorem dX4_beginFlowing_44 : decode cX4_beginFlowing 44 = .ok (.goto (-37), 3) := by decide +kernel
theorem dX4_beginFlowing_47 : decode cX4_beginFlowing 47 = .ok (.aload_n 0, 1) := by decide +kernel
theorem dX4_beginFlowing_48 : decode cX4_beginFlowing 48 = .ok (.invokevirtual 240, 3) := by decide +kernel
theorem dX4_beginFlowing_51 : decode cX4_beginFlowing 51 = .ok (.iconst 0, 1) := by decide +kernel
theorem dX4_beginFlowing_52 : decode cX4_beginFlowing 52 = .ok (.istore_n 1, 1) := by decide +kernel
theorem dX4_beginFlowing_53 : decode cX4_beginFlowing 53 = .ok (.iload_n 1, 1) := by decide +kernel
theorem dX4_beginFlowing_54 : decode cX4_beginFlowing 54 = .ok (.aload_n 0, 1) := by decide +kernel
theorem dX4_beginFlowing_55 : decode cX4_beginFlowing 55 = .ok (.getfield 23, 3) := by decide +kernel
theorem dX4_beginFlowing_58 : decode cX4_beginFlowing 58 = .ok (.invokevirtual 57, 3) := by decide +kernel
theorem dX4_beginFlowing_61 : decode cX4_beginFlowing 61 = .ok (.if_icmp .ge 23, 3) := by decide +kernel
theorem dX4_beginFlowing_64 : decode cX4_beginFlowing 64 = .ok (.aload_n 0, 1) := by decide +kernel
theorem dX4_beginFlowing_65 : decode cX4_beginFlowing 65 = .ok (.getfield 23, 3) := by decide +kernel
theorem dX4_beginFlowing_68 : decode cX4_beginFlowing 68 = .ok (.iload_n 1, 1) := by decide +kernel
theorem dX4_beginFlowing_69 : decode cX4_beginFlowing 69 = .ok (.invokevirtual 103, 3) := by decide +kernel
theorem dX4_beginFlowing_72 : decode cX4_beginFlowing 72 = .ok (.checkcast 66, 3) := by decide +kernel
theorem dX4_beginFlowing_75 : decode cX4_beginFlowing 75 = .ok (.invokevirtual 243, 3) := by decide +kernel
theorem dX4_beginFlowing_78 : decode cX4_beginFlowing 78 = .ok (.iinc 1 1, 3) := by decide +kernel
theorem dX4_beginFlowing_81 : decode cX4_beginFlowing 81 = .ok (.goto (-28), 3) := by decide +kernel
theorem dX4_beginFlowing_84 : decode cX4_beginFlowing 84 = .ok (.return_, 1) := by decide +kernel
theorem dX4_flowLess_0 : decode cX4_flowLess 0 = .ok (.iconst 0, 1) := by decide +kernel
theorem dX4_flowLess_1 : decode cX4_flowLess 1 = .ok (.istore_n 1, 1) := by decide +kernel
theorem dX4_flowLess_2 : decode cX4_flowLess 2 = .ok (.iload_n 1, 1) := by decide +kernel
theorem dX4_flowLess_3 : decode cX4_flowLess 3 = .ok (.aload_n 0, 1) := by decide +kernel
theorem dX4_flowLess_4 : decode cX4_flowLess 4 = .ok (.getfield 23, 3) := by decide +kernel
theorem dX4_flowLess_7 : decode cX4_flowLess 7 = .ok (.invokevirtual 57, 3) := by decide +kernel
theorem dX4_flowLess_10 : decode cX4_flowLess 10 = .ok (.if_icmp .ge 29, 3) := by decide +kernel
theorem dX4_flowLess_13 : decode cX4_flowLess 13 = .ok (.aload_n 0, 1) := by decide +kernel
theorem dX4_flowLess_14 : decode cX4_flowLess 14 = .ok (.getfield 23, 3) := by decide +kernel
theorem dX4_flowLess_17 : decode cX4_flowLess 17 = .ok (.iload_n 1, 1) := by decide +kernel
theorem dX4_flowLess_18 : decode cX4_flowLess 18 = .ok (.invokevirtual 103, 3) := by decide +kernel
theorem dX4_flowLess_21 : decode cX4_flowLess 21 = .ok (.checkcast 66, 3) := by decide +kernel
theorem dX4_flowLess_24 : decode cX4_flowLess 24 = .ok (.astore_n 2, 1) := by decide +kernel
theorem dX4_flowLess_25 : decode cX4_flowLess 25 = .ok (.aload_n 2, 1) := by decide +kernel
theorem dX4_flowLess_26 : decode cX4_flowLess 26 = .ok (.aload_n 2, 1) := by decide +kernel
theorem dX4_flowLess_27 : decode cX4_flowLess 27 = .ok (.getfield 160, 3) := by decide +kernel
theorem dX4_flowLess_30 : decode cX4_flowLess 30 = .ok (.putfield 237, 3) := by decide +kernel
theorem dX4_flowLess_33 : decode cX4_flowLess 33 = .ok (.iinc 1 1, 3) := by decide +kernel
theorem dX4_flowLess_36 : decode cX4_flowLess 36 = .ok (.goto (-34), 3) := by decide +kernel
theorem dX4_flowLess_39 : decode cX4_flowLess 39 = .ok (.aload_n 0, 1) := by decide +kernel
theorem dX4_flowLess_40 : decode cX4_flowLess 40 = .ok (.invokevirtual 240, 3) := by decide +kernel
theorem dX4_flowLess_43 : decode cX4_flowLess 43 = .ok (.iconst 0, 1) := by decide +kernel
theorem dX4_flowLess_44 : decode cX4_flowLess 44 = .ok (.istore_n 1, 1) := by decide +kernel
theorem dX4_flowLess_45 : decode cX4_flowLess 45 = .ok (.iconst 0, 1) := by decide +kernel
theorem dX4_flowLess_46 : decode cX4_flowLess 46 = .ok (.istore_n 2, 1) := by decide +kernel
theorem dX4_flowLess_47 : decode cX4_flowLess 47 = .ok (.iload_n 2, 1) := by decide +kernel
theorem dX4_flowLess_48 : decode cX4_flowLess 48 = .ok (.aload_n 0, 1) := by decide +kernel
theorem dX4_flowLess_49 : decode cX4_flowLess 49 = .ok (.getfield 23, 3) := by decide +kernel
theorem dX4_flowLess_52 : decode cX4_flowLess 52 = .ok (.invokevirtual 57, 3) := by decide +kernel
theorem dX4_flowLess_55 : decode cX4_flowLess 55 = .ok (.if_icmp .ge 26, 3) := by decide +kernel
theorem dX4_flowLess_58 : decode cX4_flowLess 58 = .ok (.iload_n 1, 1) := by decide +kernel
theorem dX4_flowLess_59 : decode cX4_flowLess 59 = .ok (.aload_n 0, 1) := by decide +kernel
theorem dX4_flowLess_60 : decode cX4_flowLess 60 = .ok (.getfield 23, 3) := by decide +kernel
theorem dX4_flowLess_63 : decode cX4_flowLess 63 = .ok (.iload_n 2, 1) := by decide +kernel
theorem dX4_flowLess_64 : decode cX4_flowLess 64 = .ok (.invokevirtual 103, 3) := by decide +kernel
theorem dX4_flowLess_67 : decode cX4_flowLess 67 = .ok (.checkcast 66, 3) := by decide +kernel
theorem dX4_flowLess_70 : decode cX4_flowLess 70 = .ok (.invokevirtual 246, 3) := by decide +kernel
theorem dX4_flowLess_73 : decode cX4_flowLess 73 = .ok (.iadd, 1) := by decide +kernel
theorem dX4_flowLess_74 : decode cX4_flowLess 74 = .ok (.istore_n 1, 1) := by decide +kernel
theorem dX4_flowLess_75 : decode cX4_flowLess 75 = .ok (.iinc 2 1, 3) := by decide +kernel
theorem dX4_flowLess_78 : decode cX4_flowLess 78 = .ok (.goto (-31), 3) := by decide +kernel
theorem dX4_flowLess_81 : decode cX4_flowLess 81 = .ok (.iload_n 1, 1) := by decide +kernel
theorem dX4_flowLess_82 : decode cX4_flowLess 82 = .ok (.ireturn, 1) := by decide +kernel
theorem dX4_findFlows_0 : decode cX4_findFlows 0 = .ok (.aload_n 0, 1) := by decide +kernel
theorem dX4_findFlows_1 : decode cX4_findFlows 1 = .ok (.getfield 19, 3) := by decide +kernel
theorem dX4_findFlows_4 : decode cX4_findFlows 4 = .ok (.invokevirtual 208, 3) := by decide +kernel
theorem dX4_findFlows_7 : decode cX4_findFlows 7 = .ok (.iconst 0, 1) := by decide +kernel
theorem dX4_findFlows_8 : decode cX4_findFlows 8 = .ok (.istore_n 1, 1) := by decide +kernel
theorem dX4_findFlows_9 : decode cX4_findFlows 9 = .ok (.iload_n 1, 1) := by decide +kernel
theorem dX4_findFlows_10 : decode cX4_findFlows 10 = .ok (.aload_n 0, 1) := by decide +kernel
theorem dX4_findFlows_11 : decode cX4_findFlows 11 = .ok (.getfield 23, 3) := by decide +kernel
theorem dX4_findFlows_14 : decode cX4_findFlows 14 = .ok (.invokevirtual 57, 3) := by decide +kernel
theorem dX4_findFlows_17 : decode cX4_findFlows 17 = .ok (.if_icmp .ge 40, 3) := by decide +kernel
theorem dX4_findFlows_20 : decode cX4_findFlows 20 = .ok (.aload_n 0, 1) := by decide +kernel
theorem dX4_findFlows_21 : decode cX4_findFlows 21 = .ok (.getfield 23, 3) := by decide +kernel
theorem dX4_findFlows_24 : decode cX4_findFlows 24 = .ok (.iload_n 1, 1) := by decide +kernel
theorem dX4_findFlows_25 : decode cX4_findFlows 25 = .ok (.invokevirtual 103, 3) := by decide +kernel
theorem dX4_findFlows_28 : decode cX4_findFlows 28 = .ok (.checkcast 66, 3) := by decide +kernel
theorem dX4_findFlows_31 : decode cX4_findFlows 31 = .ok (.astore_n 2, 1) := by decide +kernel
theorem dX4_findFlows_32 : decode cX4_findFlows 32 = .ok (.aload_n 2, 1) := by decide +kernel
theorem dX4_findFlows_33 : decode cX4_findFlows 33 = .ok (.aload_n 0, 1) := by decide +kernel
theorem dX4_findFlows_34 : decode cX4_findFlows 34 = .ok (.getfield 19, 3) := by decide +kernel
theorem dX4_findFlows_37 : decode cX4_findFlows 37 = .ok (.aload_n 2, 1) := by decide +kernel
theorem dX4_findFlows_38 : decode cX4_findFlows 38 = .ok (.getfield 211, 3) := by decide +kernel
theorem dX4_findFlows_41 : decode cX4_findFlows 41 = .ok (.aload_n 2, 1) := by decide +kernel
theorem dX4_findFlows_42 : decode cX4_findFlows 42 = .ok (.getfield 237, 3) := by decide +kernel
theorem dX4_findFlows_45 : decode cX4_findFlows 45 = .ok (.invokevirtual 214, 3) := by decide +kernel
theorem dX4_findFlows_48 : decode cX4_findFlows 48 = .ok (.putfield 160, 3) := by decide +kernel
theorem dX4_findFlows_51 : decode cX4_findFlows 51 = .ok (.iinc 1 1, 3) := by decide +kernel
theorem dX4_findFlows_54 : decode cX4_findFlows 54 = .ok (.goto (-45), 3) := by decide +kernel
theorem dX4_findFlows_57 : decode cX4_findFlows 57 = .ok (.return_, 1) := by decide +kernel
theorem dX4_together_0 : decode cX4_together 0 = .ok (.aload_n 0, 1) := by decide +kernel
theorem dX4_together_1 : decode cX4_together 1 = .ok (.getfield 19, 3) := by decide +kernel
theorem dX4_together_4 : decode cX4_together 4 = .ok (.invokevirtual 208, 3) := by decide +kernel
theorem dX4_together_7 : decode cX4_together 7 = .ok (.iconst 0, 1) := by decide +kernel
theorem dX4_together_8 : decode cX4_together 8 = .ok (.istore_n 2, 1) := by decide +kernel
theorem dX4_together_9 : decode cX4_together 9 = .ok (.iconst 0, 1) := by decide +kernel
theorem dX4_together_10 : decode cX4_together 10 = .ok (.istore_n 3, 1) := by decide +kernel
theorem dX4_together_11 : decode cX4_together 11 = .ok (.iload_n 3, 1) := by decide +kernel
theorem dX4_together_12 : decode cX4_together 12 = .ok (.iload_n 1, 1) := by decide +kernel
theorem dX4_together_13 : decode cX4_together 13 = .ok (.if_icmp .ge 53, 3) := by decide +kernel
theorem dX4_together_16 : decode cX4_together 16 = .ok (.iload_n 3, 1) := by decide +kernel
theorem dX4_together_17 : decode cX4_together 17 = .ok (.aload_n 0, 1) := by decide +kernel
theorem dX4_together_18 : decode cX4_together 18 = .ok (.getfield 23, 3) := by decide +kernel
theorem dX4_together_21 : decode cX4_together 21 = .ok (.invokevirtual 57, 3) := by decide +kernel
theorem dX4_together_24 : decode cX4_together 24 = .ok (.if_icmp .ge 42, 3) := by decide +kernel
theorem dX4_together_27 : decode cX4_together 27 = .ok (.aload_n 0, 1) := by decide +kernel
theorem dX4_together_28 : decode cX4_together 28 = .ok (.getfield 23, 3) := by decide +kernel
theorem dX4_together_31 : decode cX4_together 31 = .ok (.iload_n 3, 1) := by decide +kernel
theorem dX4_together_32 : decode cX4_together 32 = .ok (.invokevirtual 103, 3) := by decide +kernel
theorem dX4_together_35 : decode cX4_together 35 = .ok (.checkcast 66, 3) := by decide +kernel
theorem dX4_together_38 : decode cX4_together 38 = .ok (.astore 4, 2) := by decide +kernel
theorem dX4_together_40 : decode cX4_together 40 = .ok (.iload_n 2, 1) := by decide +kernel
theorem dX4_together_41 : decode cX4_together 41 = .ok (.aload_n 0, 1) := by decide +kernel
theorem dX4_together_42 : decode cX4_together 42 = .ok (.getfield 19, 3) := by decide +kernel
theorem dX4_together_45 : decode cX4_together 45 = .ok (.aload 4, 2) := by decide +kernel
theorem dX4_together_47 : decode cX4_together 47 = .ok (.getfield 211, 3) := by decide +kernel
theorem dX4_together_50 : decode cX4_together 50 = .ok (.aload 4, 2) := by decide +kernel
theorem dX4_together_52 : decode cX4_together 52 = .ok (.getfield 237, 3) := by decide +kernel
theorem dX4_together_55 : decode cX4_together 55 = .ok (.invokevirtual 214, 3) := by decide +kernel
theorem dX4_together_58 : decode cX4_together 58 = .ok (.iadd, 1) := by decide +kernel
theorem dX4_together_59 : decode cX4_together 59 = .ok (.istore_n 2, 1) := by decide +kernel
theorem dX4_together_60 : decode cX4_together 60 = .ok (.iinc 3 1, 3) := by decide +kernel
theorem dX4_together_63 : decode cX4_together 63 = .ok (.goto (-52), 3) := by decide +kernel
theorem dX4_together_66 : decode cX4_together 66 = .ok (.iload_n 2, 1) := by decide +kernel
theorem dX4_together_67 : decode cX4_together 67 = .ok (.ireturn, 1) := by decide +kernel
theorem dX4_sumGot_0 : decode cX4_sumGot 0 = .ok (.iconst 0, 1) := by decide +kernel
theorem dX4_sumGot_1 : decode cX4_sumGot 1 = .ok (.istore_n 1, 1) := by decide +kernel
theorem dX4_sumGot_2 : decode cX4_sumGot 2 = .ok (.iconst 0, 1) := by decide +kernel
theorem dX4_sumGot_3 : decode cX4_sumGot 3 = .ok (.istore_n 2, 1) := by decide +kernel
theorem dX4_sumGot_4 : decode cX4_sumGot 4 = .ok (.iload_n 2, 1) := by decide +kernel
theorem dX4_sumGot_5 : decode cX4_sumGot 5 = .ok (.aload_n 0, 1) := by decide +kernel
theorem dX4_sumGot_6 : decode cX4_sumGot 6 = .ok (.getfield 12, 3) := by decide +kernel
theorem dX4_sumGot_9 : decode cX4_sumGot 9 = .ok (.invokevirtual 57, 3) := by decide +kernel
theorem dX4_sumGot_12 : decode cX4_sumGot 12 = .ok (.if_icmp .ge 26, 3) := by decide +kernel
theorem dX4_sumGot_15 : decode cX4_sumGot 15 = .ok (.iload_n 1, 1) := by decide +kernel
theorem dX4_sumGot_16 : decode cX4_sumGot 16 = .ok (.aload_n 0, 1) := by decide +kernel
theorem dX4_sumGot_17 : decode cX4_sumGot 17 = .ok (.getfield 12, 3) := by decide +kernel
theorem dX4_sumGot_20 : decode cX4_sumGot 20 = .ok (.iload_n 2, 1) := by decide +kernel
theorem dX4_sumGot_21 : decode cX4_sumGot 21 = .ok (.invokevirtual 103, 3) := by decide +kernel
theorem dX4_sumGot_24 : decode cX4_sumGot 24 = .ok (.checkcast 66, 3) := by decide +kernel
theorem dX4_sumGot_27 : decode cX4_sumGot 27 = .ok (.getfield 160, 3) := by decide +kernel
theorem dX4_sumGot_30 : decode cX4_sumGot 30 = .ok (.iadd, 1) := by decide +kernel
theorem dX4_sumGot_31 : decode cX4_sumGot 31 = .ok (.istore_n 1, 1) := by decide +kernel
theorem dX4_sumGot_32 : decode cX4_sumGot 32 = .ok (.iinc 2 1, 3) := by decide +kernel
theorem dX4_sumGot_35 : decode cX4_sumGot 35 = .ok (.goto (-31), 3) := by decide +kernel
theorem dX4_sumGot_38 : decode cX4_sumGot 38 = .ok (.iload_n 1, 1) := by decide +kernel
theorem dX4_sumGot_39 : decode cX4_sumGot 39 = .ok (.ireturn, 1) := by decide +kernel
theorem dX4_sumWater_0 : decode cX4_sumWater 0 = .ok (.iconst 0, 1) := by decide +kernel
theorem dX4_sumWater_1 : decode cX4_sumWater 1 = .ok (.istore_n 1, 1) := by decide +kernel
theorem dX4_sumWater_2 : decode cX4_sumWater 2 = .ok (.iconst 0, 1) := by decide +kernel
theorem dX4_sumWater_3 : decode cX4_sumWater 3 = .ok (.istore_n 2, 1) := by decide +kernel
theorem dX4_sumWater_4 : decode cX4_sumWater 4 = .ok (.iload_n 2, 1) := by decide +kernel
theorem dX4_sumWater_5 : decode cX4_sumWater 5 = .ok (.aload_n 0, 1) := by decide +kernel
theorem dX4_sumWater_6 : decode cX4_sumWater 6 = .ok (.getfield 12, 3) := by decide +kernel
theorem dX4_sumWater_9 : decode cX4_sumWater 9 = .ok (.invokevirtual 57, 3) := by decide +kernel
theorem dX4_sumWater_12 : decode cX4_sumWater 12 = .ok (.if_icmp .ge 26, 3) := by decide +kernel
theorem dX4_sumWater_15 : decode cX4_sumWater 15 = .ok (.iload_n 1, 1) := by decide +kernel
theorem dX4_sumWater_16 : decode cX4_sumWater 16 = .ok (.aload_n 0, 1) := by decide +kernel
theorem dX4_sumWater_17 : decode cX4_sumWater 17 = .ok (.getfield 12, 3) := by decide +kernel
theorem dX4_sumWater_20 : decode cX4_sumWater 20 = .ok (.iload_n 2, 1) := by decide +kernel
theorem dX4_sumWater_21 : decode cX4_sumWater 21 = .ok (.invokevirtual 103, 3) := by decide +kernel
theorem dX4_sumWater_24 : decode cX4_sumWater 24 = .ok (.checkcast 66, 3) := by decide +kernel
theorem dX4_sumWater_27 : decode cX4_sumWater 27 = .ok (.getfield 175, 3) := by decide +kernel
theorem dX4_sumWater_30 : decode cX4_sumWater 30 = .ok (.iadd, 1) := by decide +kernel
theorem dX4_sumWater_31 : decode cX4_sumWater 31 = .ok (.istore_n 1, 1) := by decide +kernel
theorem dX4_sumWater_32 : decode cX4_sumWater 32 = .ok (.iinc 2 1, 3) := by decide +kernel
theorem dX4_sumWater_35 : decode cX4_sumWater 35 = .ok (.goto (-31), 3) := by decide +kernel
theorem dX4_sumWater_38 : decode cX4_sumWater 38 = .ok (.iload_n 1, 1) := by decide +kernel
theorem dX4_sumWater_39 : decode cX4_sumWater 39 = .ok (.ireturn, 1) := by decide +kernel
theorem dX4_sumPaidLessPaidBack_0 : decode cX4_sumPaidLessPaidBack 0 = .ok (.iconst 0, 1) := by decide +kernel
theorem dX4_sumPaidLessPaidBack_1 : decode cX4_sumPaidLessPaidBack 1 = .ok (.istore_n 1, 1) := by decide +kernel
theorem dX4_sumPaidLessPaidBack_2 : decode cX4_sumPaidLessPaidBack 2 = .ok (.iconst 0, 1) := by decide +kernel
theorem dX4_sumPaidLessPaidBack_3 : decode cX4_sumPaidLessPaidBack 3 = .ok (.istore_n 2, 1) := by decide +kernel
theorem dX4_sumPaidLessPaidBack_4 : decode cX4_sumPaidLessPaidBack 4 = .ok (.iload_n 2, 1) := by decide +kernel
theorem dX4_sumPaidLessPaidBack_5 : decode cX4_sumPaidLessPaidBack 5 = .ok (.aload_n 0, 1) := by decide +kernel
theorem dX4_sumPaidLessPaidBack_6 : decode cX4_sumPaidLessPaidBack 6 = .ok (.getfield 12, 3) := by decide +kernel
theorem dX4_sumPaidLessPaidBack_9 : decode cX4_sumPaidLessPaidBack 9 = .ok (.invokevirtual 57, 3) := by decide +kernel
theorem dX4_sumPaidLessPaidBack_12 : decode cX4_sumPaidLessPaidBack 12 = .ok (.if_icmp .ge 33, 3) := by decide +kernel
theorem dX4_sumPaidLessPaidBack_15 : decode cX4_sumPaidLessPaidBack 15 = .ok (.aload_n 0, 1) := by decide +kernel
theorem dX4_sumPaidLessPaidBack_16 : decode cX4_sumPaidLessPaidBack 16 = .ok (.getfield 12, 3) := by decide +kernel
theorem dX4_sumPaidLessPaidBack_19 : decode cX4_sumPaidLessPaidBack 19 = .ok (.iload_n 2, 1) := by decide +kernel
theorem dX4_sumPaidLessPaidBack_20 : decode cX4_sumPaidLessPaidBack 20 = .ok (.invokevirtual 103, 3) := by decide +kernel
theorem dX4_sumPaidLessPaidBack_23 : decode cX4_sumPaidLessPaidBack 23 = .ok (.checkcast 66, 3) := by decide +kernel
theorem dX4_sumPaidLessPaidBack_26 : decode cX4_sumPaidLessPaidBack 26 = .ok (.astore_n 3, 1) := by decide +kernel
theorem dX4_sumPaidLessPaidBack_27 : decode cX4_sumPaidLessPaidBack 27 = .ok (.iload_n 1, 1) := by decide +kernel
theorem dX4_sumPaidLessPaidBack_28 : decode cX4_sumPaidLessPaidBack 28 = .ok (.aload_n 3, 1) := by decide +kernel
theorem dX4_sumPaidLessPaidBack_29 : decode cX4_sumPaidLessPaidBack 29 = .ok (.getfield 181, 3) := by decide +kernel
theorem dX4_sumPaidLessPaidBack_32 : decode cX4_sumPaidLessPaidBack 32 = .ok (.aload_n 3, 1) := by decide +kernel
theorem dX4_sumPaidLessPaidBack_33 : decode cX4_sumPaidLessPaidBack 33 = .ok (.getfield 184, 3) := by decide +kernel
theorem dX4_sumPaidLessPaidBack_36 : decode cX4_sumPaidLessPaidBack 36 = .ok (.isub, 1) := by decide +kernel
theorem dX4_sumPaidLessPaidBack_37 : decode cX4_sumPaidLessPaidBack 37 = .ok (.iadd, 1) := by decide +kernel
theorem dX4_sumPaidLessPaidBack_38 : decode cX4_sumPaidLessPaidBack 38 = .ok (.istore_n 1, 1) := by decide +kernel
theorem dX4_sumPaidLessPaidBack_39 : decode cX4_sumPaidLessPaidBack 39 = .ok (.iinc 2 1, 3) := by decide +kernel
theorem dX4_sumPaidLessPaidBack_42 : decode cX4_sumPaidLessPaidBack 42 = .ok (.goto (-38), 3) := by decide +kernel
theorem dX4_sumPaidLessPaidBack_45 : decode cX4_sumPaidLessPaidBack 45 = .ok (.iload_n 1, 1) := by decide +kernel
theorem dX4_sumPaidLessPaidBack_46 : decode cX4_sumPaidLessPaidBack 46 = .ok (.ireturn, 1) := by decide +kernel
end
section
theorem dX5_init_0 : decode cX5_init 0 = .ok (.aload_n 0, 1) := by decide +kernel
theorem dX5_init_1 : decode cX5_init 1 = .ok (.invokespecial 1, 3) := by decide +kernel
theorem dX5_init_4 : decode cX5_init 4 = .ok (.aload_n 0, 1) := by decide +kernel
theorem dX5_init_5 : decode cX5_init 5 = .ok (.bipush 8, 2) := by decide +kernel
theorem dX5_init_7 : decode cX5_init 7 = .ok (.newarray .int, 2) := by decide +kernel
theorem dX5_init_9 : decode cX5_init 9 = .ok (.putfield 7, 3) := by decide +kernel
theorem dX5_init_12 : decode cX5_init 12 = .ok (.aload_n 0, 1) := by decide +kernel
theorem dX5_init_13 : decode cX5_init 13 = .ok (.bipush 8, 2) := by decide +kernel
theorem dX5_init_15 : decode cX5_init 15 = .ok (.newarray .int, 2) := by decide +kernel
theorem dX5_init_17 : decode cX5_init 17 = .ok (.putfield 13, 3) := by decide +kernel
theorem dX5_init_20 : decode cX5_init 20 = .ok (.aload_n 0, 1) := by decide +kernel
theorem dX5_init_21 : decode cX5_init 21 = .ok (.bipush 8, 2) := by decide +kernel
theorem dX5_init_23 : decode cX5_init 23 = .ok (.newarray .int, 2) := by decide +kernel
theorem dX5_init_25 : decode cX5_init 25 = .ok (.putfield 16, 3) := by decide +kernel
theorem dX5_init_28 : decode cX5_init 28 = .ok (.aload_n 0, 1) := by decide +kernel
theorem dX5_init_29 : decode cX5_init 29 = .ok (.bipush 8, 2) := by decide +kernel
theorem dX5_init_31 : decode cX5_init 31 = .ok (.newarray .int, 2) := by decide +kernel
theorem dX5_init_33 : decode cX5_init 33 = .ok (.putfield 19, 3) := by decide +kernel
theorem dX5_init_36 : decode cX5_init 36 = .ok (.aload_n 0, 1) := by decide +kernel
theorem dX5_init_37 : decode cX5_init 37 = .ok (.bipush 8, 2) := by decide +kernel
theorem dX5_init_39 : decode cX5_init 39 = .ok (.newarray .int, 2) := by decide +kernel
theorem dX5_init_41 : decode cX5_init 41 = .ok (.putfield 22, 3) := by decide +kernel
theorem dX5_init_44 : decode cX5_init 44 = .ok (.aload_n 0, 1) := by decide +kernel
theorem dX5_init_45 : decode cX5_init 45 = .ok (.bipush 8, 2) := by decide +kernel
theorem dX5_init_47 : decode cX5_init 47 = .ok (.newarray .int, 2) := by decide +kernel
theorem dX5_init_49 : decode cX5_init 49 = .ok (.putfield 25, 3) := by decide +kernel
theorem dX5_init_52 : decode cX5_init 52 = .ok (.aload_n 0, 1) := by decide +kernel
theorem dX5_init_53 : decode cX5_init 53 = .ok (.bipush 8, 2) := by decide +kernel
theorem dX5_init_55 : decode cX5_init 55 = .ok (.newarray .boolean, 2) := by decide +kernel
theorem dX5_init_57 : decode cX5_init 57 = .ok (.putfield 28, 3) := by decide +kernel
theorem dX5_init_60 : decode cX5_init 60 = .ok (.aload_n 0, 1) := by decide +kernel
theorem dX5_init_61 : decode cX5_init 61 = .ok (.bipush 8, 2) := by decide +kernel
theorem dX5_init_63 : decode cX5_init 63 = .ok (.newarray .int, 2) := by decide +kernel
theorem dX5_init_65 : decode cX5_init 65 = .ok (.putfield 32, 3) := by decide +kernel
theorem dX5_init_68 : decode cX5_init 68 = .ok (.aload_n 0, 1) := by decide +kernel
theorem dX5_init_69 : decode cX5_init 69 = .ok (.bipush 8, 2) := by decide +kernel
theorem dX5_init_71 : decode cX5_init 71 = .ok (.newarray .int, 2) := by decide +kernel
theorem dX5_init_73 : decode cX5_init 73 = .ok (.putfield 35, 3) := by decide +kernel
theorem dX5_init_76 : decode cX5_init 76 = .ok (.aload_n 0, 1) := by decide +kernel
theorem dX5_init_77 : decode cX5_init 77 = .ok (.bipush 8, 2) := by decide +kernel
theorem dX5_init_79 : decode cX5_init 79 = .ok (.newarray .int, 2) := by decide +kernel
theorem dX5_init_81 : decode cX5_init 81 = .ok (.putfield 38, 3) := by decide +kernel
theorem dX5_init_84 : decode cX5_init 84 = .ok (.aload_n 0, 1) := by decide +kernel
theorem dX5_init_85 : decode cX5_init 85 = .ok (.bipush 8, 2) := by decide +kernel
theorem dX5_init_87 : decode cX5_init 87 = .ok (.newarray .boolean, 2) := by decide +kernel
theorem dX5_init_89 : decode cX5_init 89 = .ok (.putfield 41, 3) := by decide +kernel
theorem dX5_init_92 : decode cX5_init 92 = .ok (.aload_n 0, 1) := by decide +kernel
theorem dX5_init_93 : decode cX5_init 93 = .ok (.bipush 8, 2) := by decide +kernel
theorem dX5_init_95 : decode cX5_init 95 = .ok (.newarray .boolean, 2) := by decide +kernel
theorem dX5_init_97 : decode cX5_init 97 = .ok (.putfield 44, 3) := by decide +kernel
theorem dX5_init_100 : decode cX5_init 100 = .ok (.aload_n 0, 1) := by decide +kernel
theorem dX5_init_101 : decode cX5_init 101 = .ok (.bipush 8, 2) := by decide +kernel
theorem dX5_init_103 : decode cX5_init 103 = .ok (.newarray .int, 2) := by decide +kernel
theorem dX5_init_105 : decode cX5_init 105 = .ok (.putfield 47, 3) := by decide +kernel
theorem dX5_init_108 : decode cX5_init 108 = .ok (.aload_n 0, 1) := by decide +kernel
theorem dX5_init_109 : decode cX5_init 109 = .ok (.bipush 8, 2) := by decide +kernel
theorem dX5_init_111 : decode cX5_init 111 = .ok (.newarray .int, 2) := by decide +kernel
theorem dX5_init_113 : decode cX5_init 113 = .ok (.putfield 50, 3) := by decide +kernel
theorem dX5_init_116 : decode cX5_init 116 = .ok (.aload_n 0, 1) := by decide +kernel
theorem dX5_init_117 : decode cX5_init 117 = .ok (.bipush 8, 2) := by decide +kernel
theorem dX5_init_119 : decode cX5_init 119 = .ok (.newarray .int, 2) := by decide +kernel
theorem dX5_init_121 : decode cX5_init 121 = .ok (.putfield 53, 3) := by decide +kernel
theorem dX5_init_124 : decode cX5_init 124 = .ok (.aload_n 0, 1) := by decide +kernel
theorem dX5_init_125 : decode cX5_init 125 = .ok (.bipush 8, 2) := by decide +kernel
theorem dX5_init_127 : decode cX5_init 127 = .ok (.newarray .int, 2) := by decide +kernel
theorem dX5_init_129 : decode cX5_init 129 = .ok (.putfield 56, 3) := by decide +kernel
theorem dX5_init_132 : decode cX5_init 132 = .ok (.aload_n 0, 1) := by decide +kernel
theorem dX5_init_133 : decode cX5_init 133 = .ok (.bipush 8, 2) := by decide +kernel
theorem dX5_init_135 : decode cX5_init 135 = .ok (.newarray .int, 2) := by decide +kernel
theorem dX5_init_137 : decode cX5_init 137 = .ok (.putfield 59, 3) := by decide +kernel
theorem dX5_init_140 : decode cX5_init 140 = .ok (.aload_n 0, 1) := by decide +kernel
theorem dX5_init_141 : decode cX5_init 141 = .ok (.bipush 8, 2) := by decide +kernel
theorem dX5_init_143 : decode cX5_init 143 = .ok (.newarray .int, 2) := by decide +kernel
theorem dX5_init_145 : decode cX5_init 145 = .ok (.putfield 62, 3) := by decide +kernel
theorem dX5_init_148 : decode cX5_init 148 = .ok (.aload_n 0, 1) := by decide +kernel
theorem dX5_init_149 : decode cX5_init 149 = .ok (.bipush 24, 2) := by decide +kernel
theorem dX5_init_151 : decode cX5_init 151 = .ok (.newarray .int, 2) := by decide +kernel
theorem dX5_init_153 : decode cX5_init 153 = .ok (.putfield 65, 3) := by decide +kernel
theorem dX5_init_156 : decode cX5_init 156 = .ok (.aload_n 0, 1) := by decide +kernel
theorem dX5_init_157 : decode cX5_init 157 = .ok (.bipush 24, 2) := by decide +kernel
theorem dX5_init_159 : decode cX5_init 159 = .ok (.newarray .int, 2) := by decide +kernel
theorem dX5_init_161 : decode cX5_init 161 = .ok (.putfield 68, 3) := by decide +kernel
theorem dX5_init_164 : decode cX5_init 164 = .ok (.aload_n 0, 1) := by decide +kernel
theorem dX5_init_165 : decode cX5_init 165 = .ok (.bipush 24, 2) := by decide +kernel
theorem dX5_init_167 : decode cX5_init 167 = .ok (.newarray .int, 2) := by decide +kernel
theorem dX5_init_169 : decode cX5_init 169 = .ok (.putfield 71, 3) := by decide +kernel
theorem dX5_init_172 : decode cX5_init 172 = .ok (.aload_n 0, 1) := by decide +kernel
theorem dX5_init_173 : decode cX5_init 173 = .ok (.bipush 24, 2) := by decide +kernel
theorem dX5_init_175 : decode cX5_init 175 = .ok (.newarray .boolean, 2) := by decide +kernel
theorem dX5_init_177 : decode cX5_init 177 = .ok (.putfield 74, 3) := by decide +kernel
theorem dX5_init_180 : decode cX5_init 180 = .ok (.aload_n 0, 1) := by decide +kernel
theorem dX5_init_181 : decode cX5_init 181 = .ok (.bipush 24, 2) := by decide +kernel
theorem dX5_init_183 : decode cX5_init 183 = .ok (.newarray .int, 2) := by decide +kernel
theorem dX5_init_185 : decode cX5_init 185 = .ok (.putfield 77, 3) := by decide +kernel
theorem dX5_init_188 : decode cX5_init 188 = .ok (.aload_n 0, 1) := by decide +kernel
theorem dX5_init_189 : decode cX5_init 189 = .ok (.bipush 9, 2) := by decide +kernel
theorem dX5_init_191 : decode cX5_init 191 = .ok (.newarray .int, 2) := by decide +kernel
theorem dX5_init_193 : decode cX5_init 193 = .ok (.putfield 80, 3) := by decide +kernel
theorem dX5_init_196 : decode cX5_init 196 = .ok (.aload_n 0, 1) := by decide +kernel
theorem dX5_init_197 : decode cX5_init 197 = .ok (.bipush 9, 2) := by decide +kernel
theorem dX5_init_199 : decode cX5_init 199 = .ok (.newarray .int, 2) := by decide +kernel
theorem dX5_init_201 : decode cX5_init 201 = .ok (.putfield 83, 3) := by decide +kernel
theorem dX5_init_204 : decode cX5_init 204 = .ok (.aload_n 0, 1) := by decide +kernel
theorem dX5_init_205 : decode cX5_init 205 = .ok (.bipush 8, 2) := by decide +kernel
theorem dX5_init_207 : decode cX5_init 207 = .ok (.newarray .int, 2) := by decide +kernel
theorem dX5_init_209 : decode cX5_init 209 = .ok (.putfield 86, 3) := by decide +kernel
theorem dX5_init_212 : decode cX5_init 212 = .ok (.return_, 1) := by decide +kernel
theorem dX5_thrown_0 : decode cX5_thrown 0 = .ok (.aload_n 0, 1) := by decide +kernel
theorem dX5_thrown_1 : decode cX5_thrown 1 = .ok (.getfield 89, 3) := by decide +kernel
theorem dX5_thrown_4 : decode cX5_thrown 4 = .ok (.ireturn, 1) := by decide +kernel
theorem dX5_can_0 : decode cX5_can 0 = .ok (.aload_n 0, 1) := by decide +kernel
theorem dX5_can_1 : decode cX5_can 1 = .ok (.iload_n 1, 1) := by decide +kernel
theorem dX5_can_2 : decode cX5_can 2 = .ok (.putfield 89, 3) := by decide +kernel
theorem dX5_can_5 : decode cX5_can 5 = .ok (.iload_n 1, 1) := by decide +kernel
theorem dX5_can_6 : decode cX5_can 6 = .ok (.ifCond .ne 7, 3) := by decide +kernel
theorem dX5_can_9 : decode cX5_can 9 = .ok (.iconst 1, 1) := by decide +kernel
theorem dX5_can_10 : decode cX5_can 10 = .ok (.goto 4, 3) := by decide +kernel
theorem dX5_can_13 : decode cX5_can 13 = .ok (.iconst 0, 1) := by decide +kernel
theorem dX5_can_14 : decode cX5_can 14 = .ok (.ireturn, 1) := by decide +kernel
theorem dX5_isIn_0 : decode cX5_isIn 0 = .ok (.iload_n 0, 1) := by decide +kernel
theorem dX5_isIn_1 : decode cX5_isIn 1 = .ok (.iload_n 1, 1) := by decide +kernel
theorem dX5_isIn_2 : decode cX5_isIn 2 = .ok (.if_icmp .lt 12, 3) := by decide +kernel
theorem dX5_isIn_5 : decode cX5_isIn 5 = .ok (.iload_n 0, 1) := by decide +kernel
theorem dX5_isIn_6 : decode cX5_isIn 6 = .ok (.iload_n 2, 1) := by decide +kernel
theorem dX5_isIn_7 : decode cX5_isIn 7 = .ok (.if_icmp .gt 7, 3) := by decide +kernel
theorem dX5_isIn_10 : decode cX5_isIn 10 = .ok (.iconst 1, 1) := by decide +kernel
theorem dX5_isIn_11 : decode cX5_isIn 11 = .ok (.goto 4, 3) := by decide +kernel
theorem dX5_isIn_14 : decode cX5_isIn 14 = .ok (.iconst 0, 1) := by decide +kernel
theorem dX5_isIn_15 : decode cX5_isIn 15 = .ok (.ireturn, 1) := by decide +kernel
theorem dX5_isDistrict_0 : decode cX5_isDistrict 0 = .ok (.iload_n 1, 1) := by decide +kernel
theorem dX5_isDistrict_1 : decode cX5_isDistrict 1 = .ok (.iconst 0, 1) := by decide +kernel
theorem dX5_isDistrict_2 : decode cX5_isDistrict 2 = .ok (.aload_n 0, 1) := by decide +kernel
theorem dX5_isDistrict_3 : decode cX5_isDistrict 3 = .ok (.getfield 93, 3) := by decide +kernel
theorem dX5_isDistrict_6 : decode cX5_isDistrict 6 = .ok (.iconst 1, 1) := by decide +kernel
theorem dX5_isDistrict_7 : decode cX5_isDistrict 7 = .ok (.isub, 1) := by decide +kernel
theorem dX5_isDistrict_8 : decode cX5_isDistrict 8 = .ok (.invokestatic 96, 3) := by decide +kernel
theorem dX5_isDistrict_11 : decode cX5_isDistrict 11 = .ok (.ireturn, 1) := by decide +kernel
theorem dX5_isPipe_0 : decode cX5_isPipe 0 = .ok (.iload_n 1, 1) := by decide +kernel
theorem dX5_isPipe_1 : decode cX5_isPipe 1 = .ok (.iconst 0, 1) := by decide +kernel
theorem dX5_isPipe_2 : decode cX5_isPipe 2 = .ok (.aload_n 0, 1) := by decide +kernel
theorem dX5_isPipe_3 : decode cX5_isPipe 3 = .ok (.getfield 100, 3) := by decide +kernel
theorem dX5_isPipe_6 : decode cX5_isPipe 6 = .ok (.iconst 1, 1) := by decide +kernel
theorem dX5_isPipe_7 : decode cX5_isPipe 7 = .ok (.isub, 1) := by decide +kernel
theorem dX5_isPipe_8 : decode cX5_isPipe 8 = .ok (.invokestatic 96, 3) := by decide +kernel
theorem dX5_isPipe_11 : decode cX5_isPipe 11 = .ok (.ireturn, 1) := by decide +kernel
theorem dX5_lesser_0 : decode cX5_lesser 0 = .ok (.iload_n 0, 1) := by decide +kernel
theorem dX5_lesser_1 : decode cX5_lesser 1 = .ok (.iload_n 1, 1) := by decide +kernel
theorem dX5_lesser_2 : decode cX5_lesser 2 = .ok (.if_icmp .ge 7, 3) := by decide +kernel
theorem dX5_lesser_5 : decode cX5_lesser 5 = .ok (.iload_n 0, 1) := by decide +kernel
theorem dX5_lesser_6 : decode cX5_lesser 6 = .ok (.goto 4, 3) := by decide +kernel
theorem dX5_lesser_9 : decode cX5_lesser 9 = .ok (.iload_n 1, 1) := by decide +kernel
theorem dX5_lesser_10 : decode cX5_lesser 10 = .ok (.ireturn, 1) := by decide +kernel
theorem dX5_district_0 : decode cX5_district 0 = .ok (.iload_n 1, 1) := by decide +kernel
theorem dX5_district_1 : decode cX5_district 1 = .ok (.iconst 0, 1) := by decide +kernel
theorem dX5_district_2 : decode cX5_district 2 = .ok (.sipush 9999, 3) := by decide +kernel
theorem dX5_district_5 : decode cX5_district 5 = .ok (.invokestatic 96, 3) := by decide +kernel
theorem dX5_district_8 : decode cX5_district 8 = .ok (.ifCond .eq 18, 3) := by decide +kernel
theorem dX5_district_11 : decode cX5_district 11 = .ok (.iload_n 2, 1) := by decide +kernel
theorem dX5_district_12 : decode cX5_district 12 = .ok (.iconst 0, 1) := by decide +kernel
theorem dX5_district_13 : decode cX5_district 13 = .ok (.sipush 999, 3) := by decide +kernel
theorem dX5_district_16 : decode cX5_district 16 = .ok (.invokestatic 96, 3) := by decide +kernel
theorem dX5_district_19 : decode cX5_district 19 = .ok (.ifCond .eq 7, 3) := by decide +kernel
theorem dX5_district_22 : decode cX5_district 22 = .ok (.iconst 1, 1) := by decide +kernel
theorem dX5_district_23 : decode cX5_district 23 = .ok (.goto 4, 3) := by decide +kernel
theorem dX5_district_26 : decode cX5_district 26 = .ok (.iconst 0, 1) := by decide +kernel
theorem dX5_district_27 : decode cX5_district 27 = .ok (.istore_n 3, 1) := by decide +kernel
theorem dX5_district_28 : decode cX5_district 28 = .ok (.aload_n 0, 1) := by decide +kernel
theorem dX5_district_29 : decode cX5_district 29 = .ok (.iload_n 3, 1) := by decide +kernel
theorem dX5_district_30 : decode cX5_district 30 = .ok (.ifCond .ne 7, 3) := by decide +kernel
theorem dX5_district_33 : decode cX5_district 33 = .ok (.iconst 1, 1) := by decide +kernel
theorem dX5_district_34 : decode cX5_district 34 = .ok (.goto 17, 3) := by decide +kernel
theorem dX5_district_37 : decode cX5_district 37 = .ok (.aload_n 0, 1) := by decide +kernel
theorem dX5_district_38 : decode cX5_district 38 = .ok (.getfield 93, 3) := by decide +kernel
theorem dX5_district_41 : decode cX5_district 41 = .ok (.bipush 8, 2) := by decide +kernel
theorem dX5_district_43 : decode cX5_district 43 = .ok (.if_icmp .ne 7, 3) := by decide +kernel
theorem dX5_district_46 : decode cX5_district 46 = .ok (.iconst 2, 1) := by decide +kernel
theorem dX5_district_47 : decode cX5_district 47 = .ok (.goto 4, 3) := by decide +kernel
theorem dX5_district_50 : decode cX5_district 50 = .ok (.iconst 0, 1) := by decide +kernel
theorem dX5_district_51 : decode cX5_district 51 = .ok (.invokevirtual 103, 3) := by decide +kernel
theorem dX5_district_54 : decode cX5_district 54 = .ok (.ifCond .ne 5, 3) := by decide +kernel
theorem dX5_district_57 : decode cX5_district 57 = .ok (.iconst 0, 1) := by decide +kernel
theorem dX5_district_58 : decode cX5_district 58 = .ok (.ireturn, 1) := by decide +kernel
theorem dX5_district_59 : decode cX5_district 59 = .ok (.aload_n 0, 1) := by decide +kernel
theorem dX5_district_60 : decode cX5_district 60 = .ok (.getfield 7, 3) := by decide +kernel
theorem dX5_district_63 : decode cX5_district 63 = .ok (.aload_n 0, 1) := by decide +kernel
theorem dX5_district_64 : decode cX5_district 64 = .ok (.getfield 93, 3) := by decide +kernel
theorem dX5_district_67 : decode cX5_district 67 = .ok (.iload_n 1, 1) := by decide +kernel
theorem dX5_district_68 : decode cX5_district 68 = .ok (.iastore, 1) := by decide +kernel
theorem dX5_district_69 : decode cX5_district 69 = .ok (.aload_n 0, 1) := by decide +kernel
theorem dX5_district_70 : decode cX5_district 70 = .ok (.getfield 13, 3) := by decide +kernel
theorem dX5_district_73 : decode cX5_district 73 = .ok (.aload_n 0, 1) := by decide +kernel
theorem dX5_district_74 : decode cX5_district 74 = .ok (.getfield 93, 3) := by decide +kernel
theorem dX5_district_77 : decode cX5_district 77 = .ok (.iload_n 2, 1) := by decide +kernel
theorem dX5_district_78 : decode cX5_district 78 = .ok (.iastore, 1) := by decide +kernel
theorem dX5_district_79 : decode cX5_district 79 = .ok (.aload_n 0, 1) := by decide +kernel
theorem dX5_district_80 : decode cX5_district 80 = .ok (.dup, 1) := by decide +kernel
theorem dX5_district_81 : decode cX5_district 81 = .ok (.getfield 93, 3) := by decide +kernel
theorem dX5_district_84 : decode cX5_district 84 = .ok (.iconst 1, 1) := by decide +kernel
theorem dX5_district_85 : decode cX5_district 85 = .ok (.iadd, 1) := by decide +kernel
theorem dX5_district_86 : decode cX5_district 86 = .ok (.putfield 93, 3) := by decide +kernel
theorem dX5_district_89 : decode cX5_district 89 = .ok (.aload_n 0, 1) := by decide +kernel
theorem dX5_district_90 : decode cX5_district 90 = .ok (.getfield 93, 3) := by decide +kernel
theorem dX5_district_93 : decode cX5_district 93 = .ok (.iconst 1, 1) := by decide +kernel
theorem dX5_district_94 : decode cX5_district 94 = .ok (.isub, 1) := by decide +kernel
theorem dX5_district_95 : decode cX5_district 95 = .ok (.ireturn, 1) := by decide +kernel
theorem dX5_pipe_0 : decode cX5_pipe 0 = .ok (.iload_n 1, 1) := by decide +kernel
theorem dX5_pipe_1 : decode cX5_pipe 1 = .ok (.iconst (-1), 1) := by decide +kernel
theorem dX5_pipe_2 : decode cX5_pipe 2 = .ok (.if_icmp .eq 11, 3) := by decide +kernel
theorem dX5_pipe_5 : decode cX5_pipe 5 = .ok (.aload_n 0, 1) := by decide +kernel
theorem dX5_pipe_6 : decode cX5_pipe 6 = .ok (.iload_n 1, 1) := by decide +kernel
theorem dX5_pipe_7 : decode cX5_pipe 7 = .ok (.invokevirtual 107, 3) := by decide +kernel
theorem dX5_pipe_10 : decode cX5_pipe 10 = .ok (.ifCond .eq 15, 3) := by decide +kernel
theorem dX5_pipe_13 : decode cX5_pipe 13 = .ok (.aload_n 0, 1) := by decide +kernel
theorem dX5_pipe_14 : decode cX5_pipe 14 = .ok (.iload_n 2, 1) := by decide +kernel
theorem dX5_pipe_15 : decode cX5_pipe 15 = .ok (.invokevirtual 107, 3) := by decide +kernel
theorem dX5_pipe_18 : decode cX5_pipe 18 = .ok (.ifCond .eq 7, 3) := by decide +kernel
theorem dX5_pipe_21 : decode cX5_pipe 21 = .ok (.iconst 1, 1) := by decide +kernel
theorem dX5_pipe_22 : decode cX5_pipe 22 = .ok (.goto 4, 3) := by decide +kernel
theorem dX5_pipe_25 : decode cX5_pipe 25 = .ok (.iconst 0, 1) := by decide +kernel
theorem dX5_pipe_26 : decode cX5_pipe 26 = .ok (.istore 4, 2) := by decide +kernel
theorem dX5_pipe_28 : decode cX5_pipe 28 = .ok (.iload_n 1, 1) := by decide +kernel
theorem dX5_pipe_29 : decode cX5_pipe 29 = .ok (.iload_n 2, 1) := by decide +kernel
theorem dX5_pipe_30 : decode cX5_pipe 30 = .ok (.if_icmp .eq 18, 3) := by decide +kernel
theorem dX5_pipe_33 : decode cX5_pipe 33 = .ok (.iload_n 3, 1) := by decide +kernel
theorem dX5_pipe_34 : decode cX5_pipe 34 = .ok (.iconst 1, 1) := by decide +kernel
theorem dX5_pipe_35 : decode cX5_pipe 35 = .ok (.sipush 999, 3) := by decide +kernel
theorem dX5_pipe_38 : decode cX5_pipe 38 = .ok (.invokestatic 96, 3) := by decide +kernel
theorem dX5_pipe_41 : decode cX5_pipe 41 = .ok (.ifCond .eq 7, 3) := by decide +kernel
theorem dX5_pipe_44 : decode cX5_pipe 44 = .ok (.iconst 1, 1) := by decide +kernel
theorem dX5_pipe_45 : decode cX5_pipe 45 = .ok (.goto 4, 3) := by decide +kernel
theorem dX5_pipe_48 : decode cX5_pipe 48 = .ok (.iconst 0, 1) := by decide +kernel
theorem dX5_pipe_49 : decode cX5_pipe 49 = .ok (.istore 5, 2) := by decide +kernel
theorem dX5_pipe_51 : decode cX5_pipe 51 = .ok (.aload_n 0, 1) := by decide +kernel
theorem dX5_pipe_52 : decode cX5_pipe 52 = .ok (.iload 4, 2) := by decide +kernel
theorem dX5_pipe_54 : decode cX5_pipe 54 = .ok (.ifCond .ne 7, 3) := by decide +kernel
theorem dX5_pipe_57 : decode cX5_pipe 57 = .ok (.iconst 1, 1) := by decide +kernel
theorem dX5_pipe_58 : decode cX5_pipe 58 = .ok (.goto 34, 3) := by decide +kernel
theorem dX5_pipe_61 : decode cX5_pipe 61 = .ok (.iload 5, 2) := by decide +kernel
theorem dX5_pipe_63 : decode cX5_pipe 63 = .ok (.ifCond .ne 7, 3) := by decide +kernel
theorem dX5_pipe_66 : decode cX5_pipe 66 = .ok (.iconst 2, 1) := by decide +kernel
theorem dX5_pipe_67 : decode cX5_pipe 67 = .ok (.goto 25, 3) := by decide +kernel
theorem dX5_pipe_70 : decode cX5_pipe 70 = .ok (.aload_n 0, 1) := by decide +kernel
theorem dX5_pipe_71 : decode cX5_pipe 71 = .ok (.getfield 100, 3) := by decide +kernel
theorem dX5_pipe_74 : decode cX5_pipe 74 = .ok (.bipush 24, 2) := by decide +kernel
theorem dX5_pipe_76 : decode cX5_pipe 76 = .ok (.if_icmp .eq 11, 3) := by decide +kernel
theorem dX5_pipe_79 : decode cX5_pipe 79 = .ok (.aload_n 0, 1) := by decide +kernel
theorem dX5_pipe_80 : decode cX5_pipe 80 = .ok (.getfield 110, 3) := by decide +kernel
theorem dX5_pipe_83 : decode cX5_pipe 83 = .ok (.iconst (-1), 1) := by decide +kernel
theorem dX5_pipe_84 : decode cX5_pipe 84 = .ok (.if_icmp .ne 7, 3) := by decide +kernel
theorem dX5_pipe_87 : decode cX5_pipe 87 = .ok (.iconst 3, 1) := by decide +kernel
theorem dX5_pipe_88 : decode cX5_pipe 88 = .ok (.goto 4, 3) := by decide +kernel
theorem dX5_pipe_91 : decode cX5_pipe 91 = .ok (.iconst 0, 1) := by decide +kernel
theorem dX5_pipe_92 : decode cX5_pipe 92 = .ok (.invokevirtual 103, 3) := by decide +kernel
theorem dX5_pipe_95 : decode cX5_pipe 95 = .ok (.ifCond .ne 5, 3) := by decide +kernel
theorem dX5_pipe_98 : decode cX5_pipe 98 = .ok (.iconst 0, 1) := by decide +kernel
theorem dX5_pipe_99 : decode cX5_pipe 99 = .ok (.ireturn, 1) := by decide +kernel
theorem dX5_pipe_100 : decode cX5_pipe 100 = .ok (.aload_n 0, 1) := by decide +kernel
theorem dX5_pipe_101 : decode cX5_pipe 101 = .ok (.getfield 65, 3) := by decide +kernel
theorem dX5_pipe_104 : decode cX5_pipe 104 = .ok (.aload_n 0, 1) := by decide +kernel
theorem dX5_pipe_105 : decode cX5_pipe 105 = .ok (.getfield 100, 3) := by decide +kernel
theorem dX5_pipe_108 : decode cX5_pipe 108 = .ok (.iload_n 1, 1) := by decide +kernel
theorem dX5_pipe_109 : decode cX5_pipe 109 = .ok (.iconst (-1), 1) := by decide +kernel
theorem dX5_pipe_110 : decode cX5_pipe 110 = .ok (.if_icmp .ne 8, 3) := by decide +kernel
theorem dX5_pipe_113 : decode cX5_pipe 113 = .ok (.bipush 8, 2) := by decide +kernel
theorem dX5_pipe_115 : decode cX5_pipe 115 = .ok (.goto 4, 3) := by decide +kernel
theorem dX5_pipe_118 : decode cX5_pipe 118 = .ok (.iload_n 1, 1) := by decide +kernel
theorem dX5_pipe_119 : decode cX5_pipe 119 = .ok (.iastore, 1) := by decide +kernel
theorem dX5_pipe_120 : decode cX5_pipe 120 = .ok (.aload_n 0, 1) := by decide +kernel
theorem dX5_pipe_121 : decode cX5_pipe 121 = .ok (.getfield 68, 3) := by decide +kernel
theorem dX5_pipe_124 : decode cX5_pipe 124 = .ok (.aload_n 0, 1) := by decide +kernel
theorem dX5_pipe_125 : decode cX5_pipe 125 = .ok (.getfield 100, 3) := by decide +kernel
theorem dX5_pipe_128 : decode cX5_pipe 128 = .ok (.iload_n 2, 1) := by decide +kernel
theorem dX5_pipe_129 : decode cX5_pipe 129 = .ok (.iastore, 1) := by decide +kernel
theorem dX5_pipe_130 : decode cX5_pipe 130 = .ok (.aload_n 0, 1) := by decide +kernel
theorem dX5_pipe_131 : decode cX5_pipe 131 = .ok (.getfield 71, 3) := by decide +kernel
theorem dX5_pipe_134 : decode cX5_pipe 134 = .ok (.aload_n 0, 1) := by decide +kernel
theorem dX5_pipe_135 : decode cX5_pipe 135 = .ok (.getfield 100, 3) := by decide +kernel
theorem dX5_pipe_138 : decode cX5_pipe 138 = .ok (.iload_n 3, 1) := by decide +kernel
theorem dX5_pipe_139 : decode cX5_pipe 139 = .ok (.iastore, 1) := by decide +kernel
theorem dX5_pipe_140 : decode cX5_pipe 140 = .ok (.aload_n 0, 1) := by decide +kernel
theorem dX5_pipe_141 : decode cX5_pipe 141 = .ok (.dup, 1) := by decide +kernel
theorem dX5_pipe_142 : decode cX5_pipe 142 = .ok (.getfield 100, 3) := by decide +kernel
theorem dX5_pipe_145 : decode cX5_pipe 145 = .ok (.iconst 1, 1) := by decide +kernel
theorem dX5_pipe_146 : decode cX5_pipe 146 = .ok (.iadd, 1) := by decide +kernel
theorem dX5_pipe_147 : decode cX5_pipe 147 = .ok (.putfield 100, 3) := by decide +kernel
theorem dX5_pipe_150 : decode cX5_pipe 150 = .ok (.aload_n 0, 1) := by decide +kernel
theorem dX5_pipe_151 : decode cX5_pipe 151 = .ok (.getfield 100, 3) := by decide +kernel
theorem dX5_pipe_154 : decode cX5_pipe 154 = .ok (.iconst 1, 1) := by decide +kernel
theorem dX5_pipe_155 : decode cX5_pipe 155 = .ok (.isub, 1) := by decide +kernel
theorem dX5_pipe_156 : decode cX5_pipe 156 = .ok (.ireturn, 1) := by decide +kernel
theorem dX5_source_0 : decode cX5_source 0 = .ok (.aload_n 0, 1) := by decide +kernel
theorem dX5_source_1 : decode cX5_source 1 = .ok (.iload_n 1, 1) := by decide +kernel
theorem dX5_source_2 : decode cX5_source 2 = .ok (.iconst 0, 1) := by decide +kernel
theorem dX5_source_3 : decode cX5_source 3 = .ok (.sipush 9999, 3) := by decide +kernel
theorem dX5_source_6 : decode cX5_source 6 = .ok (.invokestatic 96, 3) := by decide +kernel
theorem dX5_source_9 : decode cX5_source 9 = .ok (.ifCond .ne 7, 3) := by decide +kernel
theorem dX5_source_12 : decode cX5_source 12 = .ok (.iconst 1, 1) := by decide +kernel
theorem dX5_source_13 : decode cX5_source 13 = .ok (.goto 16, 3) := by decide +kernel
theorem dX5_source_16 : decode cX5_source 16 = .ok (.aload_n 0, 1) := by decide +kernel
theorem dX5_source_17 : decode cX5_source 17 = .ok (.getfield 110, 3) := by decide +kernel
theorem dX5_source_20 : decode cX5_source 20 = .ok (.iconst (-1), 1) := by decide +kernel
theorem dX5_source_21 : decode cX5_source 21 = .ok (.if_icmp .ne 7, 3) := by decide +kernel
theorem dX5_source_24 : decode cX5_source 24 = .ok (.iconst 2, 1) := by decide +kernel
theorem dX5_source_25 : decode cX5_source 25 = .ok (.goto 4, 3) := by decide +kernel
theorem dX5_source_28 : decode cX5_source 28 = .ok (.iconst 0, 1) := by decide +kernel
theorem dX5_source_29 : decode cX5_source 29 = .ok (.invokevirtual 103, 3) := by decide +kernel
theorem dX5_source_32 : decode cX5_source 32 = .ok (.ifCond .ne 5, 3) := by decide +kernel
theorem dX5_source_35 : decode cX5_source 35 = .ok (.iconst 0, 1) := by decide +kernel
theorem dX5_source_36 : decode cX5_source 36 = .ok (.ireturn, 1) := by decide +kernel
theorem dX5_source_37 : decode cX5_source 37 = .ok (.aload_n 0, 1) := by decide +kernel
theorem dX5_source_38 : decode cX5_source 38 = .ok (.getfield 113, 3) := by decide +kernel
theorem dX5_source_41 : decode cX5_source 41 = .ok (.istore_n 2, 1) := by decide +kernel
theorem dX5_source_42 : decode cX5_source 42 = .ok (.aload_n 0, 1) := by decide +kernel
theorem dX5_source_43 : decode cX5_source 43 = .ok (.iload_n 1, 1) := by decide +kernel
theorem dX5_source_44 : decode cX5_source 44 = .ok (.putfield 113, 3) := by decide +kernel
theorem dX5_source_47 : decode cX5_source 47 = .ok (.iload_n 2, 1) := by decide +kernel
theorem dX5_source_48 : decode cX5_source 48 = .ok (.ireturn, 1) := by decide +kernel
theorem dX5_need_0 : decode cX5_need 0 = .ok (.aload_n 0, 1) := by decide +kernel
theorem dX5_need_1 : decode cX5_need 1 = .ok (.aload_n 0, 1) := by decide +kernel
theorem dX5_need_2 : decode cX5_need 2 = .ok (.iload_n 1, 1) := by decide +kernel
theorem dX5_need_3 : decode cX5_need 3 = .ok (.invokevirtual 107, 3) := by decide +kernel
theorem dX5_need_6 : decode cX5_need 6 = .ok (.ifCond .ne 7, 3) := by decide +kernel
theorem dX5_need_9 : decode cX5_need 9 = .ok (.iconst 1, 1) := by decide +kernel
theorem dX5_need_10 : decode cX5_need 10 = .ok (.goto 19, 3) := by decide +kernel
theorem dX5_need_13 : decode cX5_need 13 = .ok (.iload_n 2, 1) := by decide +kernel
theorem dX5_need_14 : decode cX5_need 14 = .ok (.iconst 0, 1) := by decide +kernel
theorem dX5_need_15 : decode cX5_need 15 = .ok (.sipush 999, 3) := by decide +kernel
theorem dX5_need_18 : decode cX5_need 18 = .ok (.invokestatic 96, 3) := by decide +kernel
theorem dX5_need_21 : decode cX5_need 21 = .ok (.ifCond .eq 7, 3) := by decide +kernel
theorem dX5_need_24 : decode cX5_need 24 = .ok (.iconst 0, 1) := by decide +kernel
theorem dX5_need_25 : decode cX5_need 25 = .ok (.goto 4, 3) := by decide +kernel
theorem dX5_need_28 : decode cX5_need 28 = .ok (.iconst 2, 1) := by decide +kernel
theorem dX5_need_29 : decode cX5_need 29 = .ok (.invokevirtual 103, 3) := by decide +kernel
theorem dX5_need_32 : decode cX5_need 32 = .ok (.ifCond .ne 5, 3) := by decide +kernel
theorem dX5_need_35 : decode cX5_need 35 = .ok (.iconst 0, 1) := by decide +kernel
theorem dX5_need_36 : decode cX5_need 36 = .ok (.ireturn, 1) := by decide +kernel
theorem dX5_need_37 : decode cX5_need 37 = .ok (.aload_n 0, 1) := by decide +kernel
theorem dX5_need_38 : decode cX5_need 38 = .ok (.getfield 13, 3) := by decide +kernel
theorem dX5_need_41 : decode cX5_need 41 = .ok (.iload_n 1, 1) := by decide +kernel
theorem dX5_need_42 : decode cX5_need 42 = .ok (.iaload, 1) := by decide +kernel
theorem dX5_need_43 : decode cX5_need 43 = .ok (.istore_n 3, 1) := by decide +kernel
theorem dX5_need_44 : decode cX5_need 44 = .ok (.aload_n 0, 1) := by decide +kernel
theorem dX5_need_45 : decode cX5_need 45 = .ok (.getfield 13, 3) := by decide +kernel
theorem dX5_need_48 : decode cX5_need 48 = .ok (.iload_n 1, 1) := by decide +kernel
theorem dX5_need_49 : decode cX5_need 49 = .ok (.iload_n 2, 1) := by decide +kernel
theorem dX5_need_50 : decode cX5_need 50 = .ok (.iastore, 1) := by decide +kernel
theorem dX5_need_51 : decode cX5_need 51 = .ok (.iload_n 3, 1) := by decide +kernel
theorem dX5_need_52 : decode cX5_need 52 = .ok (.ireturn, 1) := by decide +kernel
theorem dX5_dries_0 : decode cX5_dries 0 = .ok (.aload_n 0, 1) := by decide +kernel
theorem dX5_dries_1 : decode cX5_dries 1 = .ok (.iconst 0, 1) := by decide +kernel
theorem dX5_dries_2 : decode cX5_dries 2 = .ok (.putfield 116, 3) := by decide +kernel
theorem dX5_dries_5 : decode cX5_dries 5 = .ok (.iconst 0, 1) := by decide +kernel
theorem dX5_dries_6 : decode cX5_dries 6 = .ok (.istore_n 1, 1) := by decide +kernel
theorem dX5_dries_7 : decode cX5_dries 7 = .ok (.iload_n 1, 1) := by decide +kernel
theorem dX5_dries_8 : decode cX5_dries 8 = .ok (.aload_n 0, 1) := by decide +kernel
theorem dX5_dries_9 : decode cX5_dries 9 = .ok (.getfield 100, 3) := by decide +kernel
theorem dX5_dries_12 : decode cX5_dries 12 = .ok (.if_icmp .ge 16, 3) := by decide +kernel
theorem dX5_dries_15 : decode cX5_dries 15 = .ok (.aload_n 0, 1) := by decide +kernel
theorem dX5_dries_16 : decode cX5_dries 16 = .ok (.getfield 77, 3) := by decide +kernel
theorem dX5_dries_19 : decode cX5_dries 19 = .ok (.iload_n 1, 1) := by decide +kernel
theorem dX5_dries_20 : decode cX5_dries 20 = .ok (.iconst 0, 1) := by decide +kernel
theorem dX5_dries_21 : decode cX5_dries 21 = .ok (.iastore, 1) := by decide +kernel
theorem dX5_dries_22 : decode cX5_dries 22 = .ok (.iinc 1 1, 3) := by decide +kernel
theorem dX5_dries_25 : decode cX5_dries 25 = .ok (.goto (-18), 3) := by decide +kernel
theorem dX5_dries_28 : decode cX5_dries 28 = .ok (.return_, 1) := by decide +kernel
theorem dX5_room_0 : decode cX5_room 0 = .ok (.aload_n 0, 1) := by decide +kernel
theorem dX5_room_1 : decode cX5_room 1 = .ok (.getfield 74, 3) := by decide +kernel
theorem dX5_room_4 : decode cX5_room 4 = .ok (.iload_n 1, 1) := by decide +kernel
theorem dX5_room_5 : decode cX5_room 5 = .ok (.baload, 1) := by decide +kernel
theorem dX5_room_6 : decode cX5_room 6 = .ok (.ifCond .eq 7, 3) := by decide +kernel
theorem dX5_room_9 : decode cX5_room 9 = .ok (.iconst 0, 1) := by decide +kernel
theorem dX5_room_10 : decode cX5_room 10 = .ok (.goto 29, 3) := by decide +kernel
theorem dX5_room_13 : decode cX5_room 13 = .ok (.iload_n 2, 1) := by decide +kernel
theorem dX5_room_14 : decode cX5_room 14 = .ok (.ifCond .eq 19, 3) := by decide +kernel
theorem dX5_room_17 : decode cX5_room 17 = .ok (.aload_n 0, 1) := by decide +kernel
theorem dX5_room_18 : decode cX5_room 18 = .ok (.getfield 71, 3) := by decide +kernel
theorem dX5_room_21 : decode cX5_room 21 = .ok (.iload_n 1, 1) := by decide +kernel
theorem dX5_room_22 : decode cX5_room 22 = .ok (.iaload, 1) := by decide +kernel
theorem dX5_room_23 : decode cX5_room 23 = .ok (.aload_n 0, 1) := by decide +kernel
theorem dX5_room_24 : decode cX5_room 24 = .ok (.getfield 77, 3) := by decide +kernel
theorem dX5_room_27 : decode cX5_room 27 = .ok (.iload_n 1, 1) := by decide +kernel
theorem dX5_room_28 : decode cX5_room 28 = .ok (.iaload, 1) := by decide +kernel
theorem dX5_room_29 : decode cX5_room 29 = .ok (.isub, 1) := by decide +kernel
theorem dX5_room_30 : decode cX5_room 30 = .ok (.goto 9, 3) := by decide +kernel
theorem dX5_room_33 : decode cX5_room 33 = .ok (.aload_n 0, 1) := by decide +kernel
theorem dX5_room_34 : decode cX5_room 34 = .ok (.getfield 77, 3) := by decide +kernel
theorem dX5_room_37 : decode cX5_room 37 = .ok (.iload_n 1, 1) := by decide +kernel
theorem dX5_room_38 : decode cX5_room 38 = .ok (.iaload, 1) := by decide +kernel
theorem dX5_room_39 : decode cX5_room 39 = .ok (.ireturn, 1) := by decide +kernel
theorem dX5_finds_0 : decode cX5_finds 0 = .ok (.iconst 0, 1) := by decide +kernel
theorem dX5_finds_1 : decode cX5_finds 1 = .ok (.istore_n 2, 1) := by decide +kernel
theorem dX5_finds_2 : decode cX5_finds 2 = .ok (.iload_n 2, 1) := by decide +kernel
theorem dX5_finds_3 : decode cX5_finds 3 = .ok (.bipush 8, 2) := by decide +kernel
theorem dX5_finds_5 : decode cX5_finds 5 = .ok (.if_icmp .gt 16, 3) := by decide +kernel
theorem dX5_finds_8 : decode cX5_finds 8 = .ok (.aload_n 0, 1) := by decide +kernel
theorem dX5_finds_9 : decode cX5_finds 9 = .ok (.getfield 80, 3) := by decide +kernel
theorem dX5_finds_12 : decode cX5_finds 12 = .ok (.iload_n 2, 1) := by decide +kernel
theorem dX5_finds_13 : decode cX5_finds 13 = .ok (.iconst (-1), 1) := by decide +kernel
theorem dX5_finds_14 : decode cX5_finds 14 = .ok (.iastore, 1) := by decide +kernel
theorem dX5_finds_15 : decode cX5_finds 15 = .ok (.iinc 2 1, 3) := by decide +kernel
theorem dX5_finds_18 : decode cX5_finds 18 = .ok (.goto (-16), 3) := by decide +kernel
theorem dX5_finds_21 : decode cX5_finds 21 = .ok (.aload_n 0, 1) := by decide +kernel
theorem dX5_finds_22 : decode cX5_finds 22 = .ok (.getfield 83, 3) := by decide +kernel
theorem dX5_finds_25 : decode cX5_finds 25 = .ok (.iconst 0, 1) := by decide +kernel
theorem dX5_finds_26 : decode cX5_finds 26 = .ok (.bipush 8, 2) := by decide +kernel
theorem dX5_finds_28 : decode cX5_finds 28 = .ok (.iastore, 1) := by decide +kernel
theorem dX5_finds_29 : decode cX5_finds 29 = .ok (.iconst 1, 1) := by decide +kernel
theorem dX5_finds_30 : decode cX5_finds 30 = .ok (.istore_n 2, 1) := by decide +kernel
theorem dX5_finds_31 : decode cX5_finds 31 = .ok (.iconst 0, 1) := by decide +kernel
theorem dX5_finds_32 : decode cX5_finds 32 = .ok (.istore_n 3, 1) := by decide +kernel
theorem dX5_finds_33 : decode cX5_finds 33 = .ok (.iload_n 3, 1) := by decide +kernel
theorem dX5_finds_34 : decode cX5_finds 34 = .ok (.iload_n 2, 1) := by decide +kernel
theorem dX5_finds_35 : decode cX5_finds 35 = .ok (.if_icmp .ge 179, 3) := by decide +kernel
theorem dX5_finds_38 : decode cX5_finds 38 = .ok (.aload_n 0, 1) := by decide +kernel
theorem dX5_finds_39 : decode cX5_finds 39 = .ok (.getfield 80, 3) := by decide +kernel
theorem dX5_finds_42 : decode cX5_finds 42 = .ok (.iload_n 1, 1) := by decide +kernel
theorem dX5_finds_43 : decode cX5_finds 43 = .ok (.iaload, 1) := by decide +kernel
theorem dX5_finds_44 : decode cX5_finds 44 = .ok (.iconst (-1), 1) := by decide +kernel
theorem dX5_finds_45 : decode cX5_finds 45 = .ok (.if_icmp .ne 169, 3) := by decide +kernel
theorem dX5_finds_48 : decode cX5_finds 48 = .ok (.aload_n 0, 1) := by decide +kernel
theorem dX5_finds_49 : decode cX5_finds 49 = .ok (.getfield 83, 3) := by decide +kernel
theorem dX5_finds_52 : decode cX5_finds 52 = .ok (.iload_n 3, 1) := by decide +kernel
theorem dX5_finds_53 : decode cX5_finds 53 = .ok (.iaload, 1) := by decide +kernel
theorem dX5_finds_54 : decode cX5_finds 54 = .ok (.istore 4, 2) := by decide +kernel
theorem dX5_finds_56 : decode cX5_finds 56 = .ok (.iconst 0, 1) := by decide +kernel
theorem dX5_finds_57 : decode cX5_finds 57 = .ok (.istore 5, 2) := by decide +kernel
theorem dX5_finds_59 : decode cX5_finds 59 = .ok (.iload 5, 2) := by decide +kernel
theorem dX5_finds_61 : decode cX5_finds 61 = .ok (.aload_n 0, 1) := by decide +kernel
theorem dX5_finds_62 : decode cX5_finds 62 = .ok (.getfield 100, 3) := by decide +kernel
theorem dX5_finds_65 : decode cX5_finds 65 = .ok (.if_icmp .ge 143, 3) := by decide +kernel
theorem dX5_finds_68 : decode cX5_finds 68 = .ok (.aload_n 0, 1) := by decide +kernel
theorem dX5_finds_69 : decode cX5_finds 69 = .ok (.getfield 65, 3) := by decide +kernel
theorem dX5_finds_72 : decode cX5_finds 72 = .ok (.iload 5, 2) := by decide +kernel
theorem dX5_finds_74 : decode cX5_finds 74 = .ok (.iaload, 1) := by decide +kernel
theorem dX5_finds_75 : decode cX5_finds 75 = .ok (.iload 4, 2) := by decide +kernel
theorem dX5_finds_77 : decode cX5_finds 77 = .ok (.if_icmp .ne 7, 3) := by decide +kernel
theorem dX5_finds_80 : decode cX5_finds 80 = .ok (.iconst 1, 1) := by decide +kernel
theorem dX5_finds_81 : decode cX5_finds 81 = .ok (.goto 4, 3) := by decide +kernel
theorem dX5_finds_84 : decode cX5_finds 84 = .ok (.iconst 0, 1) := by decide +kernel
theorem dX5_finds_85 : decode cX5_finds 85 = .ok (.istore 6, 2) := by decide +kernel
theorem dX5_finds_87 : decode cX5_finds 87 = .ok (.iload 6, 2) := by decide +kernel
theorem dX5_finds_89 : decode cX5_finds 89 = .ok (.ifCond .eq 13, 3) := by decide +kernel
theorem dX5_finds_92 : decode cX5_finds 92 = .ok (.aload_n 0, 1) := by decide +kernel
theorem dX5_finds_93 : decode cX5_finds 93 = .ok (.getfield 68, 3) := by decide +kernel
theorem dX5_finds_96 : decode cX5_finds 96 = .ok (.iload 5, 2) := by decide +kernel
theorem dX5_finds_98 : decode cX5_finds 98 = .ok (.iaload, 1) := by decide +kernel
theorem dX5_finds_99 : decode cX5_finds 99 = .ok (.goto 10, 3) := by decide +kernel
theorem dX5_finds_102 : decode cX5_finds 102 = .ok (.aload_n 0, 1) := by decide +kernel
theorem dX5_finds_103 : decode cX5_finds 103 = .ok (.getfield 65, 3) := by decide +kernel
theorem dX5_finds_106 : decode cX5_finds 106 = .ok (.iload 5, 2) := by decide +kernel
theorem dX5_finds_108 : decode cX5_finds 108 = .ok (.iaload, 1) := by decide +kernel
theorem dX5_finds_109 : decode cX5_finds 109 = .ok (.istore 7, 2) := by decide +kernel
theorem dX5_finds_111 : decode cX5_finds 111 = .ok (.iload 6, 2) := by decide +kernel
theorem dX5_finds_113 : decode cX5_finds 113 = .ok (.ifCond .ne 15, 3) := by decide +kernel
theorem dX5_finds_116 : decode cX5_finds 116 = .ok (.aload_n 0, 1) := by decide +kernel
theorem dX5_finds_117 : decode cX5_finds 117 = .ok (.getfield 68, 3) := by decide +kernel
theorem dX5_finds_120 : decode cX5_finds 120 = .ok (.iload 5, 2) := by decide +kernel
theorem dX5_finds_122 : decode cX5_finds 122 = .ok (.iaload, 1) := by decide +kernel
theorem dX5_finds_123 : decode cX5_finds 123 = .ok (.iload 4, 2) := by decide +kernel
theorem dX5_finds_125 : decode cX5_finds 125 = .ok (.if_icmp .ne 36, 3) := by decide +kernel
theorem dX5_finds_128 : decode cX5_finds 128 = .ok (.iload 7, 2) := by decide +kernel
theorem dX5_finds_130 : decode cX5_finds 130 = .ok (.bipush 8, 2) := by decide +kernel
theorem dX5_finds_132 : decode cX5_finds 132 = .ok (.if_icmp .eq 29, 3) := by decide +kernel
theorem dX5_finds_135 : decode cX5_finds 135 = .ok (.aload_n 0, 1) := by decide +kernel
theorem dX5_finds_136 : decode cX5_finds 136 = .ok (.getfield 80, 3) := by decide +kernel
theorem dX5_finds_139 : decode cX5_finds 139 = .ok (.iload 7, 2) := by decide +kernel
theorem dX5_finds_141 : decode cX5_finds 141 = .ok (.iaload, 1) := by decide +kernel
theorem dX5_finds_142 : decode cX5_finds 142 = .ok (.iconst (-1), 1) := by decide +kernel
theorem dX5_finds_143 : decode cX5_finds 143 = .ok (.if_icmp .ne 18, 3) := by decide +kernel
theorem dX5_finds_146 : decode cX5_finds 146 = .ok (.aload_n 0, 1) := by decide +kernel
theorem dX5_finds_147 : decode cX5_finds 147 = .ok (.iload 5, 2) := by decide +kernel
theorem dX5_finds_149 : decode cX5_finds 149 = .ok (.iload 6, 2) := by decide +kernel
theorem dX5_finds_151 : decode cX5_finds 151 = .ok (.invokevirtual 119, 3) := by decide +kernel
theorem dX5_finds_154 : decode cX5_finds 154 = .ok (.ifCond .le 7, 3) := by decide +kernel
theorem dX5_finds_157 : decode cX5_finds 157 = .ok (.iconst 1, 1) := by decide +kernel
theorem dX5_finds_158 : decode cX5_finds 158 = .ok (.goto 4, 3) := by decide +kernel
theorem dX5_finds_161 : decode cX5_finds 161 = .ok (.iconst 0, 1) := by decide +kernel
theorem dX5_finds_162 : decode cX5_finds 162 = .ok (.istore 8, 2) := by decide +kernel
theorem dX5_finds_164 : decode cX5_finds 164 = .ok (.iload 8, 2) := by decide +kernel
theorem dX5_finds_166 : decode cX5_finds 166 = .ok (.ifCond .eq 36, 3) := by decide +kernel
theorem dX5_finds_169 : decode cX5_finds 169 = .ok (.aload_n 0, 1) := by decide +kernel
theorem dX5_finds_170 : decode cX5_finds 170 = .ok (.getfield 80, 3) := by decide +kernel
theorem dX5_finds_173 : decode cX5_finds 173 = .ok (.iload 7, 2) := by decide +kernel
theorem dX5_finds_175 : decode cX5_finds 175 = .ok (.iload 6, 2) := by decide +kernel
theorem dX5_finds_177 : decode cX5_finds 177 = .ok (.ifCond .eq 8, 3) := by decide +kernel
theorem dX5_finds_180 : decode cX5_finds 180 = .ok (.iload 5, 2) := by decide +kernel
theorem dX5_finds_182 : decode cX5_finds 182 = .ok (.goto 8, 3) := by decide +kernel
theorem dX5_finds_185 : decode cX5_finds 185 = .ok (.iload 5, 2) := by decide +kernel
theorem dX5_finds_187 : decode cX5_finds 187 = .ok (.bipush 24, 2) := by decide +kernel
theorem dX5_finds_189 : decode cX5_finds 189 = .ok (.iadd, 1) := by decide +kernel
theorem dX5_finds_190 : decode cX5_finds 190 = .ok (.iastore, 1) := by decide +kernel
theorem dX5_finds_191 : decode cX5_finds 191 = .ok (.aload_n 0, 1) := by decide +kernel
theorem dX5_finds_192 : decode cX5_finds 192 = .ok (.getfield 83, 3) := by decide +kernel
theorem dX5_finds_195 : decode cX5_finds 195 = .ok (.iload_n 2, 1) := by decide +kernel
theorem dX5_finds_196 : decode cX5_finds 196 = .ok (.iload 7, 2) := by decide +kernel
theorem dX5_finds_198 : decode cX5_finds 198 = .ok (.iastore, 1) := by decide +kernel
theorem dX5_finds_199 : decode cX5_finds 199 = .ok (.iinc 2 1, 3) := by decide +kernel
theorem dX5_finds_202 : decode cX5_finds 202 = .ok (.iinc 5 1, 3) := by decide +kernel
theorem dX5_finds_205 : decode cX5_finds 205 = .ok (.goto (-146), 3) := by decide +kernel
theorem dX5_finds_208 : decode cX5_finds 208 = .ok (.iinc 3 1, 3) := by decide +kernel
theorem dX5_finds_211 : decode cX5_finds 211 = .ok (.goto (-178), 3) := by decide +kernel
theorem dX5_finds_214 : decode cX5_finds 214 = .ok (.aload_n 0, 1) := by decide +kernel
theorem dX5_finds_215 : decode cX5_finds 215 = .ok (.getfield 80, 3) := by decide +kernel
theorem dX5_finds_218 : decode cX5_finds 218 = .ok (.iload_n 1, 1) := by decide +kernel
theorem dX5_finds_219 : decode cX5_finds 219 = .ok (.iaload, 1) := by decide +kernel
theorem dX5_finds_220 : decode cX5_finds 220 = .ok (.iconst (-1), 1) := by decide +kernel
theorem dX5_finds_221 : decode cX5_finds 221 = .ok (.if_icmp .eq 7, 3) := by decide +kernel
theorem dX5_finds_224 : decode cX5_finds 224 = .ok (.iconst 1, 1) := by decide +kernel
theorem dX5_finds_225 : decode cX5_finds 225 = .ok (.goto 4, 3) := by decide +kernel
theorem dX5_finds_228 : decode cX5_finds 228 = .ok (.iconst 0, 1) := by decide +kernel
theorem dX5_finds_229 : decode cX5_finds 229 = .ok (.ireturn, 1) := by decide +kernel
theorem dX5_flows_0 : decode cX5_flows 0 = .ok (.iconst 0, 1) := by decide +kernel
theorem dX5_flows_1 : decode cX5_flows 1 = .ok (.istore_n 3, 1) := by decide +kernel
theorem dX5_flows_2 : decode cX5_flows 2 = .ok (.iload_n 3, 1) := by decide +kernel
theorem dX5_flows_3 : decode cX5_flows 3 = .ok (.iload_n 2, 1) := by decide +kernel
theorem dX5_flows_4 : decode cX5_flows 4 = .ok (.if_icmp .ge 176, 3) := by decide +kernel
theorem dX5_flows_7 : decode cX5_flows 7 = .ok (.aload_n 0, 1) := by decide +kernel
theorem dX5_flows_8 : decode cX5_flows 8 = .ok (.getfield 116, 3) := by decide +kernel
theorem dX5_flows_11 : decode cX5_flows 11 = .ok (.aload_n 0, 1) := by decide +kernel
theorem dX5_flows_12 : decode cX5_flows 12 = .ok (.getfield 113, 3) := by decide +kernel
theorem dX5_flows_15 : decode cX5_flows 15 = .ok (.if_icmp .ge 165, 3) := by decide +kernel
theorem dX5_flows_18 : decode cX5_flows 18 = .ok (.aload_n 0, 1) := by decide +kernel
theorem dX5_flows_19 : decode cX5_flows 19 = .ok (.iload_n 1, 1) := by decide +kernel
theorem dX5_flows_20 : decode cX5_flows 20 = .ok (.invokevirtual 123, 3) := by decide +kernel
theorem dX5_flows_23 : decode cX5_flows 23 = .ok (.ifCond .eq 157, 3) := by decide +kernel
theorem dX5_flows_26 : decode cX5_flows 26 = .ok (.iload_n 2, 1) := by decide +kernel
theorem dX5_flows_27 : decode cX5_flows 27 = .ok (.iload_n 3, 1) := by decide +kernel
theorem dX5_flows_28 : decode cX5_flows 28 = .ok (.isub, 1) := by decide +kernel
theorem dX5_flows_29 : decode cX5_flows 29 = .ok (.aload_n 0, 1) := by decide +kernel
theorem dX5_flows_30 : decode cX5_flows 30 = .ok (.getfield 113, 3) := by decide +kernel
theorem dX5_flows_33 : decode cX5_flows 33 = .ok (.aload_n 0, 1) := by decide +kernel
theorem dX5_flows_34 : decode cX5_flows 34 = .ok (.getfield 116, 3) := by decide +kernel
theorem dX5_flows_37 : decode cX5_flows 37 = .ok (.isub, 1) := by decide +kernel
theorem dX5_flows_38 : decode cX5_flows 38 = .ok (.invokestatic 126, 3) := by decide +kernel
theorem dX5_flows_41 : decode cX5_flows 41 = .ok (.istore 4, 2) := by decide +kernel
theorem dX5_flows_43 : decode cX5_flows 43 = .ok (.iload_n 1, 1) := by decide +kernel
theorem dX5_flows_44 : decode cX5_flows 44 = .ok (.istore 5, 2) := by decide +kernel
theorem dX5_flows_46 : decode cX5_flows 46 = .ok (.iload 5, 2) := by decide +kernel
theorem dX5_flows_48 : decode cX5_flows 48 = .ok (.bipush 8, 2) := by decide +kernel
theorem dX5_flows_50 : decode cX5_flows 50 = .ok (.if_icmp .eq 52, 3) := by decide +kernel
theorem dX5_flows_53 : decode cX5_flows 53 = .ok (.iload 4, 2) := by decide +kernel
theorem dX5_flows_55 : decode cX5_flows 55 = .ok (.aload_n 0, 1) := by decide +kernel
theorem dX5_flows_56 : decode cX5_flows 56 = .ok (.aload_n 0, 1) := by decide +kernel
theorem dX5_flows_57 : decode cX5_flows 57 = .ok (.getfield 80, 3) := by decide +kernel
theorem dX5_flows_60 : decode cX5_flows 60 = .ok (.iload 5, 2) := by decide +kernel
theorem dX5_flows_62 : decode cX5_flows 62 = .ok (.iaload, 1) := by decide +kernel
theorem dX5_flows_63 : decode cX5_flows 63 = .ok (.bipush 24, 2) := by decide +kernel
theorem dX5_flows_65 : decode cX5_flows 65 = .ok (.irem, 1) := by decide +kernel
theorem dX5_flows_66 : decode cX5_flows 66 = .ok (.aload_n 0, 1) := by decide +kernel
theorem dX5_flows_67 : decode cX5_flows 67 = .ok (.getfield 80, 3) := by decide +kernel
theorem dX5_flows_70 : decode cX5_flows 70 = .ok (.iload 5, 2) := by decide +kernel
theorem dX5_flows_72 : decode cX5_flows 72 = .ok (.iaload, 1) := by decide +kernel
theorem dX5_flows_73 : decode cX5_flows 73 = .ok (.bipush 24, 2) := by decide +kernel
theorem dX5_flows_75 : decode cX5_flows 75 = .ok (.if_icmp .ge 7, 3) := by decide +kernel
theorem dX5_flows_78 : decode cX5_flows 78 = .ok (.iconst 1, 1) := by decide +kernel
theorem dX5_flows_79 : decode cX5_flows 79 = .ok (.goto 4, 3) := by decide +kernel
theorem dX5_flows_82 : decode cX5_flows 82 = .ok (.iconst 0, 1) := by decide +kernel
theorem dX5_flows_83 : decode cX5_flows 83 = .ok (.invokevirtual 119, 3) := by decide +kernel
theorem dX5_flows_86 : decode cX5_flows 86 = .ok (.invokestatic 126, 3) := by decide +kernel
theorem dX5_flows_89 : decode cX5_flows 89 = .ok (.istore 4, 2) := by decide +kernel
theorem dX5_flows_91 : decode cX5_flows 91 = .ok (.aload_n 0, 1) := by decide +kernel
theorem dX5_flows_92 : decode cX5_flows 92 = .ok (.iload 5, 2) := by decide +kernel
theorem dX5_flows_94 : decode cX5_flows 94 = .ok (.invokevirtual 130, 3) := by decide +kernel
theorem dX5_flows_97 : decode cX5_flows 97 = .ok (.istore 5, 2) := by decide +kernel
theorem dX5_flows_99 : decode cX5_flows 99 = .ok (.goto (-53), 3) := by decide +kernel
theorem dX5_flows_102 : decode cX5_flows 102 = .ok (.iload_n 1, 1) := by decide +kernel
theorem dX5_flows_103 : decode cX5_flows 103 = .ok (.istore 5, 2) := by decide +kernel
theorem dX5_flows_105 : decode cX5_flows 105 = .ok (.iload 5, 2) := by decide +kernel
theorem dX5_flows_107 : decode cX5_flows 107 = .ok (.bipush 8, 2) := by decide +kernel
theorem dX5_flows_109 : decode cX5_flows 109 = .ok (.if_icmp .eq 52, 3) := by decide +kernel
theorem dX5_flows_112 : decode cX5_flows 112 = .ok (.aload_n 0, 1) := by decide +kernel
theorem dX5_flows_113 : decode cX5_flows 113 = .ok (.getfield 77, 3) := by decide +kernel
theorem dX5_flows_116 : decode cX5_flows 116 = .ok (.aload_n 0, 1) := by decide +kernel
theorem dX5_flows_117 : decode cX5_flows 117 = .ok (.getfield 80, 3) := by decide +kernel
theorem dX5_flows_120 : decode cX5_flows 120 = .ok (.iload 5, 2) := by decide +kernel
theorem dX5_flows_122 : decode cX5_flows 122 = .ok (.iaload, 1) := by decide +kernel
theorem dX5_flows_123 : decode cX5_flows 123 = .ok (.bipush 24, 2) := by decide +kernel
theorem dX5_flows_125 : decode cX5_flows 125 = .ok (.irem, 1) := by decide +kernel
theorem dX5_flows_126 : decode cX5_flows 126 = .ok (.dup2, 1) := by decide +kernel
theorem dX5_flows_127 : decode cX5_flows 127 = .ok (.iaload, 1) := by decide +kernel
theorem dX5_flows_128 : decode cX5_flows 128 = .ok (.aload_n 0, 1) := by decide +kernel
theorem dX5_flows_129 : decode cX5_flows 129 = .ok (.getfield 80, 3) := by decide +kernel
theorem dX5_flows_132 : decode cX5_flows 132 = .ok (.iload 5, 2) := by decide +kernel
theorem dX5_flows_134 : decode cX5_flows 134 = .ok (.iaload, 1) := by decide +kernel
theorem dX5_flows_135 : decode cX5_flows 135 = .ok (.bipush 24, 2) := by decide +kernel
theorem dX5_flows_137 : decode cX5_flows 137 = .ok (.if_icmp .ge 8, 3) := by decide +kernel
theorem dX5_flows_140 : decode cX5_flows 140 = .ok (.iload 4, 2) := by decide +kernel
theorem dX5_flows_142 : decode cX5_flows 142 = .ok (.goto 6, 3) := by decide +kernel
theorem dX5_flows_145 : decode cX5_flows 145 = .ok (.iload 4, 2) := by decide +kernel
theorem dX5_flows_147 : decode cX5_flows 147 = .ok (.ineg, 1) := by decide +kernel
theorem dX5_flows_148 : decode cX5_flows 148 = .ok (.iadd, 1) := by decide +kernel
theorem dX5_flows_149 : decode cX5_flows 149 = .ok (.iastore, 1) := by decide +kernel
theorem dX5_flows_150 : decode cX5_flows 150 = .ok (.aload_n 0, 1) := by decide +kernel
theorem dX5_flows_151 : decode cX5_flows 151 = .ok (.iload 5, 2) := by decide +kernel
theorem dX5_flows_153 : decode cX5_flows 153 = .ok (.invokevirtual 130, 3) := by decide +kernel
theorem dX5_flows_156 : decode cX5_flows 156 = .ok (.istore 5, 2) := by decide +kernel
theorem dX5_flows_158 : decode cX5_flows 158 = .ok (.goto (-53), 3) := by decide +kernel
theorem dX5_flows_161 : decode cX5_flows 161 = .ok (.aload_n 0, 1) := by decide +kernel
theorem dX5_flows_162 : decode cX5_flows 162 = .ok (.dup, 1) := by decide +kernel
theorem dX5_flows_163 : decode cX5_flows 163 = .ok (.getfield 116, 3) := by decide +kernel
theorem dX5_flows_166 : decode cX5_flows 166 = .ok (.iload 4, 2) := by decide +kernel
theorem dX5_flows_168 : decode cX5_flows 168 = .ok (.iadd, 1) := by decide +kernel
theorem dX5_flows_169 : decode cX5_flows 169 = .ok (.putfield 116, 3) := by decide +kernel
theorem dX5_flows_172 : decode cX5_flows 172 = .ok (.iload_n 3, 1) := by decide +kernel
theorem dX5_flows_173 : decode cX5_flows 173 = .ok (.iload 4, 2) := by decide +kernel
theorem dX5_flows_175 : decode cX5_flows 175 = .ok (.iadd, 1) := by decide +kernel
theorem dX5_flows_176 : decode cX5_flows 176 = .ok (.istore_n 3, 1) := by decide +kernel
theorem dX5_flows_177 : decode cX5_flows 177 = .ok (.goto (-175), 3) := by decide +kernel
theorem dX5_flows_180 : decode cX5_flows 180 = .ok (.iload_n 3, 1) := by decide +kernel
theorem dX5_flows_181 : decode cX5_flows 181 = .ok (.ireturn, 1) := by decide +kernel
theorem dX5_before_0 : decode cX5_before 0 = .ok (.aload_n 0, 1) := by decide +kernel
theorem dX5_before_1 : decode cX5_before 1 = .ok (.getfield 80, 3) := by decide +kernel
theorem dX5_before_4 : decode cX5_before 4 = .ok (.iload_n 1, 1) := by decide +kernel
theorem dX5_before_5 : decode cX5_before 5 = .ok (.iaload, 1) := by decide +kernel
theorem dX5_before_6 : decode cX5_before 6 = .ok (.bipush 24, 2) := by decide +kernel
theorem dX5_before_8 : decode cX5_before 8 = .ok (.if_icmp .ge 17, 3) := by decide +kernel
theorem dX5_before_11 : decode cX5_before 11 = .ok (.aload_n 0, 1) := by decide +kernel
theorem dX5_before_12 : decode cX5_before 12 = .ok (.getfield 65, 3) := by decide +kernel
theorem dX5_before_15 : decode cX5_before 15 = .ok (.aload_n 0, 1) := by decide +kernel
theorem dX5_before_16 : decode cX5_before 16 = .ok (.getfield 80, 3) := by decide +kernel
theorem dX5_before_19 : decode cX5_before 19 = .ok (.iload_n 1, 1) := by decide +kernel
theorem dX5_before_20 : decode cX5_before 20 = .ok (.iaload, 1) := by decide +kernel
theorem dX5_before_21 : decode cX5_before 21 = .ok (.iaload, 1) := by decide +kernel
theorem dX5_before_22 : decode cX5_before 22 = .ok (.goto 17, 3) := by decide +kernel
theorem dX5_before_25 : decode cX5_before 25 = .ok (.aload_n 0, 1) := by decide +kernel
theorem dX5_before_26 : decode cX5_before 26 = .ok (.getfield 68, 3) := by decide +kernel
theorem dX5_before_29 : decode cX5_before 29 = .ok (.aload_n 0, 1) := by decide +kernel
theorem dX5_before_30 : decode cX5_before 30 = .ok (.getfield 80, 3) := by decide +kernel
theorem dX5_before_33 : decode cX5_before 33 = .ok (.iload_n 1, 1) := by decide +kernel
theorem dX5_before_34 : decode cX5_before 34 = .ok (.iaload, 1) := by decide +kernel
theorem dX5_before_35 : decode cX5_before 35 = .ok (.bipush 24, 2) := by decide +kernel
theorem dX5_before_37 : decode cX5_before 37 = .ok (.isub, 1) := by decide +kernel
theorem dX5_before_38 : decode cX5_before 38 = .ok (.iaload, 1) := by decide +kernel
theorem dX5_before_39 : decode cX5_before 39 = .ok (.ireturn, 1) := by decide +kernel
theorem dX5_isAhead_0 : decode cX5_isAhead 0 = .ok (.aload_n 0, 1) := by decide +kernel
theorem dX5_isAhead_1 : decode cX5_isAhead 1 = .ok (.getfield 19, 3) := by decide +kernel
theorem dX5_isAhead_4 : decode cX5_isAhead 4 = .ok (.iload_n 1, 1) := by decide +kernel
theorem dX5_isAhead_5 : decode cX5_isAhead 5 = .ok (.iaload, 1) := by decide +kernel
theorem dX5_isAhead_6 : decode cX5_isAhead 6 = .ok (.aload_n 0, 1) := by decide +kernel
theorem dX5_isAhead_7 : decode cX5_isAhead 7 = .ok (.getfield 19, 3) := by decide +kernel
theorem dX5_isAhead_10 : decode cX5_isAhead 10 = .ok (.iload_n 2, 1) := by decide +kernel
theorem dX5_isAhead_11 : decode cX5_isAhead 11 = .ok (.iaload, 1) := by decide +kernel
theorem dX5_isAhead_12 : decode cX5_isAhead 12 = .ok (.if_icmp .gt 33, 3) := by decide +kernel
theorem dX5_isAhead_15 : decode cX5_isAhead 15 = .ok (.aload_n 0, 1) := by decide +kernel
theorem dX5_isAhead_16 : decode cX5_isAhead 16 = .ok (.getfield 19, 3) := by decide +kernel
theorem dX5_isAhead_19 : decode cX5_isAhead 19 = .ok (.iload_n 1, 1) := by decide +kernel
theorem dX5_isAhead_20 : decode cX5_isAhead 20 = .ok (.iaload, 1) := by decide +kernel
theorem dX5_isAhead_21 : decode cX5_isAhead 21 = .ok (.aload_n 0, 1) := by decide +kernel
theorem dX5_isAhead_22 : decode cX5_isAhead 22 = .ok (.getfield 19, 3) := by decide +kernel
theorem dX5_isAhead_25 : decode cX5_isAhead 25 = .ok (.iload_n 2, 1) := by decide +kernel
theorem dX5_isAhead_26 : decode cX5_isAhead 26 = .ok (.iaload, 1) := by decide +kernel
theorem dX5_isAhead_27 : decode cX5_isAhead 27 = .ok (.if_icmp .ne 22, 3) := by decide +kernel
theorem dX5_isAhead_30 : decode cX5_isAhead 30 = .ok (.aload_n 0, 1) := by decide +kernel
theorem dX5_isAhead_31 : decode cX5_isAhead 31 = .ok (.getfield 25, 3) := by decide +kernel
theorem dX5_isAhead_34 : decode cX5_isAhead 34 = .ok (.iload_n 1, 1) := by decide +kernel
theorem dX5_isAhead_35 : decode cX5_isAhead 35 = .ok (.iaload, 1) := by decide +kernel
theorem dX5_isAhead_36 : decode cX5_isAhead 36 = .ok (.aload_n 0, 1) := by decide +kernel
theorem dX5_isAhead_37 : decode cX5_isAhead 37 = .ok (.getfield 25, 3) := by decide +kernel
theorem dX5_isAhead_40 : decode cX5_isAhead 40 = .ok (.iload_n 2, 1) := by decide +kernel
theorem dX5_isAhead_41 : decode cX5_isAhead 41 = .ok (.iaload, 1) := by decide +kernel
theorem dX5_isAhead_42 : decode cX5_isAhead 42 = .ok (.if_icmp .ge 7, 3) := by decide +kernel
theorem dX5_isAhead_45 : decode cX5_isAhead 45 = .ok (.iconst 1, 1) := by decide +kernel
theorem dX5_isAhead_46 : decode cX5_isAhead 46 = .ok (.goto 4, 3) := by decide +kernel
theorem dX5_isAhead_49 : decode cX5_isAhead 49 = .ok (.iconst 0, 1) := by decide +kernel
theorem dX5_isAhead_50 : decode cX5_isAhead 50 = .ok (.ireturn, 1) := by decide +kernel
theorem dX5_placeOf_0 : decode cX5_placeOf 0 = .ok (.iconst 0, 1) := by decide +kernel
theorem dX5_placeOf_1 : decode cX5_placeOf 1 = .ok (.istore_n 2, 1) := by decide +kernel
theorem dX5_placeOf_2 : decode cX5_placeOf 2 = .ok (.iconst 0, 1) := by decide +kernel
theorem dX5_placeOf_3 : decode cX5_placeOf 3 = .ok (.istore_n 3, 1) := by decide +kernel
theorem dX5_placeOf_4 : decode cX5_placeOf 4 = .ok (.iload_n 3, 1) := by decide +kernel
theorem dX5_placeOf_5 : decode cX5_placeOf 5 = .ok (.aload_n 0, 1) := by decide +kernel
theorem dX5_placeOf_6 : decode cX5_placeOf 6 = .ok (.getfield 93, 3) := by decide +kernel
theorem dX5_placeOf_9 : decode cX5_placeOf 9 = .ok (.if_icmp .ge 35, 3) := by decide +kernel
theorem dX5_placeOf_12 : decode cX5_placeOf 12 = .ok (.iload_n 2, 1) := by decide +kernel
theorem dX5_placeOf_13 : decode cX5_placeOf 13 = .ok (.aload_n 0, 1) := by decide +kernel
theorem dX5_placeOf_14 : decode cX5_placeOf 14 = .ok (.getfield 28, 3) := by decide +kernel
theorem dX5_placeOf_17 : decode cX5_placeOf 17 = .ok (.iload_n 3, 1) := by decide +kernel
theorem dX5_placeOf_18 : decode cX5_placeOf 18 = .ok (.baload, 1) := by decide +kernel
theorem dX5_placeOf_19 : decode cX5_placeOf 19 = .ok (.ifCond .eq 16, 3) := by decide +kernel
theorem dX5_placeOf_22 : decode cX5_placeOf 22 = .ok (.aload_n 0, 1) := by decide +kernel
theorem dX5_placeOf_23 : decode cX5_placeOf 23 = .ok (.iload_n 3, 1) := by decide +kernel
theorem dX5_placeOf_24 : decode cX5_placeOf 24 = .ok (.iload_n 1, 1) := by decide +kernel
theorem dX5_placeOf_25 : decode cX5_placeOf 25 = .ok (.invokevirtual 134, 3) := by decide +kernel
theorem dX5_placeOf_28 : decode cX5_placeOf 28 = .ok (.ifCond .eq 7, 3) := by decide +kernel
theorem dX5_placeOf_31 : decode cX5_placeOf 31 = .ok (.iconst 1, 1) := by decide +kernel
theorem dX5_placeOf_32 : decode cX5_placeOf 32 = .ok (.goto 4, 3) := by decide +kernel
theorem dX5_placeOf_35 : decode cX5_placeOf 35 = .ok (.iconst 0, 1) := by decide +kernel
theorem dX5_placeOf_36 : decode cX5_placeOf 36 = .ok (.iadd, 1) := by decide +kernel
theorem dX5_placeOf_37 : decode cX5_placeOf 37 = .ok (.istore_n 2, 1) := by decide +kernel
theorem dX5_placeOf_38 : decode cX5_placeOf 38 = .ok (.iinc 3 1, 3) := by decide +kernel
theorem dX5_placeOf_41 : decode cX5_placeOf 41 = .ok (.goto (-37), 3) := by decide +kernel
theorem dX5_placeOf_44 : decode cX5_placeOf 44 = .ok (.iload_n 2, 1) := by decide +kernel
theorem dX5_placeOf_45 : decode cX5_placeOf 45 = .ok (.ireturn, 1) := by decide +kernel
theorem dX5_at_0 : decode cX5_at 0 = .ok (.iconst (-1), 1) := by decide +kernel
theorem dX5_at_1 : decode cX5_at 1 = .ok (.istore_n 2, 1) := by decide +kernel
theorem dX5_at_2 : decode cX5_at 2 = .ok (.iconst 0, 1) := by decide +kernel
theorem dX5_at_3 : decode cX5_at 3 = .ok (.istore_n 3, 1) := by decide +kernel
theorem dX5_at_4 : decode cX5_at 4 = .ok (.iload_n 3, 1) := by decide +kernel
theorem dX5_at_5 : decode cX5_at 5 = .ok (.aload_n 0, 1) := by decide +kernel
theorem dX5_at_6 : decode cX5_at 6 = .ok (.getfield 93, 3) := by decide +kernel
theorem dX5_at_9 : decode cX5_at 9 = .ok (.if_icmp .ge 33, 3) := by decide +kernel
theorem dX5_at_12 : decode cX5_at 12 = .ok (.aload_n 0, 1) := by decide +kernel
theorem dX5_at_13 : decode cX5_at 13 = .ok (.getfield 28, 3) := by decide +kernel
theorem dX5_at_16 : decode cX5_at 16 = .ok (.iload_n 3, 1) := by decide +kernel
theorem dX5_at_17 : decode cX5_at 17 = .ok (.baload, 1) := by decide +kernel
theorem dX5_at_18 : decode cX5_at 18 = .ok (.ifCond .eq 16, 3) := by decide +kernel
theorem dX5_at_21 : decode cX5_at 21 = .ok (.aload_n 0, 1) := by decide +kernel
theorem dX5_at_22 : decode cX5_at 22 = .ok (.iload_n 3, 1) := by decide +kernel
theorem dX5_at_23 : decode cX5_at 23 = .ok (.invokevirtual 138, 3) := by decide +kernel
theorem dX5_at_26 : decode cX5_at 26 = .ok (.iload_n 1, 1) := by decide +kernel
theorem dX5_at_27 : decode cX5_at 27 = .ok (.if_icmp .ne 7, 3) := by decide +kernel
theorem dX5_at_30 : decode cX5_at 30 = .ok (.iload_n 3, 1) := by decide +kernel
theorem dX5_at_31 : decode cX5_at 31 = .ok (.goto 4, 3) := by decide +kernel
theorem dX5_at_34 : decode cX5_at 34 = .ok (.iload_n 2, 1) := by decide +kernel
theorem dX5_at_35 : decode cX5_at 35 = .ok (.istore_n 2, 1) := by decide +kernel
theorem dX5_at_36 : decode cX5_at 36 = .ok (.iinc 3 1, 3) := by decide +kernel
theorem dX5_at_39 : decode cX5_at 39 = .ok (.goto (-35), 3) := by decide +kernel
theorem dX5_at_42 : decode cX5_at 42 = .ok (.iload_n 2, 1) := by decide +kernel
theorem dX5_at_43 : decode cX5_at 43 = .ok (.ireturn, 1) := by decide +kernel
theorem dX5_standing_0 : decode cX5_standing 0 = .ok (.iconst 0, 1) := by decide +kernel
theorem dX5_standing_1 : decode cX5_standing 1 = .ok (.istore_n 1, 1) := by decide +kernel
theorem dX5_standing_2 : decode cX5_standing 2 = .ok (.iconst 0, 1) := by decide +kernel
theorem dX5_standing_3 : decode cX5_standing 3 = .ok (.istore_n 2, 1) := by decide +kernel
theorem dX5_standing_4 : decode cX5_standing 4 = .ok (.iload_n 2, 1) := by decide +kernel
theorem dX5_standing_5 : decode cX5_standing 5 = .ok (.aload_n 0, 1) := by decide +kernel
theorem dX5_standing_6 : decode cX5_standing 6 = .ok (.getfield 93, 3) := by decide +kernel
theorem dX5_standing_9 : decode cX5_standing 9 = .ok (.if_icmp .ge 26, 3) := by decide +kernel
theorem dX5_standing_12 : decode cX5_standing 12 = .ok (.iload_n 1, 1) := by decide +kernel
theorem dX5_standing_13 : decode cX5_standing 13 = .ok (.aload_n 0, 1) := by decide +kernel
theorem dX5_standing_14 : decode cX5_standing 14 = .ok (.getfield 28, 3) := by decide +kernel
theorem dX5_standing_17 : decode cX5_standing 17 = .ok (.iload_n 2, 1) := by decide +kernel
theorem dX5_standing_18 : decode cX5_standing 18 = .ok (.baload, 1) := by decide +kernel
theorem dX5_standing_19 : decode cX5_standing 19 = .ok (.ifCond .eq 7, 3) := by decide +kernel
theorem dX5_standing_22 : decode cX5_standing 22 = .ok (.iconst 1, 1) := by decide +kernel
theorem dX5_standing_23 : decode cX5_standing 23 = .ok (.goto 4, 3) := by decide +kernel
theorem dX5_standing_26 : decode cX5_standing 26 = .ok (.iconst 0, 1) := by decide +kernel
theorem dX5_standing_27 : decode cX5_standing 27 = .ok (.iadd, 1) := by decide +kernel
theorem dX5_standing_28 : decode cX5_standing 28 = .ok (.istore_n 1, 1) := by decide +kernel
theorem dX5_standing_29 : decode cX5_standing 29 = .ok (.iinc 2 1, 3) := by decide +kernel
theorem dX5_standing_32 : decode cX5_standing 32 = .ok (.goto (-28), 3) := by decide +kernel
theorem dX5_standing_35 : decode cX5_standing 35 = .ok (.iload_n 1, 1) := by decide +kernel
theorem dX5_standing_36 : decode cX5_standing 36 = .ok (.ireturn, 1) := by decide +kernel
theorem dX5_settles_0 : decode cX5_settles 0 = .ok (.aload_n 0, 1) := by decide +kernel
theorem dX5_settles_1 : decode cX5_settles 1 = .ok (.invokevirtual 141, 3) := by decide +kernel
theorem dX5_settles_4 : decode cX5_settles 4 = .ok (.aload_n 0, 1) := by decide +kernel
theorem dX5_settles_5 : decode cX5_settles 5 = .ok (.invokevirtual 144, 3) := by decide +kernel
theorem dX5_settles_8 : decode cX5_settles 8 = .ok (.istore_n 1, 1) := by decide +kernel
theorem dX5_settles_9 : decode cX5_settles 9 = .ok (.iconst 0, 1) := by decide +kernel
theorem dX5_settles_10 : decode cX5_settles 10 = .ok (.istore_n 2, 1) := by decide +kernel
theorem dX5_settles_11 : decode cX5_settles 11 = .ok (.iload_n 2, 1) := by decide +kernel
theorem dX5_settles_12 : decode cX5_settles 12 = .ok (.iload_n 1, 1) := by decide +kernel
theorem dX5_settles_13 : decode cX5_settles 13 = .ok (.if_icmp .ge 32, 3) := by decide +kernel
theorem dX5_settles_16 : decode cX5_settles 16 = .ok (.aload_n 0, 1) := by decide +kernel
theorem dX5_settles_17 : decode cX5_settles 17 = .ok (.iload_n 2, 1) := by decide +kernel
theorem dX5_settles_18 : decode cX5_settles 18 = .ok (.invokevirtual 148, 3) := by decide +kernel
theorem dX5_settles_21 : decode cX5_settles 21 = .ok (.istore_n 3, 1) := by decide +kernel
theorem dX5_settles_22 : decode cX5_settles 22 = .ok (.aload_n 0, 1) := by decide +kernel
theorem dX5_settles_23 : decode cX5_settles 23 = .ok (.getfield 47, 3) := by decide +kernel
theorem dX5_settles_26 : decode cX5_settles 26 = .ok (.iload_n 3, 1) := by decide +kernel
theorem dX5_settles_27 : decode cX5_settles 27 = .ok (.aload_n 0, 1) := by decide +kernel
theorem dX5_settles_28 : decode cX5_settles 28 = .ok (.iload_n 3, 1) := by decide +kernel
theorem dX5_settles_29 : decode cX5_settles 29 = .ok (.aload_n 0, 1) := by decide +kernel
theorem dX5_settles_30 : decode cX5_settles 30 = .ok (.getfield 86, 3) := by decide +kernel
theorem dX5_settles_33 : decode cX5_settles 33 = .ok (.iload_n 3, 1) := by decide +kernel
theorem dX5_settles_34 : decode cX5_settles 34 = .ok (.iaload, 1) := by decide +kernel
theorem dX5_settles_35 : decode cX5_settles 35 = .ok (.invokevirtual 151, 3) := by decide +kernel
theorem dX5_settles_38 : decode cX5_settles 38 = .ok (.iastore, 1) := by decide +kernel
theorem dX5_settles_39 : decode cX5_settles 39 = .ok (.iinc 2 1, 3) := by decide +kernel
theorem dX5_settles_42 : decode cX5_settles 42 = .ok (.goto (-31), 3) := by decide +kernel
theorem dX5_settles_45 : decode cX5_settles 45 = .ok (.return_, 1) := by decide +kernel
theorem dX5_toldNow_0 : decode cX5_toldNow 0 = .ok (.iconst 0, 1) := by decide +kernel
theorem dX5_toldNow_1 : decode cX5_toldNow 1 = .ok (.istore_n 1, 1) := by decide +kernel
theorem dX5_toldNow_2 : decode cX5_toldNow 2 = .ok (.iconst 0, 1) := by decide +kernel
theorem dX5_toldNow_3 : decode cX5_toldNow 3 = .ok (.istore_n 2, 1) := by decide +kernel
theorem dX5_toldNow_4 : decode cX5_toldNow 4 = .ok (.iload_n 2, 1) := by decide +kernel
theorem dX5_toldNow_5 : decode cX5_toldNow 5 = .ok (.aload_n 0, 1) := by decide +kernel
theorem dX5_toldNow_6 : decode cX5_toldNow 6 = .ok (.getfield 93, 3) := by decide +kernel
theorem dX5_toldNow_9 : decode cX5_toldNow 9 = .ok (.if_icmp .ge 26, 3) := by decide +kernel
theorem dX5_toldNow_12 : decode cX5_toldNow 12 = .ok (.iload_n 1, 1) := by decide +kernel
theorem dX5_toldNow_13 : decode cX5_toldNow 13 = .ok (.aload_n 0, 1) := by decide +kernel
theorem dX5_toldNow_14 : decode cX5_toldNow 14 = .ok (.getfield 41, 3) := by decide +kernel
theorem dX5_toldNow_17 : decode cX5_toldNow 17 = .ok (.iload_n 2, 1) := by decide +kernel
theorem dX5_toldNow_18 : decode cX5_toldNow 18 = .ok (.baload, 1) := by decide +kernel
theorem dX5_toldNow_19 : decode cX5_toldNow 19 = .ok (.ifCond .eq 7, 3) := by decide +kernel
theorem dX5_toldNow_22 : decode cX5_toldNow 22 = .ok (.iconst 1, 1) := by decide +kernel
theorem dX5_toldNow_23 : decode cX5_toldNow 23 = .ok (.goto 4, 3) := by decide +kernel
theorem dX5_toldNow_26 : decode cX5_toldNow 26 = .ok (.iconst 0, 1) := by decide +kernel
theorem dX5_toldNow_27 : decode cX5_toldNow 27 = .ok (.iadd, 1) := by decide +kernel
theorem dX5_toldNow_28 : decode cX5_toldNow 28 = .ok (.istore_n 1, 1) := by decide +kernel
theorem dX5_toldNow_29 : decode cX5_toldNow 29 = .ok (.iinc 2 1, 3) := by decide +kernel
theorem dX5_toldNow_32 : decode cX5_toldNow 32 = .ok (.goto (-28), 3) := by decide +kernel
theorem dX5_toldNow_35 : decode cX5_toldNow 35 = .ok (.iload_n 1, 1) := by decide +kernel
theorem dX5_toldNow_36 : decode cX5_toldNow 36 = .ok (.ireturn, 1) := by decide +kernel
theorem dX5_bid_0 : decode cX5_bid 0 = .ok (.aload_n 0, 1) := by decide +kernel
theorem dX5_bid_1 : decode cX5_bid 1 = .ok (.iload_n 1, 1) := by decide +kernel
theorem dX5_bid_2 : decode cX5_bid 2 = .ok (.invokevirtual 107, 3) := by decide +kernel
theorem dX5_bid_5 : decode cX5_bid 5 = .ok (.istore 4, 2) := by decide +kernel
theorem dX5_bid_7 : decode cX5_bid 7 = .ok (.iload_n 2, 1) := by decide +kernel
theorem dX5_bid_8 : decode cX5_bid 8 = .ok (.iconst 0, 1) := by decide +kernel
theorem dX5_bid_9 : decode cX5_bid 9 = .ok (.bipush 99, 2) := by decide +kernel
theorem dX5_bid_11 : decode cX5_bid 11 = .ok (.invokestatic 96, 3) := by decide +kernel
theorem dX5_bid_14 : decode cX5_bid 14 = .ok (.ifCond .eq 18, 3) := by decide +kernel
theorem dX5_bid_17 : decode cX5_bid 17 = .ok (.iload_n 3, 1) := by decide +kernel
theorem dX5_bid_18 : decode cX5_bid 18 = .ok (.iconst 0, 1) := by decide +kernel
theorem dX5_bid_19 : decode cX5_bid 19 = .ok (.sipush 999, 3) := by decide +kernel
theorem dX5_bid_22 : decode cX5_bid 22 = .ok (.invokestatic 96, 3) := by decide +kernel
theorem dX5_bid_25 : decode cX5_bid 25 = .ok (.ifCond .eq 7, 3) := by decide +kernel
theorem dX5_bid_28 : decode cX5_bid 28 = .ok (.iconst 1, 1) := by decide +kernel
theorem dX5_bid_29 : decode cX5_bid 29 = .ok (.goto 4, 3) := by decide +kernel
theorem dX5_bid_32 : decode cX5_bid 32 = .ok (.iconst 0, 1) := by decide +kernel
theorem dX5_bid_33 : decode cX5_bid 33 = .ok (.istore 5, 2) := by decide +kernel
theorem dX5_bid_35 : decode cX5_bid 35 = .ok (.iload 4, 2) := by decide +kernel
theorem dX5_bid_37 : decode cX5_bid 37 = .ok (.ifCond .eq 34, 3) := by decide +kernel
theorem dX5_bid_40 : decode cX5_bid 40 = .ok (.aload_n 0, 1) := by decide +kernel
theorem dX5_bid_41 : decode cX5_bid 41 = .ok (.getfield 110, 3) := by decide +kernel
theorem dX5_bid_44 : decode cX5_bid 44 = .ok (.iconst (-1), 1) := by decide +kernel
theorem dX5_bid_45 : decode cX5_bid 45 = .ok (.if_icmp .eq 26, 3) := by decide +kernel
theorem dX5_bid_48 : decode cX5_bid 48 = .ok (.aload_n 0, 1) := by decide +kernel
theorem dX5_bid_49 : decode cX5_bid 49 = .ok (.getfield 28, 3) := by decide +kernel
theorem dX5_bid_52 : decode cX5_bid 52 = .ok (.iload_n 1, 1) := by decide +kernel
theorem dX5_bid_53 : decode cX5_bid 53 = .ok (.baload, 1) := by decide +kernel
theorem dX5_bid_54 : decode cX5_bid 54 = .ok (.ifCond .eq 13, 3) := by decide +kernel
theorem dX5_bid_57 : decode cX5_bid 57 = .ok (.iload_n 2, 1) := by decide +kernel
theorem dX5_bid_58 : decode cX5_bid 58 = .ok (.aload_n 0, 1) := by decide +kernel
theorem dX5_bid_59 : decode cX5_bid 59 = .ok (.getfield 19, 3) := by decide +kernel
theorem dX5_bid_62 : decode cX5_bid 62 = .ok (.iload_n 1, 1) := by decide +kernel
theorem dX5_bid_63 : decode cX5_bid 63 = .ok (.iaload, 1) := by decide +kernel
theorem dX5_bid_64 : decode cX5_bid 64 = .ok (.if_icmp .lt 7, 3) := by decide +kernel
theorem dX5_bid_67 : decode cX5_bid 67 = .ok (.iconst 1, 1) := by decide +kernel
theorem dX5_bid_68 : decode cX5_bid 68 = .ok (.goto 4, 3) := by decide +kernel
theorem dX5_bid_71 : decode cX5_bid 71 = .ok (.iconst 0, 1) := by decide +kernel
theorem dX5_bid_72 : decode cX5_bid 72 = .ok (.istore 6, 2) := by decide +kernel
theorem dX5_bid_74 : decode cX5_bid 74 = .ok (.aload_n 0, 1) := by decide +kernel
theorem dX5_bid_75 : decode cX5_bid 75 = .ok (.iload 4, 2) := by decide +kernel
theorem dX5_bid_77 : decode cX5_bid 77 = .ok (.ifCond .ne 7, 3) := by decide +kernel
theorem dX5_bid_80 : decode cX5_bid 80 = .ok (.iconst 1, 1) := by decide +kernel
theorem dX5_bid_81 : decode cX5_bid 81 = .ok (.goto 22, 3) := by decide +kernel
theorem dX5_bid_84 : decode cX5_bid 84 = .ok (.iload 5, 2) := by decide +kernel
theorem dX5_bid_86 : decode cX5_bid 86 = .ok (.ifCond .ne 7, 3) := by decide +kernel
theorem dX5_bid_89 : decode cX5_bid 89 = .ok (.iconst 2, 1) := by decide +kernel
theorem dX5_bid_90 : decode cX5_bid 90 = .ok (.goto 13, 3) := by decide +kernel
theorem dX5_bid_93 : decode cX5_bid 93 = .ok (.iload 6, 2) := by decide +kernel
theorem dX5_bid_95 : decode cX5_bid 95 = .ok (.ifCond .eq 7, 3) := by decide +kernel
theorem dX5_bid_98 : decode cX5_bid 98 = .ok (.iconst 0, 1) := by decide +kernel
theorem dX5_bid_99 : decode cX5_bid 99 = .ok (.goto 4, 3) := by decide +kernel
theorem dX5_bid_102 : decode cX5_bid 102 = .ok (.iconst 3, 1) := by decide +kernel
theorem dX5_bid_103 : decode cX5_bid 103 = .ok (.invokevirtual 103, 3) := by decide +kernel
theorem dX5_bid_106 : decode cX5_bid 106 = .ok (.ifCond .ne 5, 3) := by decide +kernel
theorem dX5_bid_109 : decode cX5_bid 109 = .ok (.iconst 0, 1) := by decide +kernel
theorem dX5_bid_110 : decode cX5_bid 110 = .ok (.ireturn, 1) := by decide +kernel
theorem dX5_bid_111 : decode cX5_bid 111 = .ok (.aload_n 0, 1) := by decide +kernel
theorem dX5_bid_112 : decode cX5_bid 112 = .ok (.getfield 32, 3) := by decide +kernel
theorem dX5_bid_115 : decode cX5_bid 115 = .ok (.iload_n 1, 1) := by decide +kernel
theorem dX5_bid_116 : decode cX5_bid 116 = .ok (.iload_n 2, 1) := by decide +kernel
theorem dX5_bid_117 : decode cX5_bid 117 = .ok (.iastore, 1) := by decide +kernel
theorem dX5_bid_118 : decode cX5_bid 118 = .ok (.aload_n 0, 1) := by decide +kernel
theorem dX5_bid_119 : decode cX5_bid 119 = .ok (.getfield 35, 3) := by decide +kernel
theorem dX5_bid_122 : decode cX5_bid 122 = .ok (.iload_n 1, 1) := by decide +kernel
theorem dX5_bid_123 : decode cX5_bid 123 = .ok (.iload_n 3, 1) := by decide +kernel
theorem dX5_bid_124 : decode cX5_bid 124 = .ok (.iastore, 1) := by decide +kernel
theorem dX5_bid_125 : decode cX5_bid 125 = .ok (.aload_n 0, 1) := by decide +kernel
theorem dX5_bid_126 : decode cX5_bid 126 = .ok (.getfield 38, 3) := by decide +kernel
theorem dX5_bid_129 : decode cX5_bid 129 = .ok (.iload_n 1, 1) := by decide +kernel
theorem dX5_bid_130 : decode cX5_bid 130 = .ok (.aload_n 0, 1) := by decide +kernel
theorem dX5_bid_131 : decode cX5_bid 131 = .ok (.getfield 154, 3) := by decide +kernel
theorem dX5_bid_134 : decode cX5_bid 134 = .ok (.iastore, 1) := by decide +kernel
theorem dX5_bid_135 : decode cX5_bid 135 = .ok (.aload_n 0, 1) := by decide +kernel
theorem dX5_bid_136 : decode cX5_bid 136 = .ok (.getfield 41, 3) := by decide +kernel
theorem dX5_bid_139 : decode cX5_bid 139 = .ok (.iload_n 1, 1) := by decide +kernel
theorem dX5_bid_140 : decode cX5_bid 140 = .ok (.iconst 1, 1) := by decide +kernel
theorem dX5_bid_141 : decode cX5_bid 141 = .ok (.bastore, 1) := by decide +kernel
theorem dX5_bid_142 : decode cX5_bid 142 = .ok (.aload_n 0, 1) := by decide +kernel
theorem dX5_bid_143 : decode cX5_bid 143 = .ok (.dup, 1) := by decide +kernel
theorem dX5_bid_144 : decode cX5_bid 144 = .ok (.getfield 154, 3) := by decide +kernel
theorem dX5_bid_147 : decode cX5_bid 147 = .ok (.iconst 1, 1) := by decide +kernel
theorem dX5_bid_148 : decode cX5_bid 148 = .ok (.iadd, 1) := by decide +kernel
theorem dX5_bid_149 : decode cX5_bid 149 = .ok (.putfield 154, 3) := by decide +kernel
theorem dX5_bid_152 : decode cX5_bid 152 = .ok (.aload_n 0, 1) := by decide +kernel
theorem dX5_bid_153 : decode cX5_bid 153 = .ok (.invokevirtual 157, 3) := by decide +kernel
theorem dX5_bid_156 : decode cX5_bid 156 = .ok (.ireturn, 1) := by decide +kernel
theorem dX5_begins_0 : decode cX5_begins 0 = .ok (.iconst 0, 1) := by decide +kernel
theorem dX5_begins_1 : decode cX5_begins 1 = .ok (.istore_n 1, 1) := by decide +kernel
theorem dX5_begins_2 : decode cX5_begins 2 = .ok (.iload_n 1, 1) := by decide +kernel
theorem dX5_begins_3 : decode cX5_begins 3 = .ok (.aload_n 0, 1) := by decide +kernel
theorem dX5_begins_4 : decode cX5_begins 4 = .ok (.getfield 93, 3) := by decide +kernel
theorem dX5_begins_7 : decode cX5_begins 7 = .ok (.if_icmp .ge 21, 3) := by decide +kernel
theorem dX5_begins_10 : decode cX5_begins 10 = .ok (.aload_n 0, 1) := by decide +kernel
theorem dX5_begins_11 : decode cX5_begins 11 = .ok (.getfield 86, 3) := by decide +kernel
theorem dX5_begins_14 : decode cX5_begins 14 = .ok (.iload_n 1, 1) := by decide +kernel
theorem dX5_begins_15 : decode cX5_begins 15 = .ok (.aload_n 0, 1) := by decide +kernel
theorem dX5_begins_16 : decode cX5_begins 16 = .ok (.getfield 22, 3) := by decide +kernel
theorem dX5_begins_19 : decode cX5_begins 19 = .ok (.iload_n 1, 1) := by decide +kernel
theorem dX5_begins_20 : decode cX5_begins 20 = .ok (.iaload, 1) := by decide +kernel
theorem dX5_begins_21 : decode cX5_begins 21 = .ok (.iastore, 1) := by decide +kernel
theorem dX5_begins_22 : decode cX5_begins 22 = .ok (.iinc 1 1, 3) := by decide +kernel
theorem dX5_begins_25 : decode cX5_begins 25 = .ok (.goto (-23), 3) := by decide +kernel
theorem dX5_begins_28 : decode cX5_begins 28 = .ok (.aload_n 0, 1) := by decide +kernel
theorem dX5_begins_29 : decode cX5_begins 29 = .ok (.invokevirtual 160, 3) := by decide +kernel
theorem dX5_begins_32 : decode cX5_begins 32 = .ok (.iconst 0, 1) := by decide +kernel
theorem dX5_begins_33 : decode cX5_begins 33 = .ok (.istore_n 1, 1) := by decide +kernel
theorem dX5_begins_34 : decode cX5_begins 34 = .ok (.iload_n 1, 1) := by decide +kernel
theorem dX5_begins_35 : decode cX5_begins 35 = .ok (.aload_n 0, 1) := by decide +kernel
theorem dX5_begins_36 : decode cX5_begins 36 = .ok (.getfield 93, 3) := by decide +kernel
theorem dX5_begins_39 : decode cX5_begins 39 = .ok (.if_icmp .ge 31, 3) := by decide +kernel
theorem dX5_begins_42 : decode cX5_begins 42 = .ok (.aload_n 0, 1) := by decide +kernel
theorem dX5_begins_43 : decode cX5_begins 43 = .ok (.getfield 50, 3) := by decide +kernel
theorem dX5_begins_46 : decode cX5_begins 46 = .ok (.iload_n 1, 1) := by decide +kernel
theorem dX5_begins_47 : decode cX5_begins 47 = .ok (.dup2, 1) := by decide +kernel
theorem dX5_begins_48 : decode cX5_begins 48 = .ok (.iaload, 1) := by decide +kernel
theorem dX5_begins_49 : decode cX5_begins 49 = .ok (.aload_n 0, 1) := by decide +kernel
theorem dX5_begins_50 : decode cX5_begins 50 = .ok (.getfield 47, 3) := by decide +kernel
theorem dX5_begins_53 : decode cX5_begins 53 = .ok (.iload_n 1, 1) := by decide +kernel
theorem dX5_begins_54 : decode cX5_begins 54 = .ok (.iaload, 1) := by decide +kernel
theorem dX5_begins_55 : decode cX5_begins 55 = .ok (.aload_n 0, 1) := by decide +kernel
theorem dX5_begins_56 : decode cX5_begins 56 = .ok (.getfield 19, 3) := by decide +kernel
theorem dX5_begins_59 : decode cX5_begins 59 = .ok (.iload_n 1, 1) := by decide +kernel
theorem dX5_begins_60 : decode cX5_begins 60 = .ok (.iaload, 1) := by decide +kernel
theorem dX5_begins_61 : decode cX5_begins 61 = .ok (.imul, 1) := by decide +kernel
theorem dX5_begins_62 : decode cX5_begins 62 = .ok (.iadd, 1) := by decide +kernel
theorem dX5_begins_63 : decode cX5_begins 63 = .ok (.iastore, 1) := by decide +kernel
theorem dX5_begins_64 : decode cX5_begins 64 = .ok (.iinc 1 1, 3) := by decide +kernel
theorem dX5_begins_67 : decode cX5_begins 67 = .ok (.goto (-33), 3) := by decide +kernel
theorem dX5_begins_70 : decode cX5_begins 70 = .ok (.aload_n 0, 1) := by decide +kernel
theorem dX5_begins_71 : decode cX5_begins 71 = .ok (.iconst (-1), 1) := by decide +kernel
theorem dX5_begins_72 : decode cX5_begins 72 = .ok (.putfield 110, 3) := by decide +kernel
theorem dX5_begins_75 : decode cX5_begins 75 = .ok (.return_, 1) := by decide +kernel
theorem dX5_close_0 : decode cX5_close 0 = .ok (.aload_n 0, 1) := by decide +kernel
theorem dX5_close_1 : decode cX5_close 1 = .ok (.aload_n 0, 1) := by decide +kernel
theorem dX5_close_2 : decode cX5_close 2 = .ok (.getfield 110, 3) := by decide +kernel
theorem dX5_close_5 : decode cX5_close 5 = .ok (.iconst (-1), 1) := by decide +kernel
theorem dX5_close_6 : decode cX5_close 6 = .ok (.if_icmp .ne 7, 3) := by decide +kernel
theorem dX5_close_9 : decode cX5_close 9 = .ok (.iconst 1, 1) := by decide +kernel
theorem dX5_close_10 : decode cX5_close 10 = .ok (.goto 4, 3) := by decide +kernel
theorem dX5_close_13 : decode cX5_close 13 = .ok (.iconst 0, 1) := by decide +kernel
theorem dX5_close_14 : decode cX5_close 14 = .ok (.invokevirtual 103, 3) := by decide +kernel
theorem dX5_close_17 : decode cX5_close 17 = .ok (.ifCond .ne 5, 3) := by decide +kernel
theorem dX5_close_20 : decode cX5_close 20 = .ok (.iconst 0, 1) := by decide +kernel
theorem dX5_close_21 : decode cX5_close 21 = .ok (.ireturn, 1) := by decide +kernel
theorem dX5_close_22 : decode cX5_close 22 = .ok (.aload_n 0, 1) := by decide +kernel
theorem dX5_close_23 : decode cX5_close 23 = .ok (.invokevirtual 157, 3) := by decide +kernel
theorem dX5_close_26 : decode cX5_close 26 = .ok (.ifCond .eq 11, 3) := by decide +kernel
theorem dX5_close_29 : decode cX5_close 29 = .ok (.aload_n 0, 1) := by decide +kernel
theorem dX5_close_30 : decode cX5_close 30 = .ok (.getfield 110, 3) := by decide +kernel
theorem dX5_close_33 : decode cX5_close 33 = .ok (.iconst 4, 1) := by decide +kernel
theorem dX5_close_34 : decode cX5_close 34 = .ok (.if_icmp .ne 7, 3) := by decide +kernel
theorem dX5_close_37 : decode cX5_close 37 = .ok (.iconst 1, 1) := by decide +kernel
theorem dX5_close_38 : decode cX5_close 38 = .ok (.goto 4, 3) := by decide +kernel
theorem dX5_close_41 : decode cX5_close 41 = .ok (.iconst 0, 1) := by decide +kernel
theorem dX5_close_42 : decode cX5_close 42 = .ok (.istore_n 1, 1) := by decide +kernel
theorem dX5_close_43 : decode cX5_close 43 = .ok (.iconst 0, 1) := by decide +kernel
theorem dX5_close_44 : decode cX5_close 44 = .ok (.istore_n 2, 1) := by decide +kernel
theorem dX5_close_45 : decode cX5_close 45 = .ok (.iload_n 2, 1) := by decide +kernel
theorem dX5_close_46 : decode cX5_close 46 = .ok (.aload_n 0, 1) := by decide +kernel
theorem dX5_close_47 : decode cX5_close 47 = .ok (.getfield 93, 3) := by decide +kernel
theorem dX5_close_50 : decode cX5_close 50 = .ok (.if_icmp .ge 120, 3) := by decide +kernel
theorem dX5_close_53 : decode cX5_close 53 = .ok (.aload_n 0, 1) := by decide +kernel
theorem dX5_close_54 : decode cX5_close 54 = .ok (.getfield 41, 3) := by decide +kernel
theorem dX5_close_57 : decode cX5_close 57 = .ok (.iload_n 2, 1) := by decide +kernel
theorem dX5_close_58 : decode cX5_close 58 = .ok (.baload, 1) := by decide +kernel
theorem dX5_close_59 : decode cX5_close 59 = .ok (.ifCond .eq 49, 3) := by decide +kernel
theorem dX5_close_62 : decode cX5_close 62 = .ok (.aload_n 0, 1) := by decide +kernel
theorem dX5_close_63 : decode cX5_close 63 = .ok (.getfield 19, 3) := by decide +kernel
theorem dX5_close_66 : decode cX5_close 66 = .ok (.iload_n 2, 1) := by decide +kernel
theorem dX5_close_67 : decode cX5_close 67 = .ok (.aload_n 0, 1) := by decide +kernel
theorem dX5_close_68 : decode cX5_close 68 = .ok (.getfield 32, 3) := by decide +kernel
theorem dX5_close_71 : decode cX5_close 71 = .ok (.iload_n 2, 1) := by decide +kernel
theorem dX5_close_72 : decode cX5_close 72 = .ok (.iaload, 1) := by decide +kernel
theorem dX5_close_73 : decode cX5_close 73 = .ok (.iastore, 1) := by decide +kernel
theorem dX5_close_74 : decode cX5_close 74 = .ok (.aload_n 0, 1) := by decide +kernel
theorem dX5_close_75 : decode cX5_close 75 = .ok (.getfield 22, 3) := by decide +kernel
theorem dX5_close_78 : decode cX5_close 78 = .ok (.iload_n 2, 1) := by decide +kernel
theorem dX5_close_79 : decode cX5_close 79 = .ok (.aload_n 0, 1) := by decide +kernel
theorem dX5_close_80 : decode cX5_close 80 = .ok (.getfield 35, 3) := by decide +kernel
theorem dX5_close_83 : decode cX5_close 83 = .ok (.iload_n 2, 1) := by decide +kernel
theorem dX5_close_84 : decode cX5_close 84 = .ok (.iaload, 1) := by decide +kernel
theorem dX5_close_85 : decode cX5_close 85 = .ok (.iastore, 1) := by decide +kernel
theorem dX5_close_86 : decode cX5_close 86 = .ok (.aload_n 0, 1) := by decide +kernel
theorem dX5_close_87 : decode cX5_close 87 = .ok (.getfield 25, 3) := by decide +kernel
theorem dX5_close_90 : decode cX5_close 90 = .ok (.iload_n 2, 1) := by decide +kernel
theorem dX5_close_91 : decode cX5_close 91 = .ok (.aload_n 0, 1) := by decide +kernel
theorem dX5_close_92 : decode cX5_close 92 = .ok (.getfield 38, 3) := by decide +kernel
theorem dX5_close_95 : decode cX5_close 95 = .ok (.iload_n 2, 1) := by decide +kernel
theorem dX5_close_96 : decode cX5_close 96 = .ok (.iaload, 1) := by decide +kernel
theorem dX5_close_97 : decode cX5_close 97 = .ok (.iastore, 1) := by decide +kernel
theorem dX5_close_98 : decode cX5_close 98 = .ok (.aload_n 0, 1) := by decide +kernel
theorem dX5_close_99 : decode cX5_close 99 = .ok (.getfield 28, 3) := by decide +kernel
theorem dX5_close_102 : decode cX5_close 102 = .ok (.iload_n 2, 1) := by decide +kernel
theorem dX5_close_103 : decode cX5_close 103 = .ok (.iconst 1, 1) := by decide +kernel
theorem dX5_close_104 : decode cX5_close 104 = .ok (.bastore, 1) := by decide +kernel
theorem dX5_close_105 : decode cX5_close 105 = .ok (.goto 32, 3) := by decide +kernel
theorem dX5_close_108 : decode cX5_close 108 = .ok (.aload_n 0, 1) := by decide +kernel
theorem dX5_close_109 : decode cX5_close 109 = .ok (.getfield 28, 3) := by decide +kernel
theorem dX5_close_112 : decode cX5_close 112 = .ok (.iload_n 2, 1) := by decide +kernel
theorem dX5_close_113 : decode cX5_close 113 = .ok (.aload_n 0, 1) := by decide +kernel
theorem dX5_close_114 : decode cX5_close 114 = .ok (.getfield 28, 3) := by decide +kernel
theorem dX5_close_117 : decode cX5_close 117 = .ok (.iload_n 2, 1) := by decide +kernel
theorem dX5_close_118 : decode cX5_close 118 = .ok (.baload, 1) := by decide +kernel
theorem dX5_close_119 : decode cX5_close 119 = .ok (.ifCond .eq 16, 3) := by decide +kernel
theorem dX5_close_122 : decode cX5_close 122 = .ok (.aload_n 0, 1) := by decide +kernel
theorem dX5_close_123 : decode cX5_close 123 = .ok (.getfield 44, 3) := by decide +kernel
theorem dX5_close_126 : decode cX5_close 126 = .ok (.iload_n 2, 1) := by decide +kernel
theorem dX5_close_127 : decode cX5_close 127 = .ok (.baload, 1) := by decide +kernel
theorem dX5_close_128 : decode cX5_close 128 = .ok (.ifCond .ne 7, 3) := by decide +kernel
theorem dX5_close_131 : decode cX5_close 131 = .ok (.iconst 1, 1) := by decide +kernel
theorem dX5_close_132 : decode cX5_close 132 = .ok (.goto 4, 3) := by decide +kernel
theorem dX5_close_135 : decode cX5_close 135 = .ok (.iconst 0, 1) := by decide +kernel
theorem dX5_close_136 : decode cX5_close 136 = .ok (.bastore, 1) := by decide +kernel
theorem dX5_close_137 : decode cX5_close 137 = .ok (.aload_n 0, 1) := by decide +kernel
theorem dX5_close_138 : decode cX5_close 138 = .ok (.getfield 44, 3) := by decide +kernel
theorem dX5_close_141 : decode cX5_close 141 = .ok (.iload_n 2, 1) := by decide +kernel
theorem dX5_close_142 : decode cX5_close 142 = .ok (.aload_n 0, 1) := by decide +kernel
theorem dX5_close_143 : decode cX5_close 143 = .ok (.getfield 41, 3) := by decide +kernel
theorem dX5_close_146 : decode cX5_close 146 = .ok (.iload_n 2, 1) := by decide +kernel
theorem dX5_close_147 : decode cX5_close 147 = .ok (.baload, 1) := by decide +kernel
theorem dX5_close_148 : decode cX5_close 148 = .ok (.ifCond .ne 7, 3) := by decide +kernel
theorem dX5_close_151 : decode cX5_close 151 = .ok (.iconst 1, 1) := by decide +kernel
theorem dX5_close_152 : decode cX5_close 152 = .ok (.goto 4, 3) := by decide +kernel
theorem dX5_close_155 : decode cX5_close 155 = .ok (.iconst 0, 1) := by decide +kernel
theorem dX5_close_156 : decode cX5_close 156 = .ok (.bastore, 1) := by decide +kernel
theorem dX5_close_157 : decode cX5_close 157 = .ok (.aload_n 0, 1) := by decide +kernel
theorem dX5_close_158 : decode cX5_close 158 = .ok (.getfield 41, 3) := by decide +kernel
theorem dX5_close_161 : decode cX5_close 161 = .ok (.iload_n 2, 1) := by decide +kernel
theorem dX5_close_162 : decode cX5_close 162 = .ok (.iconst 0, 1) := by decide +kernel
theorem dX5_close_163 : decode cX5_close 163 = .ok (.bastore, 1) := by decide +kernel
theorem dX5_close_164 : decode cX5_close 164 = .ok (.iinc 2 1, 3) := by decide +kernel
theorem dX5_close_167 : decode cX5_close 167 = .ok (.goto (-122), 3) := by decide +kernel
theorem dX5_close_170 : decode cX5_close 170 = .ok (.aload_n 0, 1) := by decide +kernel
theorem dX5_close_171 : decode cX5_close 171 = .ok (.dup, 1) := by decide +kernel
theorem dX5_close_172 : decode cX5_close 172 = .ok (.getfield 110, 3) := by decide +kernel
theorem dX5_close_175 : decode cX5_close 175 = .ok (.iconst 1, 1) := by decide +kernel
theorem dX5_close_176 : decode cX5_close 176 = .ok (.iadd, 1) := by decide +kernel
theorem dX5_close_177 : decode cX5_close 177 = .ok (.putfield 110, 3) := by decide +kernel
theorem dX5_close_180 : decode cX5_close 180 = .ok (.iload_n 1, 1) := by decide +kernel
theorem dX5_close_181 : decode cX5_close 181 = .ok (.ifCond .eq 7, 3) := by decide +kernel
theorem dX5_close_184 : decode cX5_close 184 = .ok (.aload_n 0, 1) := by decide +kernel
theorem dX5_close_185 : decode cX5_close 185 = .ok (.invokevirtual 163, 3) := by decide +kernel
theorem dX5_close_188 : decode cX5_close 188 = .ok (.iload_n 1, 1) := by decide +kernel
theorem dX5_close_189 : decode cX5_close 189 = .ok (.ireturn, 1) := by decide +kernel
theorem dX5_burst_0 : decode cX5_burst 0 = .ok (.aload_n 0, 1) := by decide +kernel
theorem dX5_burst_1 : decode cX5_burst 1 = .ok (.iload_n 1, 1) := by decide +kernel
theorem dX5_burst_2 : decode cX5_burst 2 = .ok (.invokevirtual 166, 3) := by decide +kernel
theorem dX5_burst_5 : decode cX5_burst 5 = .ok (.istore_n 2, 1) := by decide +kernel
theorem dX5_burst_6 : decode cX5_burst 6 = .ok (.aload_n 0, 1) := by decide +kernel
theorem dX5_burst_7 : decode cX5_burst 7 = .ok (.iload_n 2, 1) := by decide +kernel
theorem dX5_burst_8 : decode cX5_burst 8 = .ok (.ifCond .ne 7, 3) := by decide +kernel
theorem dX5_burst_11 : decode cX5_burst 11 = .ok (.iconst 1, 1) := by decide +kernel
theorem dX5_burst_12 : decode cX5_burst 12 = .ok (.goto 17, 3) := by decide +kernel
theorem dX5_burst_15 : decode cX5_burst 15 = .ok (.aload_n 0, 1) := by decide +kernel
theorem dX5_burst_16 : decode cX5_burst 16 = .ok (.getfield 74, 3) := by decide +kernel
theorem dX5_burst_19 : decode cX5_burst 19 = .ok (.iload_n 1, 1) := by decide +kernel
theorem dX5_burst_20 : decode cX5_burst 20 = .ok (.baload, 1) := by decide +kernel
theorem dX5_burst_21 : decode cX5_burst 21 = .ok (.ifCond .eq 7, 3) := by decide +kernel
theorem dX5_burst_24 : decode cX5_burst 24 = .ok (.iconst 2, 1) := by decide +kernel
theorem dX5_burst_25 : decode cX5_burst 25 = .ok (.goto 4, 3) := by decide +kernel
theorem dX5_burst_28 : decode cX5_burst 28 = .ok (.iconst 0, 1) := by decide +kernel
theorem dX5_burst_29 : decode cX5_burst 29 = .ok (.invokevirtual 103, 3) := by decide +kernel
theorem dX5_burst_32 : decode cX5_burst 32 = .ok (.ifCond .ne 5, 3) := by decide +kernel
theorem dX5_burst_35 : decode cX5_burst 35 = .ok (.iconst 0, 1) := by decide +kernel
theorem dX5_burst_36 : decode cX5_burst 36 = .ok (.ireturn, 1) := by decide +kernel
theorem dX5_burst_37 : decode cX5_burst 37 = .ok (.aload_n 0, 1) := by decide +kernel
theorem dX5_burst_38 : decode cX5_burst 38 = .ok (.getfield 74, 3) := by decide +kernel
theorem dX5_burst_41 : decode cX5_burst 41 = .ok (.iload_n 1, 1) := by decide +kernel
theorem dX5_burst_42 : decode cX5_burst 42 = .ok (.iconst 1, 1) := by decide +kernel
theorem dX5_burst_43 : decode cX5_burst 43 = .ok (.bastore, 1) := by decide +kernel
theorem dX5_burst_44 : decode cX5_burst 44 = .ok (.aload_n 0, 1) := by decide +kernel
theorem dX5_burst_45 : decode cX5_burst 45 = .ok (.getfield 110, 3) := by decide +kernel
theorem dX5_burst_48 : decode cX5_burst 48 = .ok (.iconst (-1), 1) := by decide +kernel
theorem dX5_burst_49 : decode cX5_burst 49 = .ok (.if_icmp .eq 5, 3) := by decide +kernel
theorem dX5_burst_52 : decode cX5_burst 52 = .ok (.iconst 0, 1) := by decide +kernel
theorem dX5_burst_53 : decode cX5_burst 53 = .ok (.ireturn, 1) := by decide +kernel
theorem dX5_burst_54 : decode cX5_burst 54 = .ok (.iconst 0, 1) := by decide +kernel
theorem dX5_burst_55 : decode cX5_burst 55 = .ok (.istore_n 3, 1) := by decide +kernel
theorem dX5_burst_56 : decode cX5_burst 56 = .ok (.iload_n 3, 1) := by decide +kernel
theorem dX5_burst_57 : decode cX5_burst 57 = .ok (.aload_n 0, 1) := by decide +kernel
theorem dX5_burst_58 : decode cX5_burst 58 = .ok (.getfield 93, 3) := by decide +kernel
theorem dX5_burst_61 : decode cX5_burst 61 = .ok (.if_icmp .ge 21, 3) := by decide +kernel
theorem dX5_burst_64 : decode cX5_burst 64 = .ok (.aload_n 0, 1) := by decide +kernel
theorem dX5_burst_65 : decode cX5_burst 65 = .ok (.getfield 86, 3) := by decide +kernel
theorem dX5_burst_68 : decode cX5_burst 68 = .ok (.iload_n 3, 1) := by decide +kernel
theorem dX5_burst_69 : decode cX5_burst 69 = .ok (.aload_n 0, 1) := by decide +kernel
theorem dX5_burst_70 : decode cX5_burst 70 = .ok (.getfield 47, 3) := by decide +kernel
theorem dX5_burst_73 : decode cX5_burst 73 = .ok (.iload_n 3, 1) := by decide +kernel
theorem dX5_burst_74 : decode cX5_burst 74 = .ok (.iaload, 1) := by decide +kernel
theorem dX5_burst_75 : decode cX5_burst 75 = .ok (.iastore, 1) := by decide +kernel
theorem dX5_burst_76 : decode cX5_burst 76 = .ok (.iinc 3 1, 3) := by decide +kernel
theorem dX5_burst_79 : decode cX5_burst 79 = .ok (.goto (-23), 3) := by decide +kernel
theorem dX5_burst_82 : decode cX5_burst 82 = .ok (.aload_n 0, 1) := by decide +kernel
theorem dX5_burst_83 : decode cX5_burst 83 = .ok (.invokevirtual 160, 3) := by decide +kernel
theorem dX5_burst_86 : decode cX5_burst 86 = .ok (.iconst 0, 1) := by decide +kernel
theorem dX5_burst_87 : decode cX5_burst 87 = .ok (.istore_n 3, 1) := by decide +kernel
theorem dX5_burst_88 : decode cX5_burst 88 = .ok (.iconst 0, 1) := by decide +kernel
theorem dX5_burst_89 : decode cX5_burst 89 = .ok (.istore 4, 2) := by decide +kernel
theorem dX5_burst_91 : decode cX5_burst 91 = .ok (.iload 4, 2) := by decide +kernel
theorem dX5_burst_93 : decode cX5_burst 93 = .ok (.aload_n 0, 1) := by decide +kernel
theorem dX5_burst_94 : decode cX5_burst 94 = .ok (.getfield 93, 3) := by decide +kernel
theorem dX5_burst_97 : decode cX5_burst 97 = .ok (.if_icmp .ge 65, 3) := by decide +kernel
theorem dX5_burst_100 : decode cX5_burst 100 = .ok (.aload_n 0, 1) := by decide +kernel
theorem dX5_burst_101 : decode cX5_burst 101 = .ok (.getfield 86, 3) := by decide +kernel
theorem dX5_burst_104 : decode cX5_burst 104 = .ok (.iload 4, 2) := by decide +kernel
theorem dX5_burst_106 : decode cX5_burst 106 = .ok (.iaload, 1) := by decide +kernel
theorem dX5_burst_107 : decode cX5_burst 107 = .ok (.aload_n 0, 1) := by decide +kernel
theorem dX5_burst_108 : decode cX5_burst 108 = .ok (.getfield 47, 3) := by decide +kernel
theorem dX5_burst_111 : decode cX5_burst 111 = .ok (.iload 4, 2) := by decide +kernel
theorem dX5_burst_113 : decode cX5_burst 113 = .ok (.iaload, 1) := by decide +kernel
theorem dX5_burst_114 : decode cX5_burst 114 = .ok (.isub, 1) := by decide +kernel
theorem dX5_burst_115 : decode cX5_burst 115 = .ok (.istore 5, 2) := by decide +kernel
theorem dX5_burst_117 : decode cX5_burst 117 = .ok (.aload_n 0, 1) := by decide +kernel
theorem dX5_burst_118 : decode cX5_burst 118 = .ok (.getfield 53, 3) := by decide +kernel
theorem dX5_burst_121 : decode cX5_burst 121 = .ok (.iload 4, 2) := by decide +kernel
theorem dX5_burst_123 : decode cX5_burst 123 = .ok (.dup2, 1) := by decide +kernel
theorem dX5_burst_124 : decode cX5_burst 124 = .ok (.iaload, 1) := by decide +kernel
theorem dX5_burst_125 : decode cX5_burst 125 = .ok (.iload 5, 2) := by decide +kernel
theorem dX5_burst_127 : decode cX5_burst 127 = .ok (.aload_n 0, 1) := by decide +kernel
theorem dX5_burst_128 : decode cX5_burst 128 = .ok (.getfield 19, 3) := by decide +kernel
theorem dX5_burst_131 : decode cX5_burst 131 = .ok (.iload 4, 2) := by decide +kernel
theorem dX5_burst_133 : decode cX5_burst 133 = .ok (.iaload, 1) := by decide +kernel
theorem dX5_burst_134 : decode cX5_burst 134 = .ok (.imul, 1) := by decide +kernel
theorem dX5_burst_135 : decode cX5_burst 135 = .ok (.iload 5, 2) := by decide +kernel
theorem dX5_burst_137 : decode cX5_burst 137 = .ok (.aload_n 0, 1) := by decide +kernel
theorem dX5_burst_138 : decode cX5_burst 138 = .ok (.getfield 19, 3) := by decide +kernel
theorem dX5_burst_141 : decode cX5_burst 141 = .ok (.iload 4, 2) := by decide +kernel
theorem dX5_burst_143 : decode cX5_burst 143 = .ok (.iaload, 1) := by decide +kernel
theorem dX5_burst_144 : decode cX5_burst 144 = .ok (.imul, 1) := by decide +kernel
theorem dX5_burst_145 : decode cX5_burst 145 = .ok (.bipush 10, 2) := by decide +kernel
theorem dX5_burst_147 : decode cX5_burst 147 = .ok (.idiv, 1) := by decide +kernel
theorem dX5_burst_148 : decode cX5_burst 148 = .ok (.iadd, 1) := by decide +kernel
theorem dX5_burst_149 : decode cX5_burst 149 = .ok (.iadd, 1) := by decide +kernel
theorem dX5_burst_150 : decode cX5_burst 150 = .ok (.iastore, 1) := by decide +kernel
theorem dX5_burst_151 : decode cX5_burst 151 = .ok (.iload_n 3, 1) := by decide +kernel
theorem dX5_burst_152 : decode cX5_burst 152 = .ok (.iload 5, 2) := by decide +kernel
theorem dX5_burst_154 : decode cX5_burst 154 = .ok (.iadd, 1) := by decide +kernel
theorem dX5_burst_155 : decode cX5_burst 155 = .ok (.istore_n 3, 1) := by decide +kernel
theorem dX5_burst_156 : decode cX5_burst 156 = .ok (.iinc 4 1, 3) := by decide +kernel
theorem dX5_burst_159 : decode cX5_burst 159 = .ok (.goto (-68), 3) := by decide +kernel
theorem dX5_burst_162 : decode cX5_burst 162 = .ok (.iload_n 3, 1) := by decide +kernel
theorem dX5_burst_163 : decode cX5_burst 163 = .ok (.ireturn, 1) := by decide +kernel
theorem dX5_repair_0 : decode cX5_repair 0 = .ok (.aload_n 0, 1) := by decide +kernel
theorem dX5_repair_1 : decode cX5_repair 1 = .ok (.iload_n 1, 1) := by decide +kernel
theorem dX5_repair_2 : decode cX5_repair 2 = .ok (.invokevirtual 166, 3) := by decide +kernel
theorem dX5_repair_5 : decode cX5_repair 5 = .ok (.istore_n 2, 1) := by decide +kernel
theorem dX5_repair_6 : decode cX5_repair 6 = .ok (.aload_n 0, 1) := by decide +kernel
theorem dX5_repair_7 : decode cX5_repair 7 = .ok (.iload_n 2, 1) := by decide +kernel
theorem dX5_repair_8 : decode cX5_repair 8 = .ok (.ifCond .ne 7, 3) := by decide +kernel
theorem dX5_repair_11 : decode cX5_repair 11 = .ok (.iconst 1, 1) := by decide +kernel
theorem dX5_repair_12 : decode cX5_repair 12 = .ok (.goto 25, 3) := by decide +kernel
theorem dX5_repair_15 : decode cX5_repair 15 = .ok (.aload_n 0, 1) := by decide +kernel
theorem dX5_repair_16 : decode cX5_repair 16 = .ok (.getfield 74, 3) := by decide +kernel
theorem dX5_repair_19 : decode cX5_repair 19 = .ok (.iload_n 1, 1) := by decide +kernel
theorem dX5_repair_20 : decode cX5_repair 20 = .ok (.baload, 1) := by decide +kernel
theorem dX5_repair_21 : decode cX5_repair 21 = .ok (.ifCond .eq 11, 3) := by decide +kernel
theorem dX5_repair_24 : decode cX5_repair 24 = .ok (.aload_n 0, 1) := by decide +kernel
theorem dX5_repair_25 : decode cX5_repair 25 = .ok (.getfield 110, 3) := by decide +kernel
theorem dX5_repair_28 : decode cX5_repair 28 = .ok (.iconst (-1), 1) := by decide +kernel
theorem dX5_repair_29 : decode cX5_repair 29 = .ok (.if_icmp .ne 7, 3) := by decide +kernel
theorem dX5_repair_32 : decode cX5_repair 32 = .ok (.iconst 2, 1) := by decide +kernel
theorem dX5_repair_33 : decode cX5_repair 33 = .ok (.goto 4, 3) := by decide +kernel
theorem dX5_repair_36 : decode cX5_repair 36 = .ok (.iconst 0, 1) := by decide +kernel
theorem dX5_repair_37 : decode cX5_repair 37 = .ok (.invokevirtual 103, 3) := by decide +kernel
theorem dX5_repair_40 : decode cX5_repair 40 = .ok (.ifCond .eq 10, 3) := by decide +kernel
theorem dX5_repair_43 : decode cX5_repair 43 = .ok (.aload_n 0, 1) := by decide +kernel
theorem dX5_repair_44 : decode cX5_repair 44 = .ok (.getfield 74, 3) := by decide +kernel
theorem dX5_repair_47 : decode cX5_repair 47 = .ok (.iload_n 1, 1) := by decide +kernel
theorem dX5_repair_48 : decode cX5_repair 48 = .ok (.iconst 0, 1) := by decide +kernel
theorem dX5_repair_49 : decode cX5_repair 49 = .ok (.bastore, 1) := by decide +kernel
theorem dX5_repair_50 : decode cX5_repair 50 = .ok (.return_, 1) := by decide +kernel
theorem dX5_end_0 : decode cX5_end 0 = .ok (.aload_n 0, 1) := by decide +kernel
theorem dX5_end_1 : decode cX5_end 1 = .ok (.aload_n 0, 1) := by decide +kernel
theorem dX5_end_2 : decode cX5_end 2 = .ok (.getfield 110, 3) := by decide +kernel
theorem dX5_end_5 : decode cX5_end 5 = .ok (.iconst (-1), 1) := by decide +kernel
theorem dX5_end_6 : decode cX5_end 6 = .ok (.if_icmp .ne 13, 3) := by decide +kernel
theorem dX5_end_9 : decode cX5_end 9 = .ok (.aload_n 0, 1) := by decide +kernel
theorem dX5_end_10 : decode cX5_end 10 = .ok (.getfield 169, 3) := by decide +kernel
theorem dX5_end_13 : decode cX5_end 13 = .ok (.sipush 1000, 3) := by decide +kernel
theorem dX5_end_16 : decode cX5_end 16 = .ok (.if_icmp .ne 7, 3) := by decide +kernel
theorem dX5_end_19 : decode cX5_end 19 = .ok (.iconst 1, 1) := by decide +kernel
theorem dX5_end_20 : decode cX5_end 20 = .ok (.goto 4, 3) := by decide +kernel
theorem dX5_end_23 : decode cX5_end 23 = .ok (.iconst 0, 1) := by decide +kernel
theorem dX5_end_24 : decode cX5_end 24 = .ok (.invokevirtual 103, 3) := by decide +kernel
theorem dX5_end_27 : decode cX5_end 27 = .ok (.ifCond .ne 5, 3) := by decide +kernel
theorem dX5_end_30 : decode cX5_end 30 = .ok (.iconst 0, 1) := by decide +kernel
theorem dX5_end_31 : decode cX5_end 31 = .ok (.ireturn, 1) := by decide +kernel
theorem dX5_end_32 : decode cX5_end 32 = .ok (.iconst 0, 1) := by decide +kernel
theorem dX5_end_33 : decode cX5_end 33 = .ok (.istore_n 1, 1) := by decide +kernel
theorem dX5_end_34 : decode cX5_end 34 = .ok (.iconst 0, 1) := by decide +kernel
theorem dX5_end_35 : decode cX5_end 35 = .ok (.istore_n 2, 1) := by decide +kernel
theorem dX5_end_36 : decode cX5_end 36 = .ok (.iload_n 2, 1) := by decide +kernel
theorem dX5_end_37 : decode cX5_end 37 = .ok (.aload_n 0, 1) := by decide +kernel
theorem dX5_end_38 : decode cX5_end 38 = .ok (.getfield 93, 3) := by decide +kernel
theorem dX5_end_41 : decode cX5_end 41 = .ok (.if_icmp .ge 178, 3) := by decide +kernel
theorem dX5_end_44 : decode cX5_end 44 = .ok (.aload_n 0, 1) := by decide +kernel
theorem dX5_end_45 : decode cX5_end 45 = .ok (.getfield 47, 3) := by decide +kernel
theorem dX5_end_48 : decode cX5_end 48 = .ok (.iload_n 2, 1) := by decide +kernel
theorem dX5_end_49 : decode cX5_end 49 = .ok (.iaload, 1) := by decide +kernel
theorem dX5_end_50 : decode cX5_end 50 = .ok (.aload_n 0, 1) := by decide +kernel
theorem dX5_end_51 : decode cX5_end 51 = .ok (.getfield 7, 3) := by decide +kernel
theorem dX5_end_54 : decode cX5_end 54 = .ok (.iload_n 2, 1) := by decide +kernel
theorem dX5_end_55 : decode cX5_end 55 = .ok (.iaload, 1) := by decide +kernel
theorem dX5_end_56 : decode cX5_end 56 = .ok (.aload_n 0, 1) := by decide +kernel
theorem dX5_end_57 : decode cX5_end 57 = .ok (.getfield 16, 3) := by decide +kernel
theorem dX5_end_60 : decode cX5_end 60 = .ok (.iload_n 2, 1) := by decide +kernel
theorem dX5_end_61 : decode cX5_end 61 = .ok (.iaload, 1) := by decide +kernel
theorem dX5_end_62 : decode cX5_end 62 = .ok (.isub, 1) := by decide +kernel
theorem dX5_end_63 : decode cX5_end 63 = .ok (.invokestatic 126, 3) := by decide +kernel
theorem dX5_end_66 : decode cX5_end 66 = .ok (.istore_n 3, 1) := by decide +kernel
theorem dX5_end_67 : decode cX5_end 67 = .ok (.aload_n 0, 1) := by decide +kernel
theorem dX5_end_68 : decode cX5_end 68 = .ok (.getfield 16, 3) := by decide +kernel
theorem dX5_end_71 : decode cX5_end 71 = .ok (.iload_n 2, 1) := by decide +kernel
theorem dX5_end_72 : decode cX5_end 72 = .ok (.dup2, 1) := by decide +kernel
theorem dX5_end_73 : decode cX5_end 73 = .ok (.iaload, 1) := by decide +kernel
theorem dX5_end_74 : decode cX5_end 74 = .ok (.iload_n 3, 1) := by decide +kernel
theorem dX5_end_75 : decode cX5_end 75 = .ok (.iadd, 1) := by decide +kernel
theorem dX5_end_76 : decode cX5_end 76 = .ok (.iastore, 1) := by decide +kernel
theorem dX5_end_77 : decode cX5_end 77 = .ok (.aload_n 0, 1) := by decide +kernel
theorem dX5_end_78 : decode cX5_end 78 = .ok (.getfield 62, 3) := by decide +kernel
theorem dX5_end_81 : decode cX5_end 81 = .ok (.iload_n 2, 1) := by decide +kernel
theorem dX5_end_82 : decode cX5_end 82 = .ok (.dup2, 1) := by decide +kernel
theorem dX5_end_83 : decode cX5_end 83 = .ok (.iaload, 1) := by decide +kernel
theorem dX5_end_84 : decode cX5_end 84 = .ok (.aload_n 0, 1) := by decide +kernel
theorem dX5_end_85 : decode cX5_end 85 = .ok (.getfield 47, 3) := by decide +kernel
theorem dX5_end_88 : decode cX5_end 88 = .ok (.iload_n 2, 1) := by decide +kernel
theorem dX5_end_89 : decode cX5_end 89 = .ok (.iaload, 1) := by decide +kernel
theorem dX5_end_90 : decode cX5_end 90 = .ok (.iload_n 3, 1) := by decide +kernel
theorem dX5_end_91 : decode cX5_end 91 = .ok (.isub, 1) := by decide +kernel
theorem dX5_end_92 : decode cX5_end 92 = .ok (.iadd, 1) := by decide +kernel
theorem dX5_end_93 : decode cX5_end 93 = .ok (.iastore, 1) := by decide +kernel
theorem dX5_end_94 : decode cX5_end 94 = .ok (.aload_n 0, 1) := by decide +kernel
theorem dX5_end_95 : decode cX5_end 95 = .ok (.getfield 13, 3) := by decide +kernel
theorem dX5_end_98 : decode cX5_end 98 = .ok (.iload_n 2, 1) := by decide +kernel
theorem dX5_end_99 : decode cX5_end 99 = .ok (.iaload, 1) := by decide +kernel
theorem dX5_end_100 : decode cX5_end 100 = .ok (.aload_n 0, 1) := by decide +kernel
theorem dX5_end_101 : decode cX5_end 101 = .ok (.getfield 16, 3) := by decide +kernel
theorem dX5_end_104 : decode cX5_end 104 = .ok (.iload_n 2, 1) := by decide +kernel
theorem dX5_end_105 : decode cX5_end 105 = .ok (.iaload, 1) := by decide +kernel
theorem dX5_end_106 : decode cX5_end 106 = .ok (.invokestatic 126, 3) := by decide +kernel
theorem dX5_end_109 : decode cX5_end 109 = .ok (.istore 4, 2) := by decide +kernel
theorem dX5_end_111 : decode cX5_end 111 = .ok (.aload_n 0, 1) := by decide +kernel
theorem dX5_end_112 : decode cX5_end 112 = .ok (.getfield 16, 3) := by decide +kernel
theorem dX5_end_115 : decode cX5_end 115 = .ok (.iload_n 2, 1) := by decide +kernel
theorem dX5_end_116 : decode cX5_end 116 = .ok (.dup2, 1) := by decide +kernel
theorem dX5_end_117 : decode cX5_end 117 = .ok (.iaload, 1) := by decide +kernel
theorem dX5_end_118 : decode cX5_end 118 = .ok (.iload 4, 2) := by decide +kernel
theorem dX5_end_120 : decode cX5_end 120 = .ok (.isub, 1) := by decide +kernel
theorem dX5_end_121 : decode cX5_end 121 = .ok (.iastore, 1) := by decide +kernel
theorem dX5_end_122 : decode cX5_end 122 = .ok (.aload_n 0, 1) := by decide +kernel
theorem dX5_end_123 : decode cX5_end 123 = .ok (.getfield 56, 3) := by decide +kernel
theorem dX5_end_126 : decode cX5_end 126 = .ok (.iload_n 2, 1) := by decide +kernel
theorem dX5_end_127 : decode cX5_end 127 = .ok (.dup2, 1) := by decide +kernel
theorem dX5_end_128 : decode cX5_end 128 = .ok (.iaload, 1) := by decide +kernel
theorem dX5_end_129 : decode cX5_end 129 = .ok (.iload 4, 2) := by decide +kernel
theorem dX5_end_131 : decode cX5_end 131 = .ok (.iadd, 1) := by decide +kernel
theorem dX5_end_132 : decode cX5_end 132 = .ok (.iastore, 1) := by decide +kernel
theorem dX5_end_133 : decode cX5_end 133 = .ok (.aload_n 0, 1) := by decide +kernel
theorem dX5_end_134 : decode cX5_end 134 = .ok (.getfield 59, 3) := by decide +kernel
theorem dX5_end_137 : decode cX5_end 137 = .ok (.iload_n 2, 1) := by decide +kernel
theorem dX5_end_138 : decode cX5_end 138 = .ok (.dup2, 1) := by decide +kernel
theorem dX5_end_139 : decode cX5_end 139 = .ok (.iaload, 1) := by decide +kernel
theorem dX5_end_140 : decode cX5_end 140 = .ok (.aload_n 0, 1) := by decide +kernel
theorem dX5_end_141 : decode cX5_end 141 = .ok (.getfield 13, 3) := by decide +kernel
theorem dX5_end_144 : decode cX5_end 144 = .ok (.iload_n 2, 1) := by decide +kernel
theorem dX5_end_145 : decode cX5_end 145 = .ok (.iaload, 1) := by decide +kernel
theorem dX5_end_146 : decode cX5_end 146 = .ok (.iload 4, 2) := by decide +kernel
theorem dX5_end_148 : decode cX5_end 148 = .ok (.isub, 1) := by decide +kernel
theorem dX5_end_149 : decode cX5_end 149 = .ok (.iadd, 1) := by decide +kernel
theorem dX5_end_150 : decode cX5_end 150 = .ok (.iastore, 1) := by decide +kernel
theorem dX5_end_151 : decode cX5_end 151 = .ok (.iload_n 1, 1) := by decide +kernel
theorem dX5_end_152 : decode cX5_end 152 = .ok (.iload 4, 2) := by decide +kernel
theorem dX5_end_154 : decode cX5_end 154 = .ok (.aload_n 0, 1) := by decide +kernel
theorem dX5_end_155 : decode cX5_end 155 = .ok (.getfield 13, 3) := by decide +kernel
theorem dX5_end_158 : decode cX5_end 158 = .ok (.iload_n 2, 1) := by decide +kernel
theorem dX5_end_159 : decode cX5_end 159 = .ok (.iaload, 1) := by decide +kernel
theorem dX5_end_160 : decode cX5_end 160 = .ok (.if_icmp .ge 7, 3) := by decide +kernel
theorem dX5_end_163 : decode cX5_end 163 = .ok (.iconst 1, 1) := by decide +kernel
theorem dX5_end_164 : decode cX5_end 164 = .ok (.goto 4, 3) := by decide +kernel
theorem dX5_end_167 : decode cX5_end 167 = .ok (.iconst 0, 1) := by decide +kernel
theorem dX5_end_168 : decode cX5_end 168 = .ok (.iadd, 1) := by decide +kernel
theorem dX5_end_169 : decode cX5_end 169 = .ok (.istore_n 1, 1) := by decide +kernel
theorem dX5_end_170 : decode cX5_end 170 = .ok (.aload_n 0, 1) := by decide +kernel
theorem dX5_end_171 : decode cX5_end 171 = .ok (.dup, 1) := by decide +kernel
theorem dX5_end_172 : decode cX5_end 172 = .ok (.getfield 172, 3) := by decide +kernel
theorem dX5_end_175 : decode cX5_end 175 = .ok (.aload_n 0, 1) := by decide +kernel
theorem dX5_end_176 : decode cX5_end 176 = .ok (.getfield 47, 3) := by decide +kernel
theorem dX5_end_179 : decode cX5_end 179 = .ok (.iload_n 2, 1) := by decide +kernel
theorem dX5_end_180 : decode cX5_end 180 = .ok (.iaload, 1) := by decide +kernel
theorem dX5_end_181 : decode cX5_end 181 = .ok (.iadd, 1) := by decide +kernel
theorem dX5_end_182 : decode cX5_end 182 = .ok (.putfield 172, 3) := by decide +kernel
theorem dX5_end_185 : decode cX5_end 185 = .ok (.aload_n 0, 1) := by decide +kernel
theorem dX5_end_186 : decode cX5_end 186 = .ok (.getfield 47, 3) := by decide +kernel
theorem dX5_end_189 : decode cX5_end 189 = .ok (.iload_n 2, 1) := by decide +kernel
theorem dX5_end_190 : decode cX5_end 190 = .ok (.iconst 0, 1) := by decide +kernel
theorem dX5_end_191 : decode cX5_end 191 = .ok (.iastore, 1) := by decide +kernel
theorem dX5_end_192 : decode cX5_end 192 = .ok (.aload_n 0, 1) := by decide +kernel
theorem dX5_end_193 : decode cX5_end 193 = .ok (.getfield 28, 3) := by decide +kernel
theorem dX5_end_196 : decode cX5_end 196 = .ok (.iload_n 2, 1) := by decide +kernel
theorem dX5_end_197 : decode cX5_end 197 = .ok (.iconst 0, 1) := by decide +kernel
theorem dX5_end_198 : decode cX5_end 198 = .ok (.bastore, 1) := by decide +kernel
theorem dX5_end_199 : decode cX5_end 199 = .ok (.aload_n 0, 1) := by decide +kernel
theorem dX5_end_200 : decode cX5_end 200 = .ok (.getfield 44, 3) := by decide +kernel
theorem dX5_end_203 : decode cX5_end 203 = .ok (.iload_n 2, 1) := by decide +kernel
theorem dX5_end_204 : decode cX5_end 204 = .ok (.iconst 0, 1) := by decide +kernel
theorem dX5_end_205 : decode cX5_end 205 = .ok (.bastore, 1) := by decide +kernel
theorem dX5_end_206 : decode cX5_end 206 = .ok (.aload_n 0, 1) := by decide +kernel
theorem dX5_end_207 : decode cX5_end 207 = .ok (.getfield 19, 3) := by decide +kernel
theorem dX5_end_210 : decode cX5_end 210 = .ok (.iload_n 2, 1) := by decide +kernel
theorem dX5_end_211 : decode cX5_end 211 = .ok (.iconst 0, 1) := by decide +kernel
theorem dX5_end_212 : decode cX5_end 212 = .ok (.iastore, 1) := by decide +kernel
theorem dX5_end_213 : decode cX5_end 213 = .ok (.iinc 2 1, 3) := by decide +kernel
theorem dX5_end_216 : decode cX5_end 216 = .ok (.goto (-180), 3) := by decide +kernel
theorem dX5_end_219 : decode cX5_end 219 = .ok (.aload_n 0, 1) := by decide +kernel
theorem dX5_end_220 : decode cX5_end 220 = .ok (.dup, 1) := by decide +kernel
theorem dX5_end_221 : decode cX5_end 221 = .ok (.getfield 169, 3) := by decide +kernel
theorem dX5_end_224 : decode cX5_end 224 = .ok (.iconst 1, 1) := by decide +kernel
theorem dX5_end_225 : decode cX5_end 225 = .ok (.iadd, 1) := by decide +kernel
theorem dX5_end_226 : decode cX5_end 226 = .ok (.putfield 169, 3) := by decide +kernel
theorem dX5_end_229 : decode cX5_end 229 = .ok (.aload_n 0, 1) := by decide +kernel
theorem dX5_end_230 : decode cX5_end 230 = .ok (.iconst 0, 1) := by decide +kernel
theorem dX5_end_231 : decode cX5_end 231 = .ok (.putfield 110, 3) := by decide +kernel
theorem dX5_end_234 : decode cX5_end 234 = .ok (.iload_n 1, 1) := by decide +kernel
theorem dX5_end_235 : decode cX5_end 235 = .ok (.ireturn, 1) := by decide +kernel
theorem dX5_hour_0 : decode cX5_hour 0 = .ok (.aload_n 0, 1) := by decide +kernel
theorem dX5_hour_1 : decode cX5_hour 1 = .ok (.iconst 0, 1) := by decide +kernel
theorem dX5_hour_2 : decode cX5_hour 2 = .ok (.putfield 89, 3) := by decide +kernel
theorem dX5_hour_5 : decode cX5_hour 5 = .ok (.aload_n 0, 1) := by decide +kernel
theorem dX5_hour_6 : decode cX5_hour 6 = .ok (.getfield 169, 3) := by decide +kernel
theorem dX5_hour_9 : decode cX5_hour 9 = .ok (.ireturn, 1) := by decide +kernel
theorem dX5_round_0 : decode cX5_round 0 = .ok (.aload_n 0, 1) := by decide +kernel
theorem dX5_round_1 : decode cX5_round 1 = .ok (.iconst 0, 1) := by decide +kernel
theorem dX5_round_2 : decode cX5_round 2 = .ok (.putfield 89, 3) := by decide +kernel
theorem dX5_round_5 : decode cX5_round 5 = .ok (.aload_n 0, 1) := by decide +kernel
theorem dX5_round_6 : decode cX5_round 6 = .ok (.getfield 110, 3) := by decide +kernel
theorem dX5_round_9 : decode cX5_round 9 = .ok (.ireturn, 1) := by decide +kernel
theorem dX5_ofDistrict_0 : decode cX5_ofDistrict 0 = .ok (.aload_n 0, 1) := by decide +kernel
theorem dX5_ofDistrict_1 : decode cX5_ofDistrict 1 = .ok (.aload_n 0, 1) := by decide +kernel
theorem dX5_ofDistrict_2 : decode cX5_ofDistrict 2 = .ok (.iload_n 1, 1) := by decide +kernel
theorem dX5_ofDistrict_3 : decode cX5_ofDistrict 3 = .ok (.invokevirtual 107, 3) := by decide +kernel
theorem dX5_ofDistrict_6 : decode cX5_ofDistrict 6 = .ok (.ifCond .eq 17, 3) := by decide +kernel
theorem dX5_ofDistrict_9 : decode cX5_ofDistrict 9 = .ok (.iload_n 2, 1) := by decide +kernel
theorem dX5_ofDistrict_10 : decode cX5_ofDistrict 10 = .ok (.iconst 0, 1) := by decide +kernel
theorem dX5_ofDistrict_11 : decode cX5_ofDistrict 11 = .ok (.bipush 8, 2) := by decide +kernel
theorem dX5_ofDistrict_13 : decode cX5_ofDistrict 13 = .ok (.invokestatic 96, 3) := by decide +kernel
theorem dX5_ofDistrict_16 : decode cX5_ofDistrict 16 = .ok (.ifCond .eq 7, 3) := by decide +kernel
theorem dX5_ofDistrict_19 : decode cX5_ofDistrict 19 = .ok (.iconst 0, 1) := by decide +kernel
theorem dX5_ofDistrict_20 : decode cX5_ofDistrict 20 = .ok (.goto 4, 3) := by decide +kernel
theorem dX5_ofDistrict_23 : decode cX5_ofDistrict 23 = .ok (.iconst 1, 1) := by decide +kernel
theorem dX5_ofDistrict_24 : decode cX5_ofDistrict 24 = .ok (.invokevirtual 103, 3) := by decide +kernel
theorem dX5_ofDistrict_27 : decode cX5_ofDistrict 27 = .ok (.ifCond .ne 5, 3) := by decide +kernel
theorem dX5_ofDistrict_30 : decode cX5_ofDistrict 30 = .ok (.iconst 0, 1) := by decide +kernel
theorem dX5_ofDistrict_31 : decode cX5_ofDistrict 31 = .ok (.ireturn, 1) := by decide +kernel
theorem dX5_ofDistrict_32 : decode cX5_ofDistrict 32 = .ok (.iload_n 2, 1) := by decide +kernel
theorem dX5_ofDistrict_33 : decode cX5_ofDistrict 33 = .ok (.tableswitch 129 0 7 #[47, 54, 74, 94, 101, 108, 115, 122], 47) := by decide +kernel
theorem dX5_ofDistrict_80 : decode cX5_ofDistrict 80 = .ok (.aload_n 0, 1) := by decide +kernel
theorem dX5_ofDistrict_81 : decode cX5_ofDistrict 81 = .ok (.getfield 16, 3) := by decide +kernel
theorem dX5_ofDistrict_84 : decode cX5_ofDistrict 84 = .ok (.iload_n 1, 1) := by decide +kernel
theorem dX5_ofDistrict_85 : decode cX5_ofDistrict 85 = .ok (.iaload, 1) := by decide +kernel
theorem dX5_ofDistrict_86 : decode cX5_ofDistrict 86 = .ok (.ireturn, 1) := by decide +kernel
theorem dX5_ofDistrict_87 : decode cX5_ofDistrict 87 = .ok (.aload_n 0, 1) := by decide +kernel
theorem dX5_ofDistrict_88 : decode cX5_ofDistrict 88 = .ok (.getfield 28, 3) := by decide +kernel
theorem dX5_ofDistrict_91 : decode cX5_ofDistrict 91 = .ok (.iload_n 1, 1) := by decide +kernel
theorem dX5_ofDistrict_92 : decode cX5_ofDistrict 92 = .ok (.baload, 1) := by decide +kernel
theorem dX5_ofDistrict_93 : decode cX5_ofDistrict 93 = .ok (.ifCond .eq 12, 3) := by decide +kernel
theorem dX5_ofDistrict_96 : decode cX5_ofDistrict 96 = .ok (.aload_n 0, 1) := by decide +kernel
theorem dX5_ofDistrict_97 : decode cX5_ofDistrict 97 = .ok (.getfield 19, 3) := by decide +kernel
theorem dX5_ofDistrict_100 : decode cX5_ofDistrict 100 = .ok (.iload_n 1, 1) := by decide +kernel
theorem dX5_ofDistrict_101 : decode cX5_ofDistrict 101 = .ok (.iaload, 1) := by decide +kernel
theorem dX5_ofDistrict_102 : decode cX5_ofDistrict 102 = .ok (.goto 4, 3) := by decide +kernel
theorem dX5_ofDistrict_105 : decode cX5_ofDistrict 105 = .ok (.iconst (-1), 1) := by decide +kernel
theorem dX5_ofDistrict_106 : decode cX5_ofDistrict 106 = .ok (.ireturn, 1) := by decide +kernel
theorem dX5_ofDistrict_107 : decode cX5_ofDistrict 107 = .ok (.aload_n 0, 1) := by decide +kernel
theorem dX5_ofDistrict_108 : decode cX5_ofDistrict 108 = .ok (.getfield 28, 3) := by decide +kernel
theorem dX5_ofDistrict_111 : decode cX5_ofDistrict 111 = .ok (.iload_n 1, 1) := by decide +kernel
theorem dX5_ofDistrict_112 : decode cX5_ofDistrict 112 = .ok (.baload, 1) := by decide +kernel
theorem dX5_ofDistrict_113 : decode cX5_ofDistrict 113 = .ok (.ifCond .eq 12, 3) := by decide +kernel
theorem dX5_ofDistrict_116 : decode cX5_ofDistrict 116 = .ok (.aload_n 0, 1) := by decide +kernel
theorem dX5_ofDistrict_117 : decode cX5_ofDistrict 117 = .ok (.getfield 22, 3) := by decide +kernel
theorem dX5_ofDistrict_120 : decode cX5_ofDistrict 120 = .ok (.iload_n 1, 1) := by decide +kernel
theorem dX5_ofDistrict_121 : decode cX5_ofDistrict 121 = .ok (.iaload, 1) := by decide +kernel
theorem dX5_ofDistrict_122 : decode cX5_ofDistrict 122 = .ok (.goto 4, 3) := by decide +kernel
theorem dX5_ofDistrict_125 : decode cX5_ofDistrict 125 = .ok (.iconst (-1), 1) := by decide +kernel
theorem dX5_ofDistrict_126 : decode cX5_ofDistrict 126 = .ok (.ireturn, 1) := by decide +kernel
theorem dX5_ofDistrict_127 : decode cX5_ofDistrict 127 = .ok (.aload_n 0, 1) := by decide +kernel
theorem dX5_ofDistrict_128 : decode cX5_ofDistrict 128 = .ok (.getfield 47, 3) := by decide +kernel
theorem dX5_ofDistrict_131 : decode cX5_ofDistrict 131 = .ok (.iload_n 1, 1) := by decide +kernel
theorem dX5_ofDistrict_132 : decode cX5_ofDistrict 132 = .ok (.iaload, 1) := by decide +kernel
theorem dX5_ofDistrict_133 : decode cX5_ofDistrict 133 = .ok (.ireturn, 1) := by decide +kernel
theorem dX5_ofDistrict_134 : decode cX5_ofDistrict 134 = .ok (.aload_n 0, 1) := by decide +kernel
theorem dX5_ofDistrict_135 : decode cX5_ofDistrict 135 = .ok (.getfield 50, 3) := by decide +kernel
theorem dX5_ofDistrict_138 : decode cX5_ofDistrict 138 = .ok (.iload_n 1, 1) := by decide +kernel
theorem dX5_ofDistrict_139 : decode cX5_ofDistrict 139 = .ok (.iaload, 1) := by decide +kernel
theorem dX5_ofDistrict_140 : decode cX5_ofDistrict 140 = .ok (.ireturn, 1) := by decide +kernel
theorem dX5_ofDistrict_141 : decode cX5_ofDistrict 141 = .ok (.aload_n 0, 1) := by decide +kernel
theorem dX5_ofDistrict_142 : decode cX5_ofDistrict 142 = .ok (.getfield 53, 3) := by decide +kernel
theorem dX5_ofDistrict_145 : decode cX5_ofDistrict 145 = .ok (.iload_n 1, 1) := by decide +kernel
theorem dX5_ofDistrict_146 : decode cX5_ofDistrict 146 = .ok (.iaload, 1) := by decide +kernel
theorem dX5_ofDistrict_147 : decode cX5_ofDistrict 147 = .ok (.ireturn, 1) := by decide +kernel
theorem dX5_ofDistrict_148 : decode cX5_ofDistrict 148 = .ok (.aload_n 0, 1) := by decide +kernel
theorem dX5_ofDistrict_149 : decode cX5_ofDistrict 149 = .ok (.getfield 56, 3) := by decide +kernel
theorem dX5_ofDistrict_152 : decode cX5_ofDistrict 152 = .ok (.iload_n 1, 1) := by decide +kernel
theorem dX5_ofDistrict_153 : decode cX5_ofDistrict 153 = .ok (.iaload, 1) := by decide +kernel
theorem dX5_ofDistrict_154 : decode cX5_ofDistrict 154 = .ok (.ireturn, 1) := by decide +kernel
theorem dX5_ofDistrict_155 : decode cX5_ofDistrict 155 = .ok (.aload_n 0, 1) := by decide +kernel
theorem dX5_ofDistrict_156 : decode cX5_ofDistrict 156 = .ok (.getfield 59, 3) := by decide +kernel
theorem dX5_ofDistrict_159 : decode cX5_ofDistrict 159 = .ok (.iload_n 1, 1) := by decide +kernel
theorem dX5_ofDistrict_160 : decode cX5_ofDistrict 160 = .ok (.iaload, 1) := by decide +kernel
theorem dX5_ofDistrict_161 : decode cX5_ofDistrict 161 = .ok (.ireturn, 1) := by decide +kernel
theorem dX5_ofDistrict_162 : decode cX5_ofDistrict 162 = .ok (.aload_n 0, 1) := by decide +kernel
theorem dX5_ofDistrict_163 : decode cX5_ofDistrict 163 = .ok (.getfield 62, 3) := by decide +kernel
theorem dX5_ofDistrict_166 : decode cX5_ofDistrict 166 = .ok (.iload_n 1, 1) := by decide +kernel
theorem dX5_ofDistrict_167 : decode cX5_ofDistrict 167 = .ok (.iaload, 1) := by decide +kernel
theorem dX5_ofDistrict_168 : decode cX5_ofDistrict 168 = .ok (.ireturn, 1) := by decide +kernel
theorem dX5_flowAnew_0 : decode cX5_flowAnew 0 = .ok (.aload_n 0, 1) := by decide +kernel
theorem dX5_flowAnew_1 : decode cX5_flowAnew 1 = .ok (.aload_n 0, 1) := by decide +kernel
theorem dX5_flowAnew_2 : decode cX5_flowAnew 2 = .ok (.iload_n 1, 1) := by decide +kernel
theorem dX5_flowAnew_3 : decode cX5_flowAnew 3 = .ok (.invokevirtual 107, 3) := by decide +kernel
theorem dX5_flowAnew_6 : decode cX5_flowAnew 6 = .ok (.ifCond .eq 7, 3) := by decide +kernel
theorem dX5_flowAnew_9 : decode cX5_flowAnew 9 = .ok (.iconst 0, 1) := by decide +kernel
theorem dX5_flowAnew_10 : decode cX5_flowAnew 10 = .ok (.goto 4, 3) := by decide +kernel
theorem dX5_flowAnew_13 : decode cX5_flowAnew 13 = .ok (.iconst 1, 1) := by decide +kernel
theorem dX5_flowAnew_14 : decode cX5_flowAnew 14 = .ok (.invokevirtual 103, 3) := by decide +kernel
theorem dX5_flowAnew_17 : decode cX5_flowAnew 17 = .ok (.ifCond .eq 12, 3) := by decide +kernel
theorem dX5_flowAnew_20 : decode cX5_flowAnew 20 = .ok (.aload_n 0, 1) := by decide +kernel
theorem dX5_flowAnew_21 : decode cX5_flowAnew 21 = .ok (.getfield 47, 3) := by decide +kernel
theorem dX5_flowAnew_24 : decode cX5_flowAnew 24 = .ok (.iload_n 1, 1) := by decide +kernel
theorem dX5_flowAnew_25 : decode cX5_flowAnew 25 = .ok (.iaload, 1) := by decide +kernel
theorem dX5_flowAnew_26 : decode cX5_flowAnew 26 = .ok (.goto 4, 3) := by decide +kernel
theorem dX5_flowAnew_29 : decode cX5_flowAnew 29 = .ok (.iconst 0, 1) := by decide +kernel
theorem dX5_flowAnew_30 : decode cX5_flowAnew 30 = .ok (.ireturn, 1) := by decide +kernel
theorem dX5_most_0 : decode cX5_most 0 = .ok (.aload_n 0, 1) := by decide +kernel
theorem dX5_most_1 : decode cX5_most 1 = .ok (.iload_n 1, 1) := by decide +kernel
theorem dX5_most_2 : decode cX5_most 2 = .ok (.ifCond .lt 13, 3) := by decide +kernel
theorem dX5_most_5 : decode cX5_most 5 = .ok (.iload_n 1, 1) := by decide +kernel
theorem dX5_most_6 : decode cX5_most 6 = .ok (.iconst 1, 1) := by decide +kernel
theorem dX5_most_7 : decode cX5_most 7 = .ok (.aload_n 0, 1) := by decide +kernel
theorem dX5_most_8 : decode cX5_most 8 = .ok (.getfield 93, 3) := by decide +kernel
theorem dX5_most_11 : decode cX5_most 11 = .ok (.ishl, 1) := by decide +kernel
theorem dX5_most_12 : decode cX5_most 12 = .ok (.if_icmp .lt 7, 3) := by decide +kernel
theorem dX5_most_15 : decode cX5_most 15 = .ok (.iconst 1, 1) := by decide +kernel
theorem dX5_most_16 : decode cX5_most 16 = .ok (.goto 4, 3) := by decide +kernel
theorem dX5_most_19 : decode cX5_most 19 = .ok (.iconst 0, 1) := by decide +kernel
theorem dX5_most_20 : decode cX5_most 20 = .ok (.invokevirtual 103, 3) := by decide +kernel
theorem dX5_most_23 : decode cX5_most 23 = .ok (.ifCond .ne 5, 3) := by decide +kernel
theorem dX5_most_26 : decode cX5_most 26 = .ok (.iconst 0, 1) := by decide +kernel
theorem dX5_most_27 : decode cX5_most 27 = .ok (.ireturn, 1) := by decide +kernel
theorem dX5_most_28 : decode cX5_most 28 = .ok (.aload_n 0, 1) := by decide +kernel
theorem dX5_most_29 : decode cX5_most 29 = .ok (.invokevirtual 141, 3) := by decide +kernel
theorem dX5_most_32 : decode cX5_most 32 = .ok (.iconst 0, 1) := by decide +kernel
theorem dX5_most_33 : decode cX5_most 33 = .ok (.istore_n 2, 1) := by decide +kernel
theorem dX5_most_34 : decode cX5_most 34 = .ok (.iconst 0, 1) := by decide +kernel
theorem dX5_most_35 : decode cX5_most 35 = .ok (.istore_n 3, 1) := by decide +kernel
theorem dX5_most_36 : decode cX5_most 36 = .ok (.iload_n 3, 1) := by decide +kernel
theorem dX5_most_37 : decode cX5_most 37 = .ok (.aload_n 0, 1) := by decide +kernel
theorem dX5_most_38 : decode cX5_most 38 = .ok (.getfield 93, 3) := by decide +kernel
theorem dX5_most_41 : decode cX5_most 41 = .ok (.if_icmp .ge 33, 3) := by decide +kernel
theorem dX5_most_44 : decode cX5_most 44 = .ok (.iload_n 2, 1) := by decide +kernel
theorem dX5_most_45 : decode cX5_most 45 = .ok (.iload_n 1, 1) := by decide +kernel
theorem dX5_most_46 : decode cX5_most 46 = .ok (.iload_n 3, 1) := by decide +kernel
theorem dX5_most_47 : decode cX5_most 47 = .ok (.ishr, 1) := by decide +kernel
theorem dX5_most_48 : decode cX5_most 48 = .ok (.iconst 1, 1) := by decide +kernel
theorem dX5_most_49 : decode cX5_most 49 = .ok (.iand, 1) := by decide +kernel
theorem dX5_most_50 : decode cX5_most 50 = .ok (.iconst 1, 1) := by decide +kernel
theorem dX5_most_51 : decode cX5_most 51 = .ok (.if_icmp .ne 14, 3) := by decide +kernel
theorem dX5_most_54 : decode cX5_most 54 = .ok (.aload_n 0, 1) := by decide +kernel
theorem dX5_most_55 : decode cX5_most 55 = .ok (.iload_n 3, 1) := by decide +kernel
theorem dX5_most_56 : decode cX5_most 56 = .ok (.sipush 9999, 3) := by decide +kernel
theorem dX5_most_59 : decode cX5_most 59 = .ok (.invokevirtual 151, 3) := by decide +kernel
theorem dX5_most_62 : decode cX5_most 62 = .ok (.goto 4, 3) := by decide +kernel
theorem dX5_most_65 : decode cX5_most 65 = .ok (.iconst 0, 1) := by decide +kernel
theorem dX5_most_66 : decode cX5_most 66 = .ok (.iadd, 1) := by decide +kernel
theorem dX5_most_67 : decode cX5_most 67 = .ok (.istore_n 2, 1) := by decide +kernel
theorem dX5_most_68 : decode cX5_most 68 = .ok (.iinc 3 1, 3) := by decide +kernel
theorem dX5_most_71 : decode cX5_most 71 = .ok (.goto (-35), 3) := by decide +kernel
theorem dX5_most_74 : decode cX5_most 74 = .ok (.iload_n 2, 1) := by decide +kernel
theorem dX5_most_75 : decode cX5_most 75 = .ok (.ireturn, 1) := by decide +kernel
theorem dX5_place_0 : decode cX5_place 0 = .ok (.aload_n 0, 1) := by decide +kernel
theorem dX5_place_1 : decode cX5_place 1 = .ok (.aload_n 0, 1) := by decide +kernel
theorem dX5_place_2 : decode cX5_place 2 = .ok (.iload_n 1, 1) := by decide +kernel
theorem dX5_place_3 : decode cX5_place 3 = .ok (.invokevirtual 107, 3) := by decide +kernel
theorem dX5_place_6 : decode cX5_place 6 = .ok (.ifCond .eq 7, 3) := by decide +kernel
theorem dX5_place_9 : decode cX5_place 9 = .ok (.iconst 0, 1) := by decide +kernel
theorem dX5_place_10 : decode cX5_place 10 = .ok (.goto 4, 3) := by decide +kernel
theorem dX5_place_13 : decode cX5_place 13 = .ok (.iconst 1, 1) := by decide +kernel
theorem dX5_place_14 : decode cX5_place 14 = .ok (.invokevirtual 103, 3) := by decide +kernel
theorem dX5_place_17 : decode cX5_place 17 = .ok (.ifCond .ne 5, 3) := by decide +kernel
theorem dX5_place_20 : decode cX5_place 20 = .ok (.iconst 0, 1) := by decide +kernel
theorem dX5_place_21 : decode cX5_place 21 = .ok (.ireturn, 1) := by decide +kernel
theorem dX5_place_22 : decode cX5_place 22 = .ok (.aload_n 0, 1) := by decide +kernel
theorem dX5_place_23 : decode cX5_place 23 = .ok (.getfield 28, 3) := by decide +kernel
theorem dX5_place_26 : decode cX5_place 26 = .ok (.iload_n 1, 1) := by decide +kernel
theorem dX5_place_27 : decode cX5_place 27 = .ok (.baload, 1) := by decide +kernel
theorem dX5_place_28 : decode cX5_place 28 = .ok (.ifCond .eq 11, 3) := by decide +kernel
theorem dX5_place_31 : decode cX5_place 31 = .ok (.aload_n 0, 1) := by decide +kernel
theorem dX5_place_32 : decode cX5_place 32 = .ok (.iload_n 1, 1) := by decide +kernel
theorem dX5_place_33 : decode cX5_place 33 = .ok (.invokevirtual 138, 3) := by decide +kernel
theorem dX5_place_36 : decode cX5_place 36 = .ok (.goto 4, 3) := by decide +kernel
theorem dX5_place_39 : decode cX5_place 39 = .ok (.iconst (-1), 1) := by decide +kernel
theorem dX5_place_40 : decode cX5_place 40 = .ok (.ireturn, 1) := by decide +kernel
theorem dX5_sum_0 : decode cX5_sum 0 = .ok (.iconst 0, 1) := by decide +kernel
theorem dX5_sum_1 : decode cX5_sum 1 = .ok (.istore_n 2, 1) := by decide +kernel
theorem dX5_sum_2 : decode cX5_sum 2 = .ok (.iconst 0, 1) := by decide +kernel
theorem dX5_sum_3 : decode cX5_sum 3 = .ok (.istore_n 3, 1) := by decide +kernel
theorem dX5_sum_4 : decode cX5_sum 4 = .ok (.iload_n 3, 1) := by decide +kernel
theorem dX5_sum_5 : decode cX5_sum 5 = .ok (.aload_n 0, 1) := by decide +kernel
theorem dX5_sum_6 : decode cX5_sum 6 = .ok (.getfield 93, 3) := by decide +kernel
theorem dX5_sum_9 : decode cX5_sum 9 = .ok (.if_icmp .ge 15, 3) := by decide +kernel
theorem dX5_sum_12 : decode cX5_sum 12 = .ok (.iload_n 2, 1) := by decide +kernel
theorem dX5_sum_13 : decode cX5_sum 13 = .ok (.aload_n 1, 1) := by decide +kernel
theorem dX5_sum_14 : decode cX5_sum 14 = .ok (.iload_n 3, 1) := by decide +kernel
theorem dX5_sum_15 : decode cX5_sum 15 = .ok (.iaload, 1) := by decide +kernel
theorem dX5_sum_16 : decode cX5_sum 16 = .ok (.iadd, 1) := by decide +kernel
theorem dX5_sum_17 : decode cX5_sum 17 = .ok (.istore_n 2, 1) := by decide +kernel
theorem dX5_sum_18 : decode cX5_sum 18 = .ok (.iinc 3 1, 3) := by decide +kernel
theorem dX5_sum_21 : decode cX5_sum 21 = .ok (.goto (-17), 3) := by decide +kernel
theorem dX5_sum_24 : decode cX5_sum 24 = .ok (.iload_n 2, 1) := by decide +kernel
theorem dX5_sum_25 : decode cX5_sum 25 = .ok (.ireturn, 1) := by decide +kernel
theorem dX5_burstPipes_0 : decode cX5_burstPipes 0 = .ok (.iconst 0, 1) := by decide +kernel
theorem dX5_burstPipes_1 : decode cX5_burstPipes 1 = .ok (.istore_n 1, 1) := by decide +kernel
theorem dX5_burstPipes_2 : decode cX5_burstPipes 2 = .ok (.iconst 0, 1) := by decide +kernel
theorem dX5_burstPipes_3 : decode cX5_burstPipes 3 = .ok (.istore_n 2, 1) := by decide +kernel
theorem dX5_burstPipes_4 : decode cX5_burstPipes 4 = .ok (.iload_n 2, 1) := by decide +kernel
theorem dX5_burstPipes_5 : decode cX5_burstPipes 5 = .ok (.aload_n 0, 1) := by decide +kernel
theorem dX5_burstPipes_6 : decode cX5_burstPipes 6 = .ok (.getfield 100, 3) := by decide +kernel
theorem dX5_burstPipes_9 : decode cX5_burstPipes 9 = .ok (.if_icmp .ge 26, 3) := by decide +kernel
theorem dX5_burstPipes_12 : decode cX5_burstPipes 12 = .ok (.iload_n 1, 1) := by decide +kernel
theorem dX5_burstPipes_13 : decode cX5_burstPipes 13 = .ok (.aload_n 0, 1) := by decide +kernel
theorem dX5_burstPipes_14 : decode cX5_burstPipes 14 = .ok (.getfield 74, 3) := by decide +kernel
theorem dX5_burstPipes_17 : decode cX5_burstPipes 17 = .ok (.iload_n 2, 1) := by decide +kernel
theorem dX5_burstPipes_18 : decode cX5_burstPipes 18 = .ok (.baload, 1) := by decide +kernel
theorem dX5_burstPipes_19 : decode cX5_burstPipes 19 = .ok (.ifCond .eq 7, 3) := by decide +kernel
theorem dX5_burstPipes_22 : decode cX5_burstPipes 22 = .ok (.iconst 1, 1) := by decide +kernel
theorem dX5_burstPipes_23 : decode cX5_burstPipes 23 = .ok (.goto 4, 3) := by decide +kernel
theorem dX5_burstPipes_26 : decode cX5_burstPipes 26 = .ok (.iconst 0, 1) := by decide +kernel
theorem dX5_burstPipes_27 : decode cX5_burstPipes 27 = .ok (.iadd, 1) := by decide +kernel
theorem dX5_burstPipes_28 : decode cX5_burstPipes 28 = .ok (.istore_n 1, 1) := by decide +kernel
theorem dX5_burstPipes_29 : decode cX5_burstPipes 29 = .ok (.iinc 2 1, 3) := by decide +kernel
theorem dX5_burstPipes_32 : decode cX5_burstPipes 32 = .ok (.goto (-28), 3) := by decide +kernel
theorem dX5_burstPipes_35 : decode cX5_burstPipes 35 = .ok (.iload_n 1, 1) := by decide +kernel
theorem dX5_burstPipes_36 : decode cX5_burstPipes 36 = .ok (.ireturn, 1) := by decide +kernel
theorem dX5_count_0 : decode cX5_count 0 = .ok (.aload_n 0, 1) := by decide +kernel
theorem dX5_count_1 : decode cX5_count 1 = .ok (.iload_n 1, 1) := by decide +kernel
theorem dX5_count_2 : decode cX5_count 2 = .ok (.iconst 0, 1) := by decide +kernel
theorem dX5_count_3 : decode cX5_count 3 = .ok (.bipush 7, 2) := by decide +kernel
theorem dX5_count_5 : decode cX5_count 5 = .ok (.invokestatic 96, 3) := by decide +kernel
theorem dX5_count_8 : decode cX5_count 8 = .ok (.ifCond .eq 7, 3) := by decide +kernel
theorem dX5_count_11 : decode cX5_count 11 = .ok (.iconst 0, 1) := by decide +kernel
theorem dX5_count_12 : decode cX5_count 12 = .ok (.goto 4, 3) := by decide +kernel
theorem dX5_count_15 : decode cX5_count 15 = .ok (.iconst 1, 1) := by decide +kernel
theorem dX5_count_16 : decode cX5_count 16 = .ok (.invokevirtual 103, 3) := by decide +kernel
theorem dX5_count_19 : decode cX5_count 19 = .ok (.ifCond .ne 5, 3) := by decide +kernel
theorem dX5_count_22 : decode cX5_count 22 = .ok (.iconst 0, 1) := by decide +kernel
theorem dX5_count_23 : decode cX5_count 23 = .ok (.ireturn, 1) := by decide +kernel
theorem dX5_count_24 : decode cX5_count 24 = .ok (.iload_n 1, 1) := by decide +kernel
theorem dX5_count_25 : decode cX5_count 25 = .ok (.tableswitch 99 0 6 #[43, 48, 53, 58, 63, 72, 81], 43) := by decide +kernel
theorem dX5_count_68 : decode cX5_count 68 = .ok (.aload_n 0, 1) := by decide +kernel
theorem dX5_count_69 : decode cX5_count 69 = .ok (.getfield 93, 3) := by decide +kernel
theorem dX5_count_72 : decode cX5_count 72 = .ok (.ireturn, 1) := by decide +kernel
theorem dX5_count_73 : decode cX5_count 73 = .ok (.aload_n 0, 1) := by decide +kernel
theorem dX5_count_74 : decode cX5_count 74 = .ok (.getfield 100, 3) := by decide +kernel
theorem dX5_count_77 : decode cX5_count 77 = .ok (.ireturn, 1) := by decide +kernel
theorem dX5_count_78 : decode cX5_count 78 = .ok (.aload_n 0, 1) := by decide +kernel
theorem dX5_count_79 : decode cX5_count 79 = .ok (.invokevirtual 175, 3) := by decide +kernel
theorem dX5_count_82 : decode cX5_count 82 = .ok (.ireturn, 1) := by decide +kernel
theorem dX5_count_83 : decode cX5_count 83 = .ok (.aload_n 0, 1) := by decide +kernel
theorem dX5_count_84 : decode cX5_count 84 = .ok (.invokevirtual 144, 3) := by decide +kernel
theorem dX5_count_87 : decode cX5_count 87 = .ok (.ireturn, 1) := by decide +kernel
theorem dX5_count_88 : decode cX5_count 88 = .ok (.aload_n 0, 1) := by decide +kernel
theorem dX5_count_89 : decode cX5_count 89 = .ok (.aload_n 0, 1) := by decide +kernel
theorem dX5_count_90 : decode cX5_count 90 = .ok (.getfield 47, 3) := by decide +kernel
theorem dX5_count_93 : decode cX5_count 93 = .ok (.invokevirtual 178, 3) := by decide +kernel
theorem dX5_count_96 : decode cX5_count 96 = .ok (.ireturn, 1) := by decide +kernel
theorem dX5_count_97 : decode cX5_count 97 = .ok (.aload_n 0, 1) := by decide +kernel
theorem dX5_count_98 : decode cX5_count 98 = .ok (.aload_n 0, 1) := by decide +kernel
theorem dX5_count_99 : decode cX5_count 99 = .ok (.getfield 16, 3) := by decide +kernel
theorem dX5_count_102 : decode cX5_count 102 = .ok (.invokevirtual 178, 3) := by decide +kernel
theorem dX5_count_105 : decode cX5_count 105 = .ok (.ireturn, 1) := by decide +kernel
theorem dX5_count_106 : decode cX5_count 106 = .ok (.aload_n 0, 1) := by decide +kernel
theorem dX5_count_107 : decode cX5_count 107 = .ok (.aload_n 0, 1) := by decide +kernel
theorem dX5_count_108 : decode cX5_count 108 = .ok (.getfield 50, 3) := by decide +kernel
theorem dX5_count_111 : decode cX5_count 111 = .ok (.invokevirtual 178, 3) := by decide +kernel
theorem dX5_count_114 : decode cX5_count 114 = .ok (.aload_n 0, 1) := by decide +kernel
theorem dX5_count_115 : decode cX5_count 115 = .ok (.aload_n 0, 1) := by decide +kernel
theorem dX5_count_116 : decode cX5_count 116 = .ok (.getfield 53, 3) := by decide +kernel
theorem dX5_count_119 : decode cX5_count 119 = .ok (.invokevirtual 178, 3) := by decide +kernel
theorem dX5_count_122 : decode cX5_count 122 = .ok (.isub, 1) := by decide +kernel
theorem dX5_count_123 : decode cX5_count 123 = .ok (.ireturn, 1) := by decide +kernel
theorem dX5_count_124 : decode cX5_count 124 = .ok (.aload_n 0, 1) := by decide +kernel
theorem dX5_count_125 : decode cX5_count 125 = .ok (.getfield 172, 3) := by decide +kernel
theorem dX5_count_128 : decode cX5_count 128 = .ok (.ireturn, 1) := by decide +kernel
end
section
theorem dL_district_0 : decode cL_district 0 = .ok (.aload_n 3, 1) := by decide +kernel
theorem dL_district_1 : decode cL_district 1 = .ok (.iconst 0, 1) := by decide +kernel
theorem dL_district_2 : decode cL_district 2 = .ok (.aload_n 0, 1) := by decide +kernel
theorem dL_district_3 : decode cL_district 3 = .ok (.iload_n 1, 1) := by decide +kernel
theorem dL_district_4 : decode cL_district 4 = .ok (.iload_n 2, 1) := by decide +kernel
theorem dL_district_5 : decode cL_district 5 = .ok (.invokevirtual 7, 3) := by decide +kernel
theorem dL_district_8 : decode cL_district 8 = .ok (.i2l, 1) := by decide +kernel
theorem dL_district_9 : decode cL_district 9 = .ok (.lastore, 1) := by decide +kernel
theorem dL_district_10 : decode cL_district 10 = .ok (.goto 11, 3) := by decide +kernel
theorem dL_district_13 : decode cL_district 13 = .ok (.astore 4, 2) := by decide +kernel
theorem dL_district_15 : decode cL_district 15 = .ok (.iconst 1, 1) := by decide +kernel
theorem dL_district_16 : decode cL_district 16 = .ok (.ireturn, 1) := by decide +kernel
theorem dL_district_17 : decode cL_district 17 = .ok (.astore 4, 2) := by decide +kernel
theorem dL_district_19 : decode cL_district 19 = .ok (.iconst 2, 1) := by decide +kernel
theorem dL_district_20 : decode cL_district 20 = .ok (.ireturn, 1) := by decide +kernel
theorem dL_district_21 : decode cL_district 21 = .ok (.iconst 0, 1) := by decide +kernel
theorem dL_district_22 : decode cL_district 22 = .ok (.ireturn, 1) := by decide +kernel
theorem dL_pipe_0 : decode cL_pipe 0 = .ok (.aload 4, 2) := by decide +kernel
theorem dL_pipe_2 : decode cL_pipe 2 = .ok (.iconst 0, 1) := by decide +kernel
theorem dL_pipe_3 : decode cL_pipe 3 = .ok (.aload_n 0, 1) := by decide +kernel
theorem dL_pipe_4 : decode cL_pipe 4 = .ok (.iload_n 1, 1) := by decide +kernel
theorem dL_pipe_5 : decode cL_pipe 5 = .ok (.iload_n 2, 1) := by decide +kernel
theorem dL_pipe_6 : decode cL_pipe 6 = .ok (.iload_n 3, 1) := by decide +kernel
theorem dL_pipe_7 : decode cL_pipe 7 = .ok (.invokevirtual 17, 3) := by decide +kernel
theorem dL_pipe_10 : decode cL_pipe 10 = .ok (.i2l, 1) := by decide +kernel
theorem dL_pipe_11 : decode cL_pipe 11 = .ok (.lastore, 1) := by decide +kernel
theorem dL_pipe_12 : decode cL_pipe 12 = .ok (.goto 15, 3) := by decide +kernel
theorem dL_pipe_15 : decode cL_pipe 15 = .ok (.astore 5, 2) := by decide +kernel
theorem dL_pipe_17 : decode cL_pipe 17 = .ok (.iconst 1, 1) := by decide +kernel
theorem dL_pipe_18 : decode cL_pipe 18 = .ok (.ireturn, 1) := by decide +kernel
theorem dL_pipe_19 : decode cL_pipe 19 = .ok (.astore 5, 2) := by decide +kernel
theorem dL_pipe_21 : decode cL_pipe 21 = .ok (.iconst 2, 1) := by decide +kernel
theorem dL_pipe_22 : decode cL_pipe 22 = .ok (.ireturn, 1) := by decide +kernel
theorem dL_pipe_23 : decode cL_pipe 23 = .ok (.astore 5, 2) := by decide +kernel
theorem dL_pipe_25 : decode cL_pipe 25 = .ok (.iconst 3, 1) := by decide +kernel
theorem dL_pipe_26 : decode cL_pipe 26 = .ok (.ireturn, 1) := by decide +kernel
theorem dL_pipe_27 : decode cL_pipe 27 = .ok (.iconst 0, 1) := by decide +kernel
theorem dL_pipe_28 : decode cL_pipe 28 = .ok (.ireturn, 1) := by decide +kernel
theorem dL_source_0 : decode cL_source 0 = .ok (.aload_n 2, 1) := by decide +kernel
theorem dL_source_1 : decode cL_source 1 = .ok (.iconst 0, 1) := by decide +kernel
theorem dL_source_2 : decode cL_source 2 = .ok (.aload_n 0, 1) := by decide +kernel
theorem dL_source_3 : decode cL_source 3 = .ok (.iload_n 1, 1) := by decide +kernel
theorem dL_source_4 : decode cL_source 4 = .ok (.invokevirtual 23, 3) := by decide +kernel
theorem dL_source_7 : decode cL_source 7 = .ok (.i2l, 1) := by decide +kernel
theorem dL_source_8 : decode cL_source 8 = .ok (.lastore, 1) := by decide +kernel
theorem dL_source_9 : decode cL_source 9 = .ok (.goto 9, 3) := by decide +kernel
theorem dL_source_12 : decode cL_source 12 = .ok (.astore_n 3, 1) := by decide +kernel
theorem dL_source_13 : decode cL_source 13 = .ok (.iconst 1, 1) := by decide +kernel
theorem dL_source_14 : decode cL_source 14 = .ok (.ireturn, 1) := by decide +kernel
theorem dL_source_15 : decode cL_source 15 = .ok (.astore_n 3, 1) := by decide +kernel
theorem dL_source_16 : decode cL_source 16 = .ok (.iconst 2, 1) := by decide +kernel
theorem dL_source_17 : decode cL_source 17 = .ok (.ireturn, 1) := by decide +kernel
theorem dL_source_18 : decode cL_source 18 = .ok (.iconst 0, 1) := by decide +kernel
theorem dL_source_19 : decode cL_source 19 = .ok (.ireturn, 1) := by decide +kernel
theorem dL_need_0 : decode cL_need 0 = .ok (.aload_n 3, 1) := by decide +kernel
theorem dL_need_1 : decode cL_need 1 = .ok (.iconst 0, 1) := by decide +kernel
theorem dL_need_2 : decode cL_need 2 = .ok (.aload_n 0, 1) := by decide +kernel
theorem dL_need_3 : decode cL_need 3 = .ok (.iload_n 1, 1) := by decide +kernel
theorem dL_need_4 : decode cL_need 4 = .ok (.iload_n 2, 1) := by decide +kernel
theorem dL_need_5 : decode cL_need 5 = .ok (.invokevirtual 27, 3) := by decide +kernel
theorem dL_need_8 : decode cL_need 8 = .ok (.i2l, 1) := by decide +kernel
theorem dL_need_9 : decode cL_need 9 = .ok (.lastore, 1) := by decide +kernel
theorem dL_need_10 : decode cL_need 10 = .ok (.goto 11, 3) := by decide +kernel
theorem dL_need_13 : decode cL_need 13 = .ok (.astore 4, 2) := by decide +kernel
theorem dL_need_15 : decode cL_need 15 = .ok (.iconst 1, 1) := by decide +kernel
theorem dL_need_16 : decode cL_need 16 = .ok (.ireturn, 1) := by decide +kernel
theorem dL_need_17 : decode cL_need 17 = .ok (.astore 4, 2) := by decide +kernel
theorem dL_need_19 : decode cL_need 19 = .ok (.iconst 2, 1) := by decide +kernel
theorem dL_need_20 : decode cL_need 20 = .ok (.ireturn, 1) := by decide +kernel
theorem dL_need_21 : decode cL_need 21 = .ok (.iconst 0, 1) := by decide +kernel
theorem dL_need_22 : decode cL_need 22 = .ok (.ireturn, 1) := by decide +kernel
theorem dL_bid_0 : decode cL_bid 0 = .ok (.aload 4, 2) := by decide +kernel
theorem dL_bid_2 : decode cL_bid 2 = .ok (.iconst 0, 1) := by decide +kernel
theorem dL_bid_3 : decode cL_bid 3 = .ok (.aload_n 0, 1) := by decide +kernel
theorem dL_bid_4 : decode cL_bid 4 = .ok (.iload_n 1, 1) := by decide +kernel
theorem dL_bid_5 : decode cL_bid 5 = .ok (.iload_n 2, 1) := by decide +kernel
theorem dL_bid_6 : decode cL_bid 6 = .ok (.iload_n 3, 1) := by decide +kernel
theorem dL_bid_7 : decode cL_bid 7 = .ok (.invokevirtual 30, 3) := by decide +kernel
theorem dL_bid_10 : decode cL_bid 10 = .ok (.i2l, 1) := by decide +kernel
theorem dL_bid_11 : decode cL_bid 11 = .ok (.lastore, 1) := by decide +kernel
theorem dL_bid_12 : decode cL_bid 12 = .ok (.goto 15, 3) := by decide +kernel
theorem dL_bid_15 : decode cL_bid 15 = .ok (.astore 5, 2) := by decide +kernel
theorem dL_bid_17 : decode cL_bid 17 = .ok (.iconst 1, 1) := by decide +kernel
theorem dL_bid_18 : decode cL_bid 18 = .ok (.ireturn, 1) := by decide +kernel
theorem dL_bid_19 : decode cL_bid 19 = .ok (.astore 5, 2) := by decide +kernel
theorem dL_bid_21 : decode cL_bid 21 = .ok (.iconst 2, 1) := by decide +kernel
theorem dL_bid_22 : decode cL_bid 22 = .ok (.ireturn, 1) := by decide +kernel
theorem dL_bid_23 : decode cL_bid 23 = .ok (.astore 5, 2) := by decide +kernel
theorem dL_bid_25 : decode cL_bid 25 = .ok (.iconst 3, 1) := by decide +kernel
theorem dL_bid_26 : decode cL_bid 26 = .ok (.ireturn, 1) := by decide +kernel
theorem dL_bid_27 : decode cL_bid 27 = .ok (.iconst 0, 1) := by decide +kernel
theorem dL_bid_28 : decode cL_bid 28 = .ok (.ireturn, 1) := by decide +kernel
theorem dL_close_0 : decode cL_close 0 = .ok (.aload_n 1, 1) := by decide +kernel
theorem dL_close_1 : decode cL_close 1 = .ok (.iconst 0, 1) := by decide +kernel
theorem dL_close_2 : decode cL_close 2 = .ok (.aload_n 0, 1) := by decide +kernel
theorem dL_close_3 : decode cL_close 3 = .ok (.invokevirtual 33, 3) := by decide +kernel
theorem dL_close_6 : decode cL_close 6 = .ok (.ifCond .eq 7, 3) := by decide +kernel
theorem dL_close_9 : decode cL_close 9 = .ok (.lconst 1, 1) := by decide +kernel
theorem dL_close_10 : decode cL_close 10 = .ok (.goto 4, 3) := by decide +kernel
theorem dL_close_13 : decode cL_close 13 = .ok (.lconst 0, 1) := by decide +kernel
theorem dL_close_14 : decode cL_close 14 = .ok (.lastore, 1) := by decide +kernel
theorem dL_close_15 : decode cL_close 15 = .ok (.goto 6, 3) := by decide +kernel
theorem dL_close_18 : decode cL_close 18 = .ok (.astore_n 2, 1) := by decide +kernel
theorem dL_close_19 : decode cL_close 19 = .ok (.iconst 1, 1) := by decide +kernel
theorem dL_close_20 : decode cL_close 20 = .ok (.ireturn, 1) := by decide +kernel
theorem dL_close_21 : decode cL_close 21 = .ok (.iconst 0, 1) := by decide +kernel
theorem dL_close_22 : decode cL_close 22 = .ok (.ireturn, 1) := by decide +kernel
theorem dL_burst_0 : decode cL_burst 0 = .ok (.aload_n 2, 1) := by decide +kernel
theorem dL_burst_1 : decode cL_burst 1 = .ok (.iconst 0, 1) := by decide +kernel
theorem dL_burst_2 : decode cL_burst 2 = .ok (.aload_n 0, 1) := by decide +kernel
theorem dL_burst_3 : decode cL_burst 3 = .ok (.iload_n 1, 1) := by decide +kernel
theorem dL_burst_4 : decode cL_burst 4 = .ok (.invokevirtual 37, 3) := by decide +kernel
theorem dL_burst_7 : decode cL_burst 7 = .ok (.i2l, 1) := by decide +kernel
theorem dL_burst_8 : decode cL_burst 8 = .ok (.lastore, 1) := by decide +kernel
theorem dL_burst_9 : decode cL_burst 9 = .ok (.goto 9, 3) := by decide +kernel
theorem dL_burst_12 : decode cL_burst 12 = .ok (.astore_n 3, 1) := by decide +kernel
theorem dL_burst_13 : decode cL_burst 13 = .ok (.iconst 1, 1) := by decide +kernel
theorem dL_burst_14 : decode cL_burst 14 = .ok (.ireturn, 1) := by decide +kernel
theorem dL_burst_15 : decode cL_burst 15 = .ok (.astore_n 3, 1) := by decide +kernel
theorem dL_burst_16 : decode cL_burst 16 = .ok (.iconst 2, 1) := by decide +kernel
theorem dL_burst_17 : decode cL_burst 17 = .ok (.ireturn, 1) := by decide +kernel
theorem dL_burst_18 : decode cL_burst 18 = .ok (.iconst 0, 1) := by decide +kernel
theorem dL_burst_19 : decode cL_burst 19 = .ok (.ireturn, 1) := by decide +kernel
theorem dL_repair_0 : decode cL_repair 0 = .ok (.aload_n 0, 1) := by decide +kernel
theorem dL_repair_1 : decode cL_repair 1 = .ok (.iload_n 1, 1) := by decide +kernel
theorem dL_repair_2 : decode cL_repair 2 = .ok (.invokevirtual 40, 3) := by decide +kernel
theorem dL_repair_5 : decode cL_repair 5 = .ok (.goto 9, 3) := by decide +kernel
theorem dL_repair_8 : decode cL_repair 8 = .ok (.astore_n 2, 1) := by decide +kernel
theorem dL_repair_9 : decode cL_repair 9 = .ok (.iconst 1, 1) := by decide +kernel
theorem dL_repair_10 : decode cL_repair 10 = .ok (.ireturn, 1) := by decide +kernel
theorem dL_repair_11 : decode cL_repair 11 = .ok (.astore_n 2, 1) := by decide +kernel
theorem dL_repair_12 : decode cL_repair 12 = .ok (.iconst 2, 1) := by decide +kernel
theorem dL_repair_13 : decode cL_repair 13 = .ok (.ireturn, 1) := by decide +kernel
theorem dL_repair_14 : decode cL_repair 14 = .ok (.iconst 0, 1) := by decide +kernel
theorem dL_repair_15 : decode cL_repair 15 = .ok (.ireturn, 1) := by decide +kernel
theorem dL_end_0 : decode cL_end 0 = .ok (.aload_n 1, 1) := by decide +kernel
theorem dL_end_1 : decode cL_end 1 = .ok (.iconst 0, 1) := by decide +kernel
theorem dL_end_2 : decode cL_end 2 = .ok (.aload_n 0, 1) := by decide +kernel
theorem dL_end_3 : decode cL_end 3 = .ok (.invokevirtual 44, 3) := by decide +kernel
theorem dL_end_6 : decode cL_end 6 = .ok (.i2l, 1) := by decide +kernel
theorem dL_end_7 : decode cL_end 7 = .ok (.lastore, 1) := by decide +kernel
theorem dL_end_8 : decode cL_end 8 = .ok (.goto 6, 3) := by decide +kernel
theorem dL_end_11 : decode cL_end 11 = .ok (.astore_n 2, 1) := by decide +kernel
theorem dL_end_12 : decode cL_end 12 = .ok (.iconst 1, 1) := by decide +kernel
theorem dL_end_13 : decode cL_end 13 = .ok (.ireturn, 1) := by decide +kernel
theorem dL_end_14 : decode cL_end 14 = .ok (.iconst 0, 1) := by decide +kernel
theorem dL_end_15 : decode cL_end 15 = .ok (.ireturn, 1) := by decide +kernel
theorem dL_ofDistrict_0 : decode cL_ofDistrict 0 = .ok (.aload_n 3, 1) := by decide +kernel
theorem dL_ofDistrict_1 : decode cL_ofDistrict 1 = .ok (.iconst 0, 1) := by decide +kernel
theorem dL_ofDistrict_2 : decode cL_ofDistrict 2 = .ok (.aload_n 0, 1) := by decide +kernel
theorem dL_ofDistrict_3 : decode cL_ofDistrict 3 = .ok (.iload_n 1, 1) := by decide +kernel
theorem dL_ofDistrict_4 : decode cL_ofDistrict 4 = .ok (.iload_n 2, 1) := by decide +kernel
theorem dL_ofDistrict_5 : decode cL_ofDistrict 5 = .ok (.invokevirtual 48, 3) := by decide +kernel
theorem dL_ofDistrict_8 : decode cL_ofDistrict 8 = .ok (.i2l, 1) := by decide +kernel
theorem dL_ofDistrict_9 : decode cL_ofDistrict 9 = .ok (.lastore, 1) := by decide +kernel
theorem dL_ofDistrict_10 : decode cL_ofDistrict 10 = .ok (.goto 7, 3) := by decide +kernel
theorem dL_ofDistrict_13 : decode cL_ofDistrict 13 = .ok (.astore 4, 2) := by decide +kernel
theorem dL_ofDistrict_15 : decode cL_ofDistrict 15 = .ok (.iconst 1, 1) := by decide +kernel
theorem dL_ofDistrict_16 : decode cL_ofDistrict 16 = .ok (.ireturn, 1) := by decide +kernel
theorem dL_ofDistrict_17 : decode cL_ofDistrict 17 = .ok (.iconst 0, 1) := by decide +kernel
theorem dL_ofDistrict_18 : decode cL_ofDistrict 18 = .ok (.ireturn, 1) := by decide +kernel
theorem dL_flowAnew_0 : decode cL_flowAnew 0 = .ok (.aload_n 2, 1) := by decide +kernel
theorem dL_flowAnew_1 : decode cL_flowAnew 1 = .ok (.iconst 0, 1) := by decide +kernel
theorem dL_flowAnew_2 : decode cL_flowAnew 2 = .ok (.aload_n 0, 1) := by decide +kernel
theorem dL_flowAnew_3 : decode cL_flowAnew 3 = .ok (.iload_n 1, 1) := by decide +kernel
theorem dL_flowAnew_4 : decode cL_flowAnew 4 = .ok (.invokevirtual 51, 3) := by decide +kernel
theorem dL_flowAnew_7 : decode cL_flowAnew 7 = .ok (.i2l, 1) := by decide +kernel
theorem dL_flowAnew_8 : decode cL_flowAnew 8 = .ok (.lastore, 1) := by decide +kernel
theorem dL_flowAnew_9 : decode cL_flowAnew 9 = .ok (.goto 6, 3) := by decide +kernel
theorem dL_flowAnew_12 : decode cL_flowAnew 12 = .ok (.astore_n 3, 1) := by decide +kernel
theorem dL_flowAnew_13 : decode cL_flowAnew 13 = .ok (.iconst 1, 1) := by decide +kernel
theorem dL_flowAnew_14 : decode cL_flowAnew 14 = .ok (.ireturn, 1) := by decide +kernel
theorem dL_flowAnew_15 : decode cL_flowAnew 15 = .ok (.iconst 0, 1) := by decide +kernel
theorem dL_flowAnew_16 : decode cL_flowAnew 16 = .ok (.ireturn, 1) := by decide +kernel
theorem dL_most_0 : decode cL_most 0 = .ok (.aload_n 2, 1) := by decide +kernel
theorem dL_most_1 : decode cL_most 1 = .ok (.iconst 0, 1) := by decide +kernel
theorem dL_most_2 : decode cL_most 2 = .ok (.aload_n 0, 1) := by decide +kernel
theorem dL_most_3 : decode cL_most 3 = .ok (.iload_n 1, 1) := by decide +kernel
theorem dL_most_4 : decode cL_most 4 = .ok (.invokevirtual 54, 3) := by decide +kernel
theorem dL_most_7 : decode cL_most 7 = .ok (.i2l, 1) := by decide +kernel
theorem dL_most_8 : decode cL_most 8 = .ok (.lastore, 1) := by decide +kernel
theorem dL_most_9 : decode cL_most 9 = .ok (.goto 6, 3) := by decide +kernel
theorem dL_most_12 : decode cL_most 12 = .ok (.astore_n 3, 1) := by decide +kernel
theorem dL_most_13 : decode cL_most 13 = .ok (.iconst 1, 1) := by decide +kernel
theorem dL_most_14 : decode cL_most 14 = .ok (.ireturn, 1) := by decide +kernel
theorem dL_most_15 : decode cL_most 15 = .ok (.iconst 0, 1) := by decide +kernel
theorem dL_most_16 : decode cL_most 16 = .ok (.ireturn, 1) := by decide +kernel
theorem dL_place_0 : decode cL_place 0 = .ok (.aload_n 2, 1) := by decide +kernel
theorem dL_place_1 : decode cL_place 1 = .ok (.iconst 0, 1) := by decide +kernel
theorem dL_place_2 : decode cL_place 2 = .ok (.aload_n 0, 1) := by decide +kernel
theorem dL_place_3 : decode cL_place 3 = .ok (.iload_n 1, 1) := by decide +kernel
theorem dL_place_4 : decode cL_place 4 = .ok (.invokevirtual 57, 3) := by decide +kernel
theorem dL_place_7 : decode cL_place 7 = .ok (.i2l, 1) := by decide +kernel
theorem dL_place_8 : decode cL_place 8 = .ok (.lastore, 1) := by decide +kernel
theorem dL_place_9 : decode cL_place 9 = .ok (.goto 6, 3) := by decide +kernel
theorem dL_place_12 : decode cL_place 12 = .ok (.astore_n 3, 1) := by decide +kernel
theorem dL_place_13 : decode cL_place 13 = .ok (.iconst 1, 1) := by decide +kernel
theorem dL_place_14 : decode cL_place 14 = .ok (.ireturn, 1) := by decide +kernel
theorem dL_place_15 : decode cL_place 15 = .ok (.iconst 0, 1) := by decide +kernel
theorem dL_place_16 : decode cL_place 16 = .ok (.ireturn, 1) := by decide +kernel
theorem dL_count_0 : decode cL_count 0 = .ok (.aload_n 2, 1) := by decide +kernel
theorem dL_count_1 : decode cL_count 1 = .ok (.iconst 0, 1) := by decide +kernel
theorem dL_count_2 : decode cL_count 2 = .ok (.aload_n 0, 1) := by decide +kernel
theorem dL_count_3 : decode cL_count 3 = .ok (.iload_n 1, 1) := by decide +kernel
theorem dL_count_4 : decode cL_count 4 = .ok (.invokevirtual 60, 3) := by decide +kernel
theorem dL_count_7 : decode cL_count 7 = .ok (.i2l, 1) := by decide +kernel
theorem dL_count_8 : decode cL_count 8 = .ok (.lastore, 1) := by decide +kernel
theorem dL_count_9 : decode cL_count 9 = .ok (.goto 6, 3) := by decide +kernel
theorem dL_count_12 : decode cL_count 12 = .ok (.astore_n 3, 1) := by decide +kernel
theorem dL_count_13 : decode cL_count 13 = .ok (.iconst 1, 1) := by decide +kernel
theorem dL_count_14 : decode cL_count 14 = .ok (.ireturn, 1) := by decide +kernel
theorem dL_count_15 : decode cL_count 15 = .ok (.iconst 0, 1) := by decide +kernel
theorem dL_count_16 : decode cL_count 16 = .ok (.ireturn, 1) := by decide +kernel
theorem dL_law_0 : decode cL_law 0 = .ok (.new 8, 3) := by decide +kernel
theorem dL_law_3 : decode cL_law 3 = .ok (.dup, 1) := by decide +kernel
theorem dL_law_4 : decode cL_law 4 = .ok (.invokespecial 63, 3) := by decide +kernel
theorem dL_law_7 : decode cL_law 7 = .ok (.astore_n 1, 1) := by decide +kernel
theorem dL_law_8 : decode cL_law 8 = .ok (.new 64, 3) := by decide +kernel
theorem dL_law_11 : decode cL_law 11 = .ok (.dup, 1) := by decide +kernel
theorem dL_law_12 : decode cL_law 12 = .ok (.invokespecial 66, 3) := by decide +kernel
theorem dL_law_15 : decode cL_law 15 = .ok (.astore_n 2, 1) := by decide +kernel
theorem dL_law_16 : decode cL_law 16 = .ok (.iconst 1, 1) := by decide +kernel
theorem dL_law_17 : decode cL_law 17 = .ok (.newarray .long, 2) := by decide +kernel
theorem dL_law_19 : decode cL_law 19 = .ok (.astore_n 3, 1) := by decide +kernel
theorem dL_law_20 : decode cL_law 20 = .ok (.iconst 0, 1) := by decide +kernel
theorem dL_law_21 : decode cL_law 21 = .ok (.istore 4, 2) := by decide +kernel
theorem dL_law_23 : decode cL_law 23 = .ok (.iload 4, 2) := by decide +kernel
theorem dL_law_25 : decode cL_law 25 = .ok (.aload_n 0, 1) := by decide +kernel
theorem dL_law_26 : decode cL_law 26 = .ok (.arraylength, 1) := by decide +kernel
theorem dL_law_27 : decode cL_law 27 = .ok (.iconst 4, 1) := by decide +kernel
theorem dL_law_28 : decode cL_law 28 = .ok (.isub, 1) := by decide +kernel
theorem dL_law_29 : decode cL_law 29 = .ok (.if_icmp .gt 950, 3) := by decide +kernel
theorem dL_law_32 : decode cL_law 32 = .ok (.aload_n 0, 1) := by decide +kernel
theorem dL_law_33 : decode cL_law 33 = .ok (.iload 4, 2) := by decide +kernel
theorem dL_law_35 : decode cL_law 35 = .ok (.iaload, 1) := by decide +kernel
theorem dL_law_36 : decode cL_law 36 = .ok (.bipush 15, 2) := by decide +kernel
theorem dL_law_38 : decode cL_law 38 = .ok (.iand, 1) := by decide +kernel
theorem dL_law_39 : decode cL_law 39 = .ok (.tableswitch 934 0 15 #[77, 145, 225, 281, 349, 429, 480, 536, 572, 616, 629, 642, 710, 766, 822, 878], 77) := by decide +kernel
theorem dL_law_116 : decode cL_law 116 = .ok (.aload_n 1, 1) := by decide +kernel
theorem dL_law_117 : decode cL_law 117 = .ok (.aload_n 0, 1) := by decide +kernel
theorem dL_law_118 : decode cL_law 118 = .ok (.iload 4, 2) := by decide +kernel
theorem dL_law_120 : decode cL_law 120 = .ok (.iconst 1, 1) := by decide +kernel
theorem dL_law_121 : decode cL_law 121 = .ok (.iadd, 1) := by decide +kernel
theorem dL_law_122 : decode cL_law 122 = .ok (.iaload, 1) := by decide +kernel
theorem dL_law_123 : decode cL_law 123 = .ok (.aload_n 0, 1) := by decide +kernel
theorem dL_law_124 : decode cL_law 124 = .ok (.iload 4, 2) := by decide +kernel
theorem dL_law_126 : decode cL_law 126 = .ok (.iconst 2, 1) := by decide +kernel
theorem dL_law_127 : decode cL_law 127 = .ok (.iadd, 1) := by decide +kernel
theorem dL_law_128 : decode cL_law 128 = .ok (.iaload, 1) := by decide +kernel
theorem dL_law_129 : decode cL_law 129 = .ok (.aload_n 3, 1) := by decide +kernel
theorem dL_law_130 : decode cL_law 130 = .ok (.invokestatic 67, 3) := by decide +kernel
theorem dL_law_133 : decode cL_law 133 = .ok (.istore 5, 2) := by decide +kernel
theorem dL_law_135 : decode cL_law 135 = .ok (.aload_n 2, 1) := by decide +kernel
theorem dL_law_136 : decode cL_law 136 = .ok (.aload_n 0, 1) := by decide +kernel
theorem dL_law_137 : decode cL_law 137 = .ok (.iload 4, 2) := by decide +kernel
theorem dL_law_139 : decode cL_law 139 = .ok (.iconst 1, 1) := by decide +kernel
theorem dL_law_140 : decode cL_law 140 = .ok (.iadd, 1) := by decide +kernel
theorem dL_law_141 : decode cL_law 141 = .ok (.iaload, 1) := by decide +kernel
theorem dL_law_142 : decode cL_law 142 = .ok (.aload_n 0, 1) := by decide +kernel
theorem dL_law_143 : decode cL_law 143 = .ok (.iload 4, 2) := by decide +kernel
theorem dL_law_145 : decode cL_law 145 = .ok (.iconst 2, 1) := by decide +kernel
theorem dL_law_146 : decode cL_law 146 = .ok (.iadd, 1) := by decide +kernel
theorem dL_law_147 : decode cL_law 147 = .ok (.iaload, 1) := by decide +kernel
theorem dL_law_148 : decode cL_law 148 = .ok (.invokevirtual 72, 3) := by decide +kernel
theorem dL_law_151 : decode cL_law 151 = .ok (.istore 6, 2) := by decide +kernel
theorem dL_law_153 : decode cL_law 153 = .ok (.aload_n 2, 1) := by decide +kernel
theorem dL_law_154 : decode cL_law 154 = .ok (.invokevirtual 73, 3) := by decide +kernel
theorem dL_law_157 : decode cL_law 157 = .ok (.iload 5, 2) := by decide +kernel
theorem dL_law_159 : decode cL_law 159 = .ok (.if_icmp .eq 5, 3) := by decide +kernel
theorem dL_law_162 : decode cL_law 162 = .ok (.iconst 0, 1) := by decide +kernel
theorem dL_law_163 : decode cL_law 163 = .ok (.ireturn, 1) := by decide +kernel
theorem dL_law_164 : decode cL_law 164 = .ok (.iload 5, 2) := by decide +kernel
theorem dL_law_166 : decode cL_law 166 = .ok (.ifCond .ne 15, 3) := by decide +kernel
theorem dL_law_169 : decode cL_law 169 = .ok (.aload_n 3, 1) := by decide +kernel
theorem dL_law_170 : decode cL_law 170 = .ok (.iconst 0, 1) := by decide +kernel
theorem dL_law_171 : decode cL_law 171 = .ok (.laload, 1) := by decide +kernel
theorem dL_law_172 : decode cL_law 172 = .ok (.iload 6, 2) := by decide +kernel
theorem dL_law_174 : decode cL_law 174 = .ok (.i2l, 1) := by decide +kernel
theorem dL_law_175 : decode cL_law 175 = .ok (.lcmp, 1) := by decide +kernel
theorem dL_law_176 : decode cL_law 176 = .ok (.ifCond .eq 5, 3) := by decide +kernel
theorem dL_law_179 : decode cL_law 179 = .ok (.iconst 0, 1) := by decide +kernel
theorem dL_law_180 : decode cL_law 180 = .ok (.ireturn, 1) := by decide +kernel
theorem dL_law_181 : decode cL_law 181 = .ok (.goto 792, 3) := by decide +kernel
theorem dL_law_184 : decode cL_law 184 = .ok (.aload_n 1, 1) := by decide +kernel
theorem dL_law_185 : decode cL_law 185 = .ok (.aload_n 0, 1) := by decide +kernel
theorem dL_law_186 : decode cL_law 186 = .ok (.iload 4, 2) := by decide +kernel
theorem dL_law_188 : decode cL_law 188 = .ok (.iconst 1, 1) := by decide +kernel
theorem dL_law_189 : decode cL_law 189 = .ok (.iadd, 1) := by decide +kernel
theorem dL_law_190 : decode cL_law 190 = .ok (.iaload, 1) := by decide +kernel
theorem dL_law_191 : decode cL_law 191 = .ok (.aload_n 0, 1) := by decide +kernel
theorem dL_law_192 : decode cL_law 192 = .ok (.iload 4, 2) := by decide +kernel
theorem dL_law_194 : decode cL_law 194 = .ok (.iconst 2, 1) := by decide +kernel
theorem dL_law_195 : decode cL_law 195 = .ok (.iadd, 1) := by decide +kernel
theorem dL_law_196 : decode cL_law 196 = .ok (.iaload, 1) := by decide +kernel
theorem dL_law_197 : decode cL_law 197 = .ok (.aload_n 0, 1) := by decide +kernel
theorem dL_law_198 : decode cL_law 198 = .ok (.iload 4, 2) := by decide +kernel
theorem dL_law_200 : decode cL_law 200 = .ok (.iconst 3, 1) := by decide +kernel
theorem dL_law_201 : decode cL_law 201 = .ok (.iadd, 1) := by decide +kernel
theorem dL_law_202 : decode cL_law 202 = .ok (.iaload, 1) := by decide +kernel
theorem dL_law_203 : decode cL_law 203 = .ok (.aload_n 3, 1) := by decide +kernel
theorem dL_law_204 : decode cL_law 204 = .ok (.invokestatic 76, 3) := by decide +kernel
theorem dL_law_207 : decode cL_law 207 = .ok (.istore 5, 2) := by decide +kernel
theorem dL_law_209 : decode cL_law 209 = .ok (.aload_n 2, 1) := by decide +kernel
theorem dL_law_210 : decode cL_law 210 = .ok (.aload_n 0, 1) := by decide +kernel
theorem dL_law_211 : decode cL_law 211 = .ok (.iload 4, 2) := by decide +kernel
theorem dL_law_213 : decode cL_law 213 = .ok (.iconst 1, 1) := by decide +kernel
theorem dL_law_214 : decode cL_law 214 = .ok (.iadd, 1) := by decide +kernel
theorem dL_law_215 : decode cL_law 215 = .ok (.iaload, 1) := by decide +kernel
theorem dL_law_216 : decode cL_law 216 = .ok (.aload_n 0, 1) := by decide +kernel
theorem dL_law_217 : decode cL_law 217 = .ok (.iload 4, 2) := by decide +kernel
theorem dL_law_219 : decode cL_law 219 = .ok (.iconst 2, 1) := by decide +kernel
theorem dL_law_220 : decode cL_law 220 = .ok (.iadd, 1) := by decide +kernel
theorem dL_law_221 : decode cL_law 221 = .ok (.iaload, 1) := by decide +kernel
theorem dL_law_222 : decode cL_law 222 = .ok (.aload_n 0, 1) := by decide +kernel
theorem dL_law_223 : decode cL_law 223 = .ok (.iload 4, 2) := by decide +kernel
theorem dL_law_225 : decode cL_law 225 = .ok (.iconst 3, 1) := by decide +kernel
theorem dL_law_226 : decode cL_law 226 = .ok (.iadd, 1) := by decide +kernel
theorem dL_law_227 : decode cL_law 227 = .ok (.iaload, 1) := by decide +kernel
theorem dL_law_228 : decode cL_law 228 = .ok (.invokevirtual 79, 3) := by decide +kernel
theorem dL_law_231 : decode cL_law 231 = .ok (.istore 6, 2) := by decide +kernel
theorem dL_law_233 : decode cL_law 233 = .ok (.aload_n 2, 1) := by decide +kernel
theorem dL_law_234 : decode cL_law 234 = .ok (.invokevirtual 73, 3) := by decide +kernel
theorem dL_law_237 : decode cL_law 237 = .ok (.iload 5, 2) := by decide +kernel
theorem dL_law_239 : decode cL_law 239 = .ok (.if_icmp .eq 5, 3) := by decide +kernel
theorem dL_law_242 : decode cL_law 242 = .ok (.iconst 0, 1) := by decide +kernel
theorem dL_law_243 : decode cL_law 243 = .ok (.ireturn, 1) := by decide +kernel
theorem dL_law_244 : decode cL_law 244 = .ok (.iload 5, 2) := by decide +kernel
theorem dL_law_246 : decode cL_law 246 = .ok (.ifCond .ne 15, 3) := by decide +kernel
theorem dL_law_249 : decode cL_law 249 = .ok (.aload_n 3, 1) := by decide +kernel
theorem dL_law_250 : decode cL_law 250 = .ok (.iconst 0, 1) := by decide +kernel
theorem dL_law_251 : decode cL_law 251 = .ok (.laload, 1) := by decide +kernel
theorem dL_law_252 : decode cL_law 252 = .ok (.iload 6, 2) := by decide +kernel
theorem dL_law_254 : decode cL_law 254 = .ok (.i2l, 1) := by decide +kernel
theorem dL_law_255 : decode cL_law 255 = .ok (.lcmp, 1) := by decide +kernel
theorem dL_law_256 : decode cL_law 256 = .ok (.ifCond .eq 5, 3) := by decide +kernel
theorem dL_law_259 : decode cL_law 259 = .ok (.iconst 0, 1) := by decide +kernel
theorem dL_law_260 : decode cL_law 260 = .ok (.ireturn, 1) := by decide +kernel
theorem dL_law_261 : decode cL_law 261 = .ok (.goto 712, 3) := by decide +kernel
theorem dL_law_264 : decode cL_law 264 = .ok (.aload_n 1, 1) := by decide +kernel
theorem dL_law_265 : decode cL_law 265 = .ok (.aload_n 0, 1) := by decide +kernel
theorem dL_law_266 : decode cL_law 266 = .ok (.iload 4, 2) := by decide +kernel
theorem dL_law_268 : decode cL_law 268 = .ok (.iconst 1, 1) := by decide +kernel
theorem dL_law_269 : decode cL_law 269 = .ok (.iadd, 1) := by decide +kernel
theorem dL_law_270 : decode cL_law 270 = .ok (.iaload, 1) := by decide +kernel
theorem dL_law_271 : decode cL_law 271 = .ok (.aload_n 3, 1) := by decide +kernel
theorem dL_law_272 : decode cL_law 272 = .ok (.invokestatic 80, 3) := by decide +kernel
theorem dL_law_275 : decode cL_law 275 = .ok (.istore 5, 2) := by decide +kernel
theorem dL_law_277 : decode cL_law 277 = .ok (.aload_n 2, 1) := by decide +kernel
theorem dL_law_278 : decode cL_law 278 = .ok (.aload_n 0, 1) := by decide +kernel
theorem dL_law_279 : decode cL_law 279 = .ok (.iload 4, 2) := by decide +kernel
theorem dL_law_281 : decode cL_law 281 = .ok (.iconst 1, 1) := by decide +kernel
theorem dL_law_282 : decode cL_law 282 = .ok (.iadd, 1) := by decide +kernel
theorem dL_law_283 : decode cL_law 283 = .ok (.iaload, 1) := by decide +kernel
theorem dL_law_284 : decode cL_law 284 = .ok (.invokevirtual 83, 3) := by decide +kernel
theorem dL_law_287 : decode cL_law 287 = .ok (.istore 6, 2) := by decide +kernel
theorem dL_law_289 : decode cL_law 289 = .ok (.aload_n 2, 1) := by decide +kernel
theorem dL_law_290 : decode cL_law 290 = .ok (.invokevirtual 73, 3) := by decide +kernel
theorem dL_law_293 : decode cL_law 293 = .ok (.iload 5, 2) := by decide +kernel
theorem dL_law_295 : decode cL_law 295 = .ok (.if_icmp .eq 5, 3) := by decide +kernel
theorem dL_law_298 : decode cL_law 298 = .ok (.iconst 0, 1) := by decide +kernel
theorem dL_law_299 : decode cL_law 299 = .ok (.ireturn, 1) := by decide +kernel
theorem dL_law_300 : decode cL_law 300 = .ok (.iload 5, 2) := by decide +kernel
theorem dL_law_302 : decode cL_law 302 = .ok (.ifCond .ne 15, 3) := by decide +kernel
theorem dL_law_305 : decode cL_law 305 = .ok (.aload_n 3, 1) := by decide +kernel
theorem dL_law_306 : decode cL_law 306 = .ok (.iconst 0, 1) := by decide +kernel
theorem dL_law_307 : decode cL_law 307 = .ok (.laload, 1) := by decide +kernel
theorem dL_law_308 : decode cL_law 308 = .ok (.iload 6, 2) := by decide +kernel
theorem dL_law_310 : decode cL_law 310 = .ok (.i2l, 1) := by decide +kernel
theorem dL_law_311 : decode cL_law 311 = .ok (.lcmp, 1) := by decide +kernel
theorem dL_law_312 : decode cL_law 312 = .ok (.ifCond .eq 5, 3) := by decide +kernel
theorem dL_law_315 : decode cL_law 315 = .ok (.iconst 0, 1) := by decide +kernel
theorem dL_law_316 : decode cL_law 316 = .ok (.ireturn, 1) := by decide +kernel
theorem dL_law_317 : decode cL_law 317 = .ok (.goto 656, 3) := by decide +kernel
theorem dL_law_320 : decode cL_law 320 = .ok (.aload_n 1, 1) := by decide +kernel
theorem dL_law_321 : decode cL_law 321 = .ok (.aload_n 0, 1) := by decide +kernel
theorem dL_law_322 : decode cL_law 322 = .ok (.iload 4, 2) := by decide +kernel
theorem dL_law_324 : decode cL_law 324 = .ok (.iconst 1, 1) := by decide +kernel
theorem dL_law_325 : decode cL_law 325 = .ok (.iadd, 1) := by decide +kernel
theorem dL_law_326 : decode cL_law 326 = .ok (.iaload, 1) := by decide +kernel
theorem dL_law_327 : decode cL_law 327 = .ok (.aload_n 0, 1) := by decide +kernel
theorem dL_law_328 : decode cL_law 328 = .ok (.iload 4, 2) := by decide +kernel
theorem dL_law_330 : decode cL_law 330 = .ok (.iconst 2, 1) := by decide +kernel
theorem dL_law_331 : decode cL_law 331 = .ok (.iadd, 1) := by decide +kernel
theorem dL_law_332 : decode cL_law 332 = .ok (.iaload, 1) := by decide +kernel
theorem dL_law_333 : decode cL_law 333 = .ok (.aload_n 3, 1) := by decide +kernel
theorem dL_law_334 : decode cL_law 334 = .ok (.invokestatic 84, 3) := by decide +kernel
theorem dL_law_337 : decode cL_law 337 = .ok (.istore 5, 2) := by decide +kernel
theorem dL_law_339 : decode cL_law 339 = .ok (.aload_n 2, 1) := by decide +kernel
theorem dL_law_340 : decode cL_law 340 = .ok (.aload_n 0, 1) := by decide +kernel
theorem dL_law_341 : decode cL_law 341 = .ok (.iload 4, 2) := by decide +kernel
theorem dL_law_343 : decode cL_law 343 = .ok (.iconst 1, 1) := by decide +kernel
theorem dL_law_344 : decode cL_law 344 = .ok (.iadd, 1) := by decide +kernel
theorem dL_law_345 : decode cL_law 345 = .ok (.iaload, 1) := by decide +kernel
theorem dL_law_346 : decode cL_law 346 = .ok (.aload_n 0, 1) := by decide +kernel
theorem dL_law_347 : decode cL_law 347 = .ok (.iload 4, 2) := by decide +kernel
theorem dL_law_349 : decode cL_law 349 = .ok (.iconst 2, 1) := by decide +kernel
theorem dL_law_350 : decode cL_law 350 = .ok (.iadd, 1) := by decide +kernel
theorem dL_law_351 : decode cL_law 351 = .ok (.iaload, 1) := by decide +kernel
theorem dL_law_352 : decode cL_law 352 = .ok (.invokevirtual 86, 3) := by decide +kernel
theorem dL_law_355 : decode cL_law 355 = .ok (.istore 6, 2) := by decide +kernel
theorem dL_law_357 : decode cL_law 357 = .ok (.aload_n 2, 1) := by decide +kernel
theorem dL_law_358 : decode cL_law 358 = .ok (.invokevirtual 73, 3) := by decide +kernel
theorem dL_law_361 : decode cL_law 361 = .ok (.iload 5, 2) := by decide +kernel
theorem dL_law_363 : decode cL_law 363 = .ok (.if_icmp .eq 5, 3) := by decide +kernel
theorem dL_law_366 : decode cL_law 366 = .ok (.iconst 0, 1) := by decide +kernel
theorem dL_law_367 : decode cL_law 367 = .ok (.ireturn, 1) := by decide +kernel
theorem dL_law_368 : decode cL_law 368 = .ok (.iload 5, 2) := by decide +kernel
theorem dL_law_370 : decode cL_law 370 = .ok (.ifCond .ne 15, 3) := by decide +kernel
theorem dL_law_373 : decode cL_law 373 = .ok (.aload_n 3, 1) := by decide +kernel
theorem dL_law_374 : decode cL_law 374 = .ok (.iconst 0, 1) := by decide +kernel
theorem dL_law_375 : decode cL_law 375 = .ok (.laload, 1) := by decide +kernel
theorem dL_law_376 : decode cL_law 376 = .ok (.iload 6, 2) := by decide +kernel
theorem dL_law_378 : decode cL_law 378 = .ok (.i2l, 1) := by decide +kernel
theorem dL_law_379 : decode cL_law 379 = .ok (.lcmp, 1) := by decide +kernel
theorem dL_law_380 : decode cL_law 380 = .ok (.ifCond .eq 5, 3) := by decide +kernel
theorem dL_law_383 : decode cL_law 383 = .ok (.iconst 0, 1) := by decide +kernel
theorem dL_law_384 : decode cL_law 384 = .ok (.ireturn, 1) := by decide +kernel
theorem dL_law_385 : decode cL_law 385 = .ok (.goto 588, 3) := by decide +kernel
theorem dL_law_388 : decode cL_law 388 = .ok (.aload_n 1, 1) := by decide +kernel
theorem dL_law_389 : decode cL_law 389 = .ok (.aload_n 0, 1) := by decide +kernel
theorem dL_law_390 : decode cL_law 390 = .ok (.iload 4, 2) := by decide +kernel
theorem dL_law_392 : decode cL_law 392 = .ok (.iconst 1, 1) := by decide +kernel
theorem dL_law_393 : decode cL_law 393 = .ok (.iadd, 1) := by decide +kernel
theorem dL_law_394 : decode cL_law 394 = .ok (.iaload, 1) := by decide +kernel
theorem dL_law_395 : decode cL_law 395 = .ok (.aload_n 0, 1) := by decide +kernel
theorem dL_law_396 : decode cL_law 396 = .ok (.iload 4, 2) := by decide +kernel
theorem dL_law_398 : decode cL_law 398 = .ok (.iconst 2, 1) := by decide +kernel
theorem dL_law_399 : decode cL_law 399 = .ok (.iadd, 1) := by decide +kernel
theorem dL_law_400 : decode cL_law 400 = .ok (.iaload, 1) := by decide +kernel
theorem dL_law_401 : decode cL_law 401 = .ok (.aload_n 0, 1) := by decide +kernel
theorem dL_law_402 : decode cL_law 402 = .ok (.iload 4, 2) := by decide +kernel
theorem dL_law_404 : decode cL_law 404 = .ok (.iconst 3, 1) := by decide +kernel
theorem dL_law_405 : decode cL_law 405 = .ok (.iadd, 1) := by decide +kernel
theorem dL_law_406 : decode cL_law 406 = .ok (.iaload, 1) := by decide +kernel
theorem dL_law_407 : decode cL_law 407 = .ok (.aload_n 3, 1) := by decide +kernel
theorem dL_law_408 : decode cL_law 408 = .ok (.invokestatic 87, 3) := by decide +kernel
theorem dL_law_411 : decode cL_law 411 = .ok (.istore 5, 2) := by decide +kernel
theorem dL_law_413 : decode cL_law 413 = .ok (.aload_n 2, 1) := by decide +kernel
theorem dL_law_414 : decode cL_law 414 = .ok (.aload_n 0, 1) := by decide +kernel
theorem dL_law_415 : decode cL_law 415 = .ok (.iload 4, 2) := by decide +kernel
theorem dL_law_417 : decode cL_law 417 = .ok (.iconst 1, 1) := by decide +kernel
theorem dL_law_418 : decode cL_law 418 = .ok (.iadd, 1) := by decide +kernel
theorem dL_law_419 : decode cL_law 419 = .ok (.iaload, 1) := by decide +kernel
theorem dL_law_420 : decode cL_law 420 = .ok (.aload_n 0, 1) := by decide +kernel
theorem dL_law_421 : decode cL_law 421 = .ok (.iload 4, 2) := by decide +kernel
theorem dL_law_423 : decode cL_law 423 = .ok (.iconst 2, 1) := by decide +kernel
theorem dL_law_424 : decode cL_law 424 = .ok (.iadd, 1) := by decide +kernel
theorem dL_law_425 : decode cL_law 425 = .ok (.iaload, 1) := by decide +kernel
theorem dL_law_426 : decode cL_law 426 = .ok (.aload_n 0, 1) := by decide +kernel
theorem dL_law_427 : decode cL_law 427 = .ok (.iload 4, 2) := by decide +kernel
theorem dL_law_429 : decode cL_law 429 = .ok (.iconst 3, 1) := by decide +kernel
theorem dL_law_430 : decode cL_law 430 = .ok (.iadd, 1) := by decide +kernel
theorem dL_law_431 : decode cL_law 431 = .ok (.iaload, 1) := by decide +kernel
theorem dL_law_432 : decode cL_law 432 = .ok (.invokevirtual 89, 3) := by decide +kernel
theorem dL_law_435 : decode cL_law 435 = .ok (.istore 6, 2) := by decide +kernel
theorem dL_law_437 : decode cL_law 437 = .ok (.aload_n 2, 1) := by decide +kernel
theorem dL_law_438 : decode cL_law 438 = .ok (.invokevirtual 73, 3) := by decide +kernel
theorem dL_law_441 : decode cL_law 441 = .ok (.iload 5, 2) := by decide +kernel
theorem dL_law_443 : decode cL_law 443 = .ok (.if_icmp .eq 5, 3) := by decide +kernel
theorem dL_law_446 : decode cL_law 446 = .ok (.iconst 0, 1) := by decide +kernel
theorem dL_law_447 : decode cL_law 447 = .ok (.ireturn, 1) := by decide +kernel
theorem dL_law_448 : decode cL_law 448 = .ok (.iload 5, 2) := by decide +kernel
theorem dL_law_450 : decode cL_law 450 = .ok (.ifCond .ne 15, 3) := by decide +kernel
theorem dL_law_453 : decode cL_law 453 = .ok (.aload_n 3, 1) := by decide +kernel
theorem dL_law_454 : decode cL_law 454 = .ok (.iconst 0, 1) := by decide +kernel
theorem dL_law_455 : decode cL_law 455 = .ok (.laload, 1) := by decide +kernel
theorem dL_law_456 : decode cL_law 456 = .ok (.iload 6, 2) := by decide +kernel
theorem dL_law_458 : decode cL_law 458 = .ok (.i2l, 1) := by decide +kernel
theorem dL_law_459 : decode cL_law 459 = .ok (.lcmp, 1) := by decide +kernel
theorem dL_law_460 : decode cL_law 460 = .ok (.ifCond .eq 5, 3) := by decide +kernel
theorem dL_law_463 : decode cL_law 463 = .ok (.iconst 0, 1) := by decide +kernel
theorem dL_law_464 : decode cL_law 464 = .ok (.ireturn, 1) := by decide +kernel
theorem dL_law_465 : decode cL_law 465 = .ok (.goto 508, 3) := by decide +kernel
theorem dL_law_468 : decode cL_law 468 = .ok (.aload_n 1, 1) := by decide +kernel
theorem dL_law_469 : decode cL_law 469 = .ok (.aload_n 3, 1) := by decide +kernel
theorem dL_law_470 : decode cL_law 470 = .ok (.invokestatic 90, 3) := by decide +kernel
theorem dL_law_473 : decode cL_law 473 = .ok (.istore 5, 2) := by decide +kernel
theorem dL_law_475 : decode cL_law 475 = .ok (.aload_n 2, 1) := by decide +kernel
theorem dL_law_476 : decode cL_law 476 = .ok (.invokevirtual 93, 3) := by decide +kernel
theorem dL_law_479 : decode cL_law 479 = .ok (.istore 6, 2) := by decide +kernel
theorem dL_law_481 : decode cL_law 481 = .ok (.aload_n 2, 1) := by decide +kernel
theorem dL_law_482 : decode cL_law 482 = .ok (.invokevirtual 73, 3) := by decide +kernel
theorem dL_law_485 : decode cL_law 485 = .ok (.iload 5, 2) := by decide +kernel
theorem dL_law_487 : decode cL_law 487 = .ok (.if_icmp .eq 5, 3) := by decide +kernel
theorem dL_law_490 : decode cL_law 490 = .ok (.iconst 0, 1) := by decide +kernel
theorem dL_law_491 : decode cL_law 491 = .ok (.ireturn, 1) := by decide +kernel
theorem dL_law_492 : decode cL_law 492 = .ok (.iload 5, 2) := by decide +kernel
theorem dL_law_494 : decode cL_law 494 = .ok (.ifCond .ne 22, 3) := by decide +kernel
theorem dL_law_497 : decode cL_law 497 = .ok (.aload_n 3, 1) := by decide +kernel
theorem dL_law_498 : decode cL_law 498 = .ok (.iconst 0, 1) := by decide +kernel
theorem dL_law_499 : decode cL_law 499 = .ok (.laload, 1) := by decide +kernel
theorem dL_law_500 : decode cL_law 500 = .ok (.iload 6, 2) := by decide +kernel
theorem dL_law_502 : decode cL_law 502 = .ok (.ifCond .eq 7, 3) := by decide +kernel
theorem dL_law_505 : decode cL_law 505 = .ok (.lconst 1, 1) := by decide +kernel
theorem dL_law_506 : decode cL_law 506 = .ok (.goto 4, 3) := by decide +kernel
theorem dL_law_509 : decode cL_law 509 = .ok (.lconst 0, 1) := by decide +kernel
theorem dL_law_510 : decode cL_law 510 = .ok (.lcmp, 1) := by decide +kernel
theorem dL_law_511 : decode cL_law 511 = .ok (.ifCond .eq 5, 3) := by decide +kernel
theorem dL_law_514 : decode cL_law 514 = .ok (.iconst 0, 1) := by decide +kernel
theorem dL_law_515 : decode cL_law 515 = .ok (.ireturn, 1) := by decide +kernel
theorem dL_law_516 : decode cL_law 516 = .ok (.goto 457, 3) := by decide +kernel
theorem dL_law_519 : decode cL_law 519 = .ok (.aload_n 1, 1) := by decide +kernel
theorem dL_law_520 : decode cL_law 520 = .ok (.aload_n 0, 1) := by decide +kernel
theorem dL_law_521 : decode cL_law 521 = .ok (.iload 4, 2) := by decide +kernel
theorem dL_law_523 : decode cL_law 523 = .ok (.iconst 1, 1) := by decide +kernel
theorem dL_law_524 : decode cL_law 524 = .ok (.iadd, 1) := by decide +kernel
theorem dL_law_525 : decode cL_law 525 = .ok (.iaload, 1) := by decide +kernel
theorem dL_law_526 : decode cL_law 526 = .ok (.aload_n 3, 1) := by decide +kernel
theorem dL_law_527 : decode cL_law 527 = .ok (.invokestatic 94, 3) := by decide +kernel
theorem dL_law_530 : decode cL_law 530 = .ok (.istore 5, 2) := by decide +kernel
theorem dL_law_532 : decode cL_law 532 = .ok (.aload_n 2, 1) := by decide +kernel
theorem dL_law_533 : decode cL_law 533 = .ok (.aload_n 0, 1) := by decide +kernel
theorem dL_law_534 : decode cL_law 534 = .ok (.iload 4, 2) := by decide +kernel
theorem dL_law_536 : decode cL_law 536 = .ok (.iconst 1, 1) := by decide +kernel
theorem dL_law_537 : decode cL_law 537 = .ok (.iadd, 1) := by decide +kernel
theorem dL_law_538 : decode cL_law 538 = .ok (.iaload, 1) := by decide +kernel
theorem dL_law_539 : decode cL_law 539 = .ok (.invokevirtual 96, 3) := by decide +kernel
theorem dL_law_542 : decode cL_law 542 = .ok (.istore 6, 2) := by decide +kernel
theorem dL_law_544 : decode cL_law 544 = .ok (.aload_n 2, 1) := by decide +kernel
theorem dL_law_545 : decode cL_law 545 = .ok (.invokevirtual 73, 3) := by decide +kernel
theorem dL_law_548 : decode cL_law 548 = .ok (.iload 5, 2) := by decide +kernel
theorem dL_law_550 : decode cL_law 550 = .ok (.if_icmp .eq 5, 3) := by decide +kernel
theorem dL_law_553 : decode cL_law 553 = .ok (.iconst 0, 1) := by decide +kernel
theorem dL_law_554 : decode cL_law 554 = .ok (.ireturn, 1) := by decide +kernel
theorem dL_law_555 : decode cL_law 555 = .ok (.iload 5, 2) := by decide +kernel
theorem dL_law_557 : decode cL_law 557 = .ok (.ifCond .ne 15, 3) := by decide +kernel
theorem dL_law_560 : decode cL_law 560 = .ok (.aload_n 3, 1) := by decide +kernel
theorem dL_law_561 : decode cL_law 561 = .ok (.iconst 0, 1) := by decide +kernel
theorem dL_law_562 : decode cL_law 562 = .ok (.laload, 1) := by decide +kernel
theorem dL_law_563 : decode cL_law 563 = .ok (.iload 6, 2) := by decide +kernel
theorem dL_law_565 : decode cL_law 565 = .ok (.i2l, 1) := by decide +kernel
theorem dL_law_566 : decode cL_law 566 = .ok (.lcmp, 1) := by decide +kernel
theorem dL_law_567 : decode cL_law 567 = .ok (.ifCond .eq 5, 3) := by decide +kernel
theorem dL_law_570 : decode cL_law 570 = .ok (.iconst 0, 1) := by decide +kernel
theorem dL_law_571 : decode cL_law 571 = .ok (.ireturn, 1) := by decide +kernel
theorem dL_law_572 : decode cL_law 572 = .ok (.goto 401, 3) := by decide +kernel
theorem dL_law_575 : decode cL_law 575 = .ok (.aload_n 1, 1) := by decide +kernel
theorem dL_law_576 : decode cL_law 576 = .ok (.aload_n 0, 1) := by decide +kernel
theorem dL_law_577 : decode cL_law 577 = .ok (.iload 4, 2) := by decide +kernel
theorem dL_law_579 : decode cL_law 579 = .ok (.iconst 1, 1) := by decide +kernel
theorem dL_law_580 : decode cL_law 580 = .ok (.iadd, 1) := by decide +kernel
theorem dL_law_581 : decode cL_law 581 = .ok (.iaload, 1) := by decide +kernel
theorem dL_law_582 : decode cL_law 582 = .ok (.invokestatic 97, 3) := by decide +kernel
theorem dL_law_585 : decode cL_law 585 = .ok (.istore 5, 2) := by decide +kernel
theorem dL_law_587 : decode cL_law 587 = .ok (.aload_n 2, 1) := by decide +kernel
theorem dL_law_588 : decode cL_law 588 = .ok (.aload_n 0, 1) := by decide +kernel
theorem dL_law_589 : decode cL_law 589 = .ok (.iload 4, 2) := by decide +kernel
theorem dL_law_591 : decode cL_law 591 = .ok (.iconst 1, 1) := by decide +kernel
theorem dL_law_592 : decode cL_law 592 = .ok (.iadd, 1) := by decide +kernel
theorem dL_law_593 : decode cL_law 593 = .ok (.iaload, 1) := by decide +kernel
theorem dL_law_594 : decode cL_law 594 = .ok (.invokevirtual 100, 3) := by decide +kernel
theorem dL_law_597 : decode cL_law 597 = .ok (.aload_n 2, 1) := by decide +kernel
theorem dL_law_598 : decode cL_law 598 = .ok (.invokevirtual 73, 3) := by decide +kernel
theorem dL_law_601 : decode cL_law 601 = .ok (.iload 5, 2) := by decide +kernel
theorem dL_law_603 : decode cL_law 603 = .ok (.if_icmp .eq 5, 3) := by decide +kernel
theorem dL_law_606 : decode cL_law 606 = .ok (.iconst 0, 1) := by decide +kernel
theorem dL_law_607 : decode cL_law 607 = .ok (.ireturn, 1) := by decide +kernel
theorem dL_law_608 : decode cL_law 608 = .ok (.goto 365, 3) := by decide +kernel
theorem dL_law_611 : decode cL_law 611 = .ok (.aload_n 1, 1) := by decide +kernel
theorem dL_law_612 : decode cL_law 612 = .ok (.aload_n 3, 1) := by decide +kernel
theorem dL_law_613 : decode cL_law 613 = .ok (.invokestatic 101, 3) := by decide +kernel
theorem dL_law_616 : decode cL_law 616 = .ok (.istore 5, 2) := by decide +kernel
theorem dL_law_618 : decode cL_law 618 = .ok (.aload_n 2, 1) := by decide +kernel
theorem dL_law_619 : decode cL_law 619 = .ok (.invokevirtual 103, 3) := by decide +kernel
theorem dL_law_622 : decode cL_law 622 = .ok (.istore 6, 2) := by decide +kernel
theorem dL_law_624 : decode cL_law 624 = .ok (.aload_n 2, 1) := by decide +kernel
theorem dL_law_625 : decode cL_law 625 = .ok (.invokevirtual 73, 3) := by decide +kernel
theorem dL_law_628 : decode cL_law 628 = .ok (.iload 5, 2) := by decide +kernel
theorem dL_law_630 : decode cL_law 630 = .ok (.if_icmp .eq 5, 3) := by decide +kernel
theorem dL_law_633 : decode cL_law 633 = .ok (.iconst 0, 1) := by decide +kernel
theorem dL_law_634 : decode cL_law 634 = .ok (.ireturn, 1) := by decide +kernel
theorem dL_law_635 : decode cL_law 635 = .ok (.iload 5, 2) := by decide +kernel
theorem dL_law_637 : decode cL_law 637 = .ok (.ifCond .ne 15, 3) := by decide +kernel
theorem dL_law_640 : decode cL_law 640 = .ok (.aload_n 3, 1) := by decide +kernel
theorem dL_law_641 : decode cL_law 641 = .ok (.iconst 0, 1) := by decide +kernel
theorem dL_law_642 : decode cL_law 642 = .ok (.laload, 1) := by decide +kernel
theorem dL_law_643 : decode cL_law 643 = .ok (.iload 6, 2) := by decide +kernel
theorem dL_law_645 : decode cL_law 645 = .ok (.i2l, 1) := by decide +kernel
theorem dL_law_646 : decode cL_law 646 = .ok (.lcmp, 1) := by decide +kernel
theorem dL_law_647 : decode cL_law 647 = .ok (.ifCond .eq 5, 3) := by decide +kernel
theorem dL_law_650 : decode cL_law 650 = .ok (.iconst 0, 1) := by decide +kernel
theorem dL_law_651 : decode cL_law 651 = .ok (.ireturn, 1) := by decide +kernel
theorem dL_law_652 : decode cL_law 652 = .ok (.goto 321, 3) := by decide +kernel
theorem dL_law_655 : decode cL_law 655 = .ok (.aload_n 1, 1) := by decide +kernel
theorem dL_law_656 : decode cL_law 656 = .ok (.invokevirtual 104, 3) := by decide +kernel
theorem dL_law_659 : decode cL_law 659 = .ok (.aload_n 2, 1) := by decide +kernel
theorem dL_law_660 : decode cL_law 660 = .ok (.invokevirtual 107, 3) := by decide +kernel
theorem dL_law_663 : decode cL_law 663 = .ok (.if_icmp .eq 310, 3) := by decide +kernel
theorem dL_law_666 : decode cL_law 666 = .ok (.iconst 0, 1) := by decide +kernel
theorem dL_law_667 : decode cL_law 667 = .ok (.ireturn, 1) := by decide +kernel
theorem dL_law_668 : decode cL_law 668 = .ok (.aload_n 1, 1) := by decide +kernel
theorem dL_law_669 : decode cL_law 669 = .ok (.invokevirtual 108, 3) := by decide +kernel
theorem dL_law_672 : decode cL_law 672 = .ok (.aload_n 2, 1) := by decide +kernel
theorem dL_law_673 : decode cL_law 673 = .ok (.invokevirtual 111, 3) := by decide +kernel
theorem dL_law_676 : decode cL_law 676 = .ok (.if_icmp .eq 297, 3) := by decide +kernel
theorem dL_law_679 : decode cL_law 679 = .ok (.iconst 0, 1) := by decide +kernel
theorem dL_law_680 : decode cL_law 680 = .ok (.ireturn, 1) := by decide +kernel
theorem dL_law_681 : decode cL_law 681 = .ok (.aload_n 1, 1) := by decide +kernel
theorem dL_law_682 : decode cL_law 682 = .ok (.aload_n 0, 1) := by decide +kernel
theorem dL_law_683 : decode cL_law 683 = .ok (.iload 4, 2) := by decide +kernel
theorem dL_law_685 : decode cL_law 685 = .ok (.iconst 1, 1) := by decide +kernel
theorem dL_law_686 : decode cL_law 686 = .ok (.iadd, 1) := by decide +kernel
theorem dL_law_687 : decode cL_law 687 = .ok (.iaload, 1) := by decide +kernel
theorem dL_law_688 : decode cL_law 688 = .ok (.aload_n 0, 1) := by decide +kernel
theorem dL_law_689 : decode cL_law 689 = .ok (.iload 4, 2) := by decide +kernel
theorem dL_law_691 : decode cL_law 691 = .ok (.iconst 2, 1) := by decide +kernel
theorem dL_law_692 : decode cL_law 692 = .ok (.iadd, 1) := by decide +kernel
theorem dL_law_693 : decode cL_law 693 = .ok (.iaload, 1) := by decide +kernel
theorem dL_law_694 : decode cL_law 694 = .ok (.aload_n 3, 1) := by decide +kernel
theorem dL_law_695 : decode cL_law 695 = .ok (.invokestatic 112, 3) := by decide +kernel
theorem dL_law_698 : decode cL_law 698 = .ok (.istore 5, 2) := by decide +kernel
theorem dL_law_700 : decode cL_law 700 = .ok (.aload_n 2, 1) := by decide +kernel
theorem dL_law_701 : decode cL_law 701 = .ok (.aload_n 0, 1) := by decide +kernel
theorem dL_law_702 : decode cL_law 702 = .ok (.iload 4, 2) := by decide +kernel
theorem dL_law_704 : decode cL_law 704 = .ok (.iconst 1, 1) := by decide +kernel
theorem dL_law_705 : decode cL_law 705 = .ok (.iadd, 1) := by decide +kernel
theorem dL_law_706 : decode cL_law 706 = .ok (.iaload, 1) := by decide +kernel
theorem dL_law_707 : decode cL_law 707 = .ok (.aload_n 0, 1) := by decide +kernel
theorem dL_law_708 : decode cL_law 708 = .ok (.iload 4, 2) := by decide +kernel
theorem dL_law_710 : decode cL_law 710 = .ok (.iconst 2, 1) := by decide +kernel
theorem dL_law_711 : decode cL_law 711 = .ok (.iadd, 1) := by decide +kernel
theorem dL_law_712 : decode cL_law 712 = .ok (.iaload, 1) := by decide +kernel
theorem dL_law_713 : decode cL_law 713 = .ok (.invokevirtual 114, 3) := by decide +kernel
theorem dL_law_716 : decode cL_law 716 = .ok (.istore 6, 2) := by decide +kernel
theorem dL_law_718 : decode cL_law 718 = .ok (.aload_n 2, 1) := by decide +kernel
theorem dL_law_719 : decode cL_law 719 = .ok (.invokevirtual 73, 3) := by decide +kernel
theorem dL_law_722 : decode cL_law 722 = .ok (.iload 5, 2) := by decide +kernel
theorem dL_law_724 : decode cL_law 724 = .ok (.if_icmp .eq 5, 3) := by decide +kernel
theorem dL_law_727 : decode cL_law 727 = .ok (.iconst 0, 1) := by decide +kernel
theorem dL_law_728 : decode cL_law 728 = .ok (.ireturn, 1) := by decide +kernel
theorem dL_law_729 : decode cL_law 729 = .ok (.iload 5, 2) := by decide +kernel
theorem dL_law_731 : decode cL_law 731 = .ok (.ifCond .ne 15, 3) := by decide +kernel
theorem dL_law_734 : decode cL_law 734 = .ok (.aload_n 3, 1) := by decide +kernel
theorem dL_law_735 : decode cL_law 735 = .ok (.iconst 0, 1) := by decide +kernel
theorem dL_law_736 : decode cL_law 736 = .ok (.laload, 1) := by decide +kernel
theorem dL_law_737 : decode cL_law 737 = .ok (.iload 6, 2) := by decide +kernel
theorem dL_law_739 : decode cL_law 739 = .ok (.i2l, 1) := by decide +kernel
theorem dL_law_740 : decode cL_law 740 = .ok (.lcmp, 1) := by decide +kernel
theorem dL_law_741 : decode cL_law 741 = .ok (.ifCond .eq 5, 3) := by decide +kernel
theorem dL_law_744 : decode cL_law 744 = .ok (.iconst 0, 1) := by decide +kernel
theorem dL_law_745 : decode cL_law 745 = .ok (.ireturn, 1) := by decide +kernel
theorem dL_law_746 : decode cL_law 746 = .ok (.goto 227, 3) := by decide +kernel
theorem dL_law_749 : decode cL_law 749 = .ok (.aload_n 1, 1) := by decide +kernel
theorem dL_law_750 : decode cL_law 750 = .ok (.aload_n 0, 1) := by decide +kernel
theorem dL_law_751 : decode cL_law 751 = .ok (.iload 4, 2) := by decide +kernel
theorem dL_law_753 : decode cL_law 753 = .ok (.iconst 1, 1) := by decide +kernel
theorem dL_law_754 : decode cL_law 754 = .ok (.iadd, 1) := by decide +kernel
theorem dL_law_755 : decode cL_law 755 = .ok (.iaload, 1) := by decide +kernel
theorem dL_law_756 : decode cL_law 756 = .ok (.aload_n 3, 1) := by decide +kernel
theorem dL_law_757 : decode cL_law 757 = .ok (.invokestatic 115, 3) := by decide +kernel
theorem dL_law_760 : decode cL_law 760 = .ok (.istore 5, 2) := by decide +kernel
theorem dL_law_762 : decode cL_law 762 = .ok (.aload_n 2, 1) := by decide +kernel
theorem dL_law_763 : decode cL_law 763 = .ok (.aload_n 0, 1) := by decide +kernel
theorem dL_law_764 : decode cL_law 764 = .ok (.iload 4, 2) := by decide +kernel
theorem dL_law_766 : decode cL_law 766 = .ok (.iconst 1, 1) := by decide +kernel
theorem dL_law_767 : decode cL_law 767 = .ok (.iadd, 1) := by decide +kernel
theorem dL_law_768 : decode cL_law 768 = .ok (.iaload, 1) := by decide +kernel
theorem dL_law_769 : decode cL_law 769 = .ok (.invokevirtual 117, 3) := by decide +kernel
theorem dL_law_772 : decode cL_law 772 = .ok (.istore 6, 2) := by decide +kernel
theorem dL_law_774 : decode cL_law 774 = .ok (.aload_n 2, 1) := by decide +kernel
theorem dL_law_775 : decode cL_law 775 = .ok (.invokevirtual 73, 3) := by decide +kernel
theorem dL_law_778 : decode cL_law 778 = .ok (.iload 5, 2) := by decide +kernel
theorem dL_law_780 : decode cL_law 780 = .ok (.if_icmp .eq 5, 3) := by decide +kernel
theorem dL_law_783 : decode cL_law 783 = .ok (.iconst 0, 1) := by decide +kernel
theorem dL_law_784 : decode cL_law 784 = .ok (.ireturn, 1) := by decide +kernel
theorem dL_law_785 : decode cL_law 785 = .ok (.iload 5, 2) := by decide +kernel
theorem dL_law_787 : decode cL_law 787 = .ok (.ifCond .ne 15, 3) := by decide +kernel
theorem dL_law_790 : decode cL_law 790 = .ok (.aload_n 3, 1) := by decide +kernel
theorem dL_law_791 : decode cL_law 791 = .ok (.iconst 0, 1) := by decide +kernel
theorem dL_law_792 : decode cL_law 792 = .ok (.laload, 1) := by decide +kernel
theorem dL_law_793 : decode cL_law 793 = .ok (.iload 6, 2) := by decide +kernel
theorem dL_law_795 : decode cL_law 795 = .ok (.i2l, 1) := by decide +kernel
theorem dL_law_796 : decode cL_law 796 = .ok (.lcmp, 1) := by decide +kernel
theorem dL_law_797 : decode cL_law 797 = .ok (.ifCond .eq 5, 3) := by decide +kernel
theorem dL_law_800 : decode cL_law 800 = .ok (.iconst 0, 1) := by decide +kernel
theorem dL_law_801 : decode cL_law 801 = .ok (.ireturn, 1) := by decide +kernel
theorem dL_law_802 : decode cL_law 802 = .ok (.goto 171, 3) := by decide +kernel
theorem dL_law_805 : decode cL_law 805 = .ok (.aload_n 1, 1) := by decide +kernel
theorem dL_law_806 : decode cL_law 806 = .ok (.aload_n 0, 1) := by decide +kernel
theorem dL_law_807 : decode cL_law 807 = .ok (.iload 4, 2) := by decide +kernel
theorem dL_law_809 : decode cL_law 809 = .ok (.iconst 1, 1) := by decide +kernel
theorem dL_law_810 : decode cL_law 810 = .ok (.iadd, 1) := by decide +kernel
theorem dL_law_811 : decode cL_law 811 = .ok (.iaload, 1) := by decide +kernel
theorem dL_law_812 : decode cL_law 812 = .ok (.aload_n 3, 1) := by decide +kernel
theorem dL_law_813 : decode cL_law 813 = .ok (.invokestatic 118, 3) := by decide +kernel
theorem dL_law_816 : decode cL_law 816 = .ok (.istore 5, 2) := by decide +kernel
theorem dL_law_818 : decode cL_law 818 = .ok (.aload_n 2, 1) := by decide +kernel
theorem dL_law_819 : decode cL_law 819 = .ok (.aload_n 0, 1) := by decide +kernel
theorem dL_law_820 : decode cL_law 820 = .ok (.iload 4, 2) := by decide +kernel
theorem dL_law_822 : decode cL_law 822 = .ok (.iconst 1, 1) := by decide +kernel
theorem dL_law_823 : decode cL_law 823 = .ok (.iadd, 1) := by decide +kernel
theorem dL_law_824 : decode cL_law 824 = .ok (.iaload, 1) := by decide +kernel
theorem dL_law_825 : decode cL_law 825 = .ok (.invokevirtual 120, 3) := by decide +kernel
theorem dL_law_828 : decode cL_law 828 = .ok (.istore 6, 2) := by decide +kernel
theorem dL_law_830 : decode cL_law 830 = .ok (.aload_n 2, 1) := by decide +kernel
theorem dL_law_831 : decode cL_law 831 = .ok (.invokevirtual 73, 3) := by decide +kernel
theorem dL_law_834 : decode cL_law 834 = .ok (.iload 5, 2) := by decide +kernel
theorem dL_law_836 : decode cL_law 836 = .ok (.if_icmp .eq 5, 3) := by decide +kernel
theorem dL_law_839 : decode cL_law 839 = .ok (.iconst 0, 1) := by decide +kernel
theorem dL_law_840 : decode cL_law 840 = .ok (.ireturn, 1) := by decide +kernel
theorem dL_law_841 : decode cL_law 841 = .ok (.iload 5, 2) := by decide +kernel
theorem dL_law_843 : decode cL_law 843 = .ok (.ifCond .ne 15, 3) := by decide +kernel
theorem dL_law_846 : decode cL_law 846 = .ok (.aload_n 3, 1) := by decide +kernel
theorem dL_law_847 : decode cL_law 847 = .ok (.iconst 0, 1) := by decide +kernel
theorem dL_law_848 : decode cL_law 848 = .ok (.laload, 1) := by decide +kernel
theorem dL_law_849 : decode cL_law 849 = .ok (.iload 6, 2) := by decide +kernel
theorem dL_law_851 : decode cL_law 851 = .ok (.i2l, 1) := by decide +kernel
theorem dL_law_852 : decode cL_law 852 = .ok (.lcmp, 1) := by decide +kernel
theorem dL_law_853 : decode cL_law 853 = .ok (.ifCond .eq 5, 3) := by decide +kernel
theorem dL_law_856 : decode cL_law 856 = .ok (.iconst 0, 1) := by decide +kernel
theorem dL_law_857 : decode cL_law 857 = .ok (.ireturn, 1) := by decide +kernel
theorem dL_law_858 : decode cL_law 858 = .ok (.goto 115, 3) := by decide +kernel
theorem dL_law_861 : decode cL_law 861 = .ok (.aload_n 1, 1) := by decide +kernel
theorem dL_law_862 : decode cL_law 862 = .ok (.aload_n 0, 1) := by decide +kernel
theorem dL_law_863 : decode cL_law 863 = .ok (.iload 4, 2) := by decide +kernel
theorem dL_law_865 : decode cL_law 865 = .ok (.iconst 1, 1) := by decide +kernel
theorem dL_law_866 : decode cL_law 866 = .ok (.iadd, 1) := by decide +kernel
theorem dL_law_867 : decode cL_law 867 = .ok (.iaload, 1) := by decide +kernel
theorem dL_law_868 : decode cL_law 868 = .ok (.aload_n 3, 1) := by decide +kernel
theorem dL_law_869 : decode cL_law 869 = .ok (.invokestatic 121, 3) := by decide +kernel
theorem dL_law_872 : decode cL_law 872 = .ok (.istore 5, 2) := by decide +kernel
theorem dL_law_874 : decode cL_law 874 = .ok (.aload_n 2, 1) := by decide +kernel
theorem dL_law_875 : decode cL_law 875 = .ok (.aload_n 0, 1) := by decide +kernel
theorem dL_law_876 : decode cL_law 876 = .ok (.iload 4, 2) := by decide +kernel
theorem dL_law_878 : decode cL_law 878 = .ok (.iconst 1, 1) := by decide +kernel
theorem dL_law_879 : decode cL_law 879 = .ok (.iadd, 1) := by decide +kernel
theorem dL_law_880 : decode cL_law 880 = .ok (.iaload, 1) := by decide +kernel
theorem dL_law_881 : decode cL_law 881 = .ok (.invokevirtual 123, 3) := by decide +kernel
theorem dL_law_884 : decode cL_law 884 = .ok (.istore 6, 2) := by decide +kernel
theorem dL_law_886 : decode cL_law 886 = .ok (.aload_n 2, 1) := by decide +kernel
theorem dL_law_887 : decode cL_law 887 = .ok (.invokevirtual 73, 3) := by decide +kernel
theorem dL_law_890 : decode cL_law 890 = .ok (.iload 5, 2) := by decide +kernel
theorem dL_law_892 : decode cL_law 892 = .ok (.if_icmp .eq 5, 3) := by decide +kernel
theorem dL_law_895 : decode cL_law 895 = .ok (.iconst 0, 1) := by decide +kernel
theorem dL_law_896 : decode cL_law 896 = .ok (.ireturn, 1) := by decide +kernel
theorem dL_law_897 : decode cL_law 897 = .ok (.iload 5, 2) := by decide +kernel
theorem dL_law_899 : decode cL_law 899 = .ok (.ifCond .ne 15, 3) := by decide +kernel
theorem dL_law_902 : decode cL_law 902 = .ok (.aload_n 3, 1) := by decide +kernel
theorem dL_law_903 : decode cL_law 903 = .ok (.iconst 0, 1) := by decide +kernel
theorem dL_law_904 : decode cL_law 904 = .ok (.laload, 1) := by decide +kernel
theorem dL_law_905 : decode cL_law 905 = .ok (.iload 6, 2) := by decide +kernel
theorem dL_law_907 : decode cL_law 907 = .ok (.i2l, 1) := by decide +kernel
theorem dL_law_908 : decode cL_law 908 = .ok (.lcmp, 1) := by decide +kernel
theorem dL_law_909 : decode cL_law 909 = .ok (.ifCond .eq 5, 3) := by decide +kernel
theorem dL_law_912 : decode cL_law 912 = .ok (.iconst 0, 1) := by decide +kernel
theorem dL_law_913 : decode cL_law 913 = .ok (.ireturn, 1) := by decide +kernel
theorem dL_law_914 : decode cL_law 914 = .ok (.goto 59, 3) := by decide +kernel
theorem dL_law_917 : decode cL_law 917 = .ok (.aload_n 1, 1) := by decide +kernel
theorem dL_law_918 : decode cL_law 918 = .ok (.aload_n 0, 1) := by decide +kernel
theorem dL_law_919 : decode cL_law 919 = .ok (.iload 4, 2) := by decide +kernel
theorem dL_law_921 : decode cL_law 921 = .ok (.iconst 1, 1) := by decide +kernel
theorem dL_law_922 : decode cL_law 922 = .ok (.iadd, 1) := by decide +kernel
theorem dL_law_923 : decode cL_law 923 = .ok (.iaload, 1) := by decide +kernel
theorem dL_law_924 : decode cL_law 924 = .ok (.aload_n 3, 1) := by decide +kernel
theorem dL_law_925 : decode cL_law 925 = .ok (.invokestatic 124, 3) := by decide +kernel
theorem dL_law_928 : decode cL_law 928 = .ok (.istore 5, 2) := by decide +kernel
theorem dL_law_930 : decode cL_law 930 = .ok (.aload_n 2, 1) := by decide +kernel
theorem dL_law_931 : decode cL_law 931 = .ok (.aload_n 0, 1) := by decide +kernel
theorem dL_law_932 : decode cL_law 932 = .ok (.iload 4, 2) := by decide +kernel
theorem dL_law_934 : decode cL_law 934 = .ok (.iconst 1, 1) := by decide +kernel
theorem dL_law_935 : decode cL_law 935 = .ok (.iadd, 1) := by decide +kernel
theorem dL_law_936 : decode cL_law 936 = .ok (.iaload, 1) := by decide +kernel
theorem dL_law_937 : decode cL_law 937 = .ok (.invokevirtual 126, 3) := by decide +kernel
theorem dL_law_940 : decode cL_law 940 = .ok (.istore 6, 2) := by decide +kernel
theorem dL_law_942 : decode cL_law 942 = .ok (.aload_n 2, 1) := by decide +kernel
theorem dL_law_943 : decode cL_law 943 = .ok (.invokevirtual 73, 3) := by decide +kernel
theorem dL_law_946 : decode cL_law 946 = .ok (.iload 5, 2) := by decide +kernel
theorem dL_law_948 : decode cL_law 948 = .ok (.if_icmp .eq 5, 3) := by decide +kernel
theorem dL_law_951 : decode cL_law 951 = .ok (.iconst 0, 1) := by decide +kernel
theorem dL_law_952 : decode cL_law 952 = .ok (.ireturn, 1) := by decide +kernel
theorem dL_law_953 : decode cL_law 953 = .ok (.iload 5, 2) := by decide +kernel
theorem dL_law_955 : decode cL_law 955 = .ok (.ifCond .ne 15, 3) := by decide +kernel
theorem dL_law_958 : decode cL_law 958 = .ok (.aload_n 3, 1) := by decide +kernel
theorem dL_law_959 : decode cL_law 959 = .ok (.iconst 0, 1) := by decide +kernel
theorem dL_law_960 : decode cL_law 960 = .ok (.laload, 1) := by decide +kernel
theorem dL_law_961 : decode cL_law 961 = .ok (.iload 6, 2) := by decide +kernel
theorem dL_law_963 : decode cL_law 963 = .ok (.i2l, 1) := by decide +kernel
theorem dL_law_964 : decode cL_law 964 = .ok (.lcmp, 1) := by decide +kernel
theorem dL_law_965 : decode cL_law 965 = .ok (.ifCond .eq 5, 3) := by decide +kernel
theorem dL_law_968 : decode cL_law 968 = .ok (.iconst 0, 1) := by decide +kernel
theorem dL_law_969 : decode cL_law 969 = .ok (.ireturn, 1) := by decide +kernel
theorem dL_law_970 : decode cL_law 970 = .ok (.goto 3, 3) := by decide +kernel
theorem dL_law_973 : decode cL_law 973 = .ok (.iinc 4 4, 3) := by decide +kernel
theorem dL_law_976 : decode cL_law 976 = .ok (.goto (-953), 3) := by decide +kernel
theorem dL_law_979 : decode cL_law 979 = .ok (.iconst 1, 1) := by decide +kernel
theorem dL_law_980 : decode cL_law 980 = .ok (.ireturn, 1) := by decide +kernel
end
section
theorem dJ15_checkIndex_7cf53_0 : decode cJ15_checkIndex_7cf53 0 = .ok (.iload_n 0, 1) := by decide +kernel
theorem dJ15_checkIndex_7cf53_1 : decode cJ15_checkIndex_7cf53 1 = .ok (.iload_n 1, 1) := by decide +kernel
theorem dJ15_checkIndex_7cf53_2 : decode cJ15_checkIndex_7cf53 2 = .ok (.aconst_null, 1) := by decide +kernel
theorem dJ15_checkIndex_7cf53_3 : decode cJ15_checkIndex_7cf53 3 = .ok (.invokestatic 105, 3) := by decide +kernel
theorem dJ15_checkIndex_7cf53_6 : decode cJ15_checkIndex_7cf53 6 = .ok (.ireturn, 1) := by decide +kernel
theorem dJ3_checkIndex_8e157_0 : decode cJ3_checkIndex_8e157 0 = .ok (.iload_n 0, 1) := by decide +kernel
theorem dJ3_checkIndex_8e157_1 : decode cJ3_checkIndex_8e157 1 = .ok (.ifCond .lt 8, 3) := by decide +kernel
theorem dJ3_checkIndex_8e157_4 : decode cJ3_checkIndex_8e157 4 = .ok (.iload_n 0, 1) := by decide +kernel
theorem dJ3_checkIndex_8e157_5 : decode cJ3_checkIndex_8e157 5 = .ok (.iload_n 1, 1) := by decide +kernel
theorem dJ3_checkIndex_8e157_6 : decode cJ3_checkIndex_8e157 6 = .ok (.if_icmp .lt 10, 3) := by decide +kernel
theorem dJ3_checkIndex_8e157_9 : decode cJ3_checkIndex_8e157 9 = .ok (.aload_n 2, 1) := by decide +kernel
theorem dJ3_checkIndex_8e157_10 : decode cJ3_checkIndex_8e157 10 = .ok (.iload_n 0, 1) := by decide +kernel
theorem dJ3_checkIndex_8e157_11 : decode cJ3_checkIndex_8e157 11 = .ok (.iload_n 1, 1) := by decide +kernel
theorem dJ3_checkIndex_8e157_12 : decode cJ3_checkIndex_8e157 12 = .ok (.invokestatic 95, 3) := by decide +kernel
theorem dJ3_checkIndex_8e157_15 : decode cJ3_checkIndex_8e157 15 = .ok (.athrow, 1) := by decide +kernel
theorem dJ3_checkIndex_8e157_16 : decode cJ3_checkIndex_8e157 16 = .ok (.iload_n 0, 1) := by decide +kernel
theorem dJ3_checkIndex_8e157_17 : decode cJ3_checkIndex_8e157 17 = .ok (.ireturn, 1) := by decide +kernel
theorem dJ3_checkFromToIndex_8c36e_0 : decode cJ3_checkFromToIndex_8c36e 0 = .ok (.iload_n 0, 1) := by decide +kernel
theorem dJ3_checkFromToIndex_8c36e_1 : decode cJ3_checkFromToIndex_8c36e 1 = .ok (.ifCond .lt 13, 3) := by decide +kernel
theorem dJ3_checkFromToIndex_8c36e_4 : decode cJ3_checkFromToIndex_8c36e 4 = .ok (.iload_n 0, 1) := by decide +kernel
theorem dJ3_checkFromToIndex_8c36e_5 : decode cJ3_checkFromToIndex_8c36e 5 = .ok (.iload_n 1, 1) := by decide +kernel
theorem dJ3_checkFromToIndex_8c36e_6 : decode cJ3_checkFromToIndex_8c36e 6 = .ok (.if_icmp .gt 8, 3) := by decide +kernel
theorem dJ3_checkFromToIndex_8c36e_9 : decode cJ3_checkFromToIndex_8c36e 9 = .ok (.iload_n 1, 1) := by decide +kernel
theorem dJ3_checkFromToIndex_8c36e_10 : decode cJ3_checkFromToIndex_8c36e 10 = .ok (.iload_n 2, 1) := by decide +kernel
theorem dJ3_checkFromToIndex_8c36e_11 : decode cJ3_checkFromToIndex_8c36e 11 = .ok (.if_icmp .le 11, 3) := by decide +kernel
theorem dJ3_checkFromToIndex_8c36e_14 : decode cJ3_checkFromToIndex_8c36e 14 = .ok (.aload_n 3, 1) := by decide +kernel
theorem dJ3_checkFromToIndex_8c36e_15 : decode cJ3_checkFromToIndex_8c36e 15 = .ok (.iload_n 0, 1) := by decide +kernel
theorem dJ3_checkFromToIndex_8c36e_16 : decode cJ3_checkFromToIndex_8c36e 16 = .ok (.iload_n 1, 1) := by decide +kernel
theorem dJ3_checkFromToIndex_8c36e_17 : decode cJ3_checkFromToIndex_8c36e 17 = .ok (.iload_n 2, 1) := by decide +kernel
theorem dJ3_checkFromToIndex_8c36e_18 : decode cJ3_checkFromToIndex_8c36e 18 = .ok (.invokestatic 99, 3) := by decide +kernel
theorem dJ3_checkFromToIndex_8c36e_21 : decode cJ3_checkFromToIndex_8c36e 21 = .ok (.athrow, 1) := by decide +kernel
theorem dJ3_checkFromToIndex_8c36e_22 : decode cJ3_checkFromToIndex_8c36e 22 = .ok (.iload_n 0, 1) := by decide +kernel
theorem dJ3_checkFromToIndex_8c36e_23 : decode cJ3_checkFromToIndex_8c36e 23 = .ok (.ireturn, 1) := by decide +kernel
theorem dJ3_checkFromIndexSize_8c36e_0 : decode cJ3_checkFromIndexSize_8c36e 0 = .ok (.iload_n 2, 1) := by decide +kernel
theorem dJ3_checkFromIndexSize_8c36e_1 : decode cJ3_checkFromIndexSize_8c36e 1 = .ok (.iload_n 0, 1) := by decide +kernel
theorem dJ3_checkFromIndexSize_8c36e_2 : decode cJ3_checkFromIndexSize_8c36e 2 = .ok (.ior, 1) := by decide +kernel
theorem dJ3_checkFromIndexSize_8c36e_3 : decode cJ3_checkFromIndexSize_8c36e 3 = .ok (.iload_n 1, 1) := by decide +kernel
theorem dJ3_checkFromIndexSize_8c36e_4 : decode cJ3_checkFromIndexSize_8c36e 4 = .ok (.ior, 1) := by decide +kernel
theorem dJ3_checkFromIndexSize_8c36e_5 : decode cJ3_checkFromIndexSize_8c36e 5 = .ok (.ifCond .lt 10, 3) := by decide +kernel
theorem dJ3_checkFromIndexSize_8c36e_8 : decode cJ3_checkFromIndexSize_8c36e 8 = .ok (.iload_n 1, 1) := by decide +kernel
theorem dJ3_checkFromIndexSize_8c36e_9 : decode cJ3_checkFromIndexSize_8c36e 9 = .ok (.iload_n 2, 1) := by decide +kernel
theorem dJ3_checkFromIndexSize_8c36e_10 : decode cJ3_checkFromIndexSize_8c36e 10 = .ok (.iload_n 0, 1) := by decide +kernel
theorem dJ3_checkFromIndexSize_8c36e_11 : decode cJ3_checkFromIndexSize_8c36e 11 = .ok (.isub, 1) := by decide +kernel
theorem dJ3_checkFromIndexSize_8c36e_12 : decode cJ3_checkFromIndexSize_8c36e 12 = .ok (.if_icmp .le 11, 3) := by decide +kernel
theorem dJ3_checkFromIndexSize_8c36e_15 : decode cJ3_checkFromIndexSize_8c36e 15 = .ok (.aload_n 3, 1) := by decide +kernel
theorem dJ3_checkFromIndexSize_8c36e_16 : decode cJ3_checkFromIndexSize_8c36e 16 = .ok (.iload_n 0, 1) := by decide +kernel
theorem dJ3_checkFromIndexSize_8c36e_17 : decode cJ3_checkFromIndexSize_8c36e 17 = .ok (.iload_n 1, 1) := by decide +kernel
theorem dJ3_checkFromIndexSize_8c36e_18 : decode cJ3_checkFromIndexSize_8c36e 18 = .ok (.iload_n 2, 1) := by decide +kernel
theorem dJ3_checkFromIndexSize_8c36e_19 : decode cJ3_checkFromIndexSize_8c36e 19 = .ok (.invokestatic 103, 3) := by decide +kernel
theorem dJ3_checkFromIndexSize_8c36e_22 : decode cJ3_checkFromIndexSize_8c36e 22 = .ok (.athrow, 1) := by decide +kernel
theorem dJ3_checkFromIndexSize_8c36e_23 : decode cJ3_checkFromIndexSize_8c36e 23 = .ok (.iload_n 0, 1) := by decide +kernel
theorem dJ3_checkFromIndexSize_8c36e_24 : decode cJ3_checkFromIndexSize_8c36e 24 = .ok (.ireturn, 1) := by decide +kernel
theorem dJ7_copyOf_1904c_0 : decode cJ7_copyOf_1904c 0 = .ok (.aload_n 0, 1) := by decide +kernel
theorem dJ7_copyOf_1904c_1 : decode cJ7_copyOf_1904c 1 = .ok (.iload_n 1, 1) := by decide +kernel
theorem dJ7_copyOf_1904c_2 : decode cJ7_copyOf_1904c 2 = .ok (.aload_n 0, 1) := by decide +kernel
theorem dJ7_copyOf_1904c_3 : decode cJ7_copyOf_1904c 3 = .ok (.invokevirtual 86, 3) := by decide +kernel
theorem dJ7_copyOf_1904c_6 : decode cJ7_copyOf_1904c 6 = .ok (.invokestatic 300, 3) := by decide +kernel
theorem dJ7_copyOf_1904c_9 : decode cJ7_copyOf_1904c 9 = .ok (.areturn, 1) := by decide +kernel
theorem dJ7_copyOf_6403c_0 : decode cJ7_copyOf_6403c 0 = .ok (.aload_n 2, 1) := by decide +kernel
theorem dJ7_copyOf_6403c_1 : decode cJ7_copyOf_6403c 1 = .ok (.ldc 110, 2) := by decide +kernel
theorem dJ7_copyOf_6403c_3 : decode cJ7_copyOf_6403c 3 = .ok (.if_acmp .ne 10, 3) := by decide +kernel
theorem dJ7_copyOf_6403c_6 : decode cJ7_copyOf_6403c 6 = .ok (.iload_n 1, 1) := by decide +kernel
theorem dJ7_copyOf_6403c_7 : decode cJ7_copyOf_6403c 7 = .ok (.anewarray 2, 3) := by decide +kernel
theorem dJ7_copyOf_6403c_10 : decode cJ7_copyOf_6403c 10 = .ok (.goto 14, 3) := by decide +kernel
theorem dJ7_copyOf_6403c_13 : decode cJ7_copyOf_6403c 13 = .ok (.aload_n 2, 1) := by decide +kernel
theorem dJ7_copyOf_6403c_14 : decode cJ7_copyOf_6403c 14 = .ok (.invokevirtual 90, 3) := by decide +kernel
theorem dJ7_copyOf_6403c_17 : decode cJ7_copyOf_6403c 17 = .ok (.iload_n 1, 1) := by decide +kernel
theorem dJ7_copyOf_6403c_18 : decode cJ7_copyOf_6403c 18 = .ok (.invokestatic 95, 3) := by decide +kernel
theorem dJ7_copyOf_6403c_21 : decode cJ7_copyOf_6403c 21 = .ok (.checkcast 110, 3) := by decide +kernel
theorem dJ7_copyOf_6403c_24 : decode cJ7_copyOf_6403c 24 = .ok (.astore_n 3, 1) := by decide +kernel
theorem dJ7_copyOf_6403c_25 : decode cJ7_copyOf_6403c 25 = .ok (.aload_n 0, 1) := by decide +kernel
theorem dJ7_copyOf_6403c_26 : decode cJ7_copyOf_6403c 26 = .ok (.iconst 0, 1) := by decide +kernel
theorem dJ7_copyOf_6403c_27 : decode cJ7_copyOf_6403c 27 = .ok (.aload_n 3, 1) := by decide +kernel
theorem dJ7_copyOf_6403c_28 : decode cJ7_copyOf_6403c 28 = .ok (.iconst 0, 1) := by decide +kernel
theorem dJ7_copyOf_6403c_29 : decode cJ7_copyOf_6403c 29 = .ok (.aload_n 0, 1) := by decide +kernel
theorem dJ7_copyOf_6403c_30 : decode cJ7_copyOf_6403c 30 = .ok (.arraylength, 1) := by decide +kernel
theorem dJ7_copyOf_6403c_31 : decode cJ7_copyOf_6403c 31 = .ok (.iload_n 1, 1) := by decide +kernel
theorem dJ7_copyOf_6403c_32 : decode cJ7_copyOf_6403c 32 = .ok (.invokestatic 304, 3) := by decide +kernel
theorem dJ7_copyOf_6403c_35 : decode cJ7_copyOf_6403c 35 = .ok (.invokestatic 150, 3) := by decide +kernel
theorem dJ7_copyOf_6403c_38 : decode cJ7_copyOf_6403c 38 = .ok (.aload_n 3, 1) := by decide +kernel
theorem dJ7_copyOf_6403c_39 : decode cJ7_copyOf_6403c 39 = .ok (.areturn, 1) := by decide +kernel
theorem dJ7_copyOf_9075b_0 : decode cJ7_copyOf_9075b 0 = .ok (.iload_n 1, 1) := by decide +kernel
theorem dJ7_copyOf_9075b_1 : decode cJ7_copyOf_9075b 1 = .ok (.aload_n 0, 1) := by decide +kernel
theorem dJ7_copyOf_9075b_2 : decode cJ7_copyOf_9075b 2 = .ok (.arraylength, 1) := by decide +kernel
theorem dJ7_copyOf_9075b_3 : decode cJ7_copyOf_9075b 3 = .ok (.if_icmp .ne 11, 3) := by decide +kernel
theorem dJ7_copyOf_9075b_6 : decode cJ7_copyOf_9075b 6 = .ok (.aload_n 0, 1) := by decide +kernel
theorem dJ7_copyOf_9075b_7 : decode cJ7_copyOf_9075b 7 = .ok (.invokevirtual 310, 3) := by decide +kernel
theorem dJ7_copyOf_9075b_10 : decode cJ7_copyOf_9075b 10 = .ok (.checkcast 311, 3) := by decide +kernel
theorem dJ7_copyOf_9075b_13 : decode cJ7_copyOf_9075b 13 = .ok (.areturn, 1) := by decide +kernel
theorem dJ7_copyOf_9075b_14 : decode cJ7_copyOf_9075b 14 = .ok (.iload_n 1, 1) := by decide +kernel
theorem dJ7_copyOf_9075b_15 : decode cJ7_copyOf_9075b 15 = .ok (.newarray .byte, 2) := by decide +kernel
theorem dJ7_copyOf_9075b_17 : decode cJ7_copyOf_9075b 17 = .ok (.astore_n 2, 1) := by decide +kernel
theorem dJ7_copyOf_9075b_18 : decode cJ7_copyOf_9075b 18 = .ok (.aload_n 0, 1) := by decide +kernel
theorem dJ7_copyOf_9075b_19 : decode cJ7_copyOf_9075b 19 = .ok (.iconst 0, 1) := by decide +kernel
theorem dJ7_copyOf_9075b_20 : decode cJ7_copyOf_9075b 20 = .ok (.aload_n 2, 1) := by decide +kernel
theorem dJ7_copyOf_9075b_21 : decode cJ7_copyOf_9075b 21 = .ok (.iconst 0, 1) := by decide +kernel
theorem dJ7_copyOf_9075b_22 : decode cJ7_copyOf_9075b 22 = .ok (.aload_n 0, 1) := by decide +kernel
theorem dJ7_copyOf_9075b_23 : decode cJ7_copyOf_9075b 23 = .ok (.arraylength, 1) := by decide +kernel
theorem dJ7_copyOf_9075b_24 : decode cJ7_copyOf_9075b 24 = .ok (.iload_n 1, 1) := by decide +kernel
theorem dJ7_copyOf_9075b_25 : decode cJ7_copyOf_9075b 25 = .ok (.invokestatic 304, 3) := by decide +kernel
theorem dJ7_copyOf_9075b_28 : decode cJ7_copyOf_9075b 28 = .ok (.invokestatic 150, 3) := by decide +kernel
theorem dJ7_copyOf_9075b_31 : decode cJ7_copyOf_9075b 31 = .ok (.aload_n 2, 1) := by decide +kernel
theorem dJ7_copyOf_9075b_32 : decode cJ7_copyOf_9075b 32 = .ok (.areturn, 1) := by decide +kernel
theorem dJ8_newLength_cabcc_0 : decode cJ8_newLength_cabcc 0 = .ok (.iload_n 0, 1) := by decide +kernel
theorem dJ8_newLength_cabcc_1 : decode cJ8_newLength_cabcc 1 = .ok (.iload_n 1, 1) := by decide +kernel
theorem dJ8_newLength_cabcc_2 : decode cJ8_newLength_cabcc 2 = .ok (.iload_n 2, 1) := by decide +kernel
theorem dJ8_newLength_cabcc_3 : decode cJ8_newLength_cabcc 3 = .ok (.invokestatic 194, 3) := by decide +kernel
theorem dJ8_newLength_cabcc_6 : decode cJ8_newLength_cabcc 6 = .ok (.iadd, 1) := by decide +kernel
theorem dJ8_newLength_cabcc_7 : decode cJ8_newLength_cabcc 7 = .ok (.istore_n 3, 1) := by decide +kernel
theorem dJ8_newLength_cabcc_8 : decode cJ8_newLength_cabcc 8 = .ok (.iconst 0, 1) := by decide +kernel
theorem dJ8_newLength_cabcc_9 : decode cJ8_newLength_cabcc 9 = .ok (.iload_n 3, 1) := by decide +kernel
theorem dJ8_newLength_cabcc_10 : decode cJ8_newLength_cabcc 10 = .ok (.if_icmp .ge 11, 3) := by decide +kernel
theorem dJ8_newLength_cabcc_13 : decode cJ8_newLength_cabcc 13 = .ok (.iload_n 3, 1) := by decide +kernel
theorem dJ8_newLength_cabcc_14 : decode cJ8_newLength_cabcc 14 = .ok (.ldc 200, 2) := by decide +kernel
theorem dJ8_newLength_cabcc_16 : decode cJ8_newLength_cabcc 16 = .ok (.if_icmp .gt 5, 3) := by decide +kernel
theorem dJ8_newLength_cabcc_19 : decode cJ8_newLength_cabcc 19 = .ok (.iload_n 3, 1) := by decide +kernel
theorem dJ8_newLength_cabcc_20 : decode cJ8_newLength_cabcc 20 = .ok (.ireturn, 1) := by decide +kernel
theorem dJ8_newLength_cabcc_21 : decode cJ8_newLength_cabcc 21 = .ok (.iload_n 0, 1) := by decide +kernel
theorem dJ8_newLength_cabcc_22 : decode cJ8_newLength_cabcc 22 = .ok (.iload_n 1, 1) := by decide +kernel
theorem dJ8_newLength_cabcc_23 : decode cJ8_newLength_cabcc 23 = .ok (.invokestatic 201, 3) := by decide +kernel
theorem dJ8_newLength_cabcc_26 : decode cJ8_newLength_cabcc 26 = .ok (.ireturn, 1) := by decide +kernel
theorem dJ8_hugeLength_7cf53_0 : decode cJ8_hugeLength_7cf53 0 = .ok (.iload_n 0, 1) := by decide +kernel
theorem dJ8_hugeLength_7cf53_1 : decode cJ8_hugeLength_7cf53 1 = .ok (.iload_n 1, 1) := by decide +kernel
theorem dJ8_hugeLength_7cf53_2 : decode cJ8_hugeLength_7cf53 2 = .ok (.iadd, 1) := by decide +kernel
theorem dJ8_hugeLength_7cf53_3 : decode cJ8_hugeLength_7cf53 3 = .ok (.istore_n 2, 1) := by decide +kernel
theorem dJ8_hugeLength_7cf53_4 : decode cJ8_hugeLength_7cf53 4 = .ok (.iload_n 2, 1) := by decide +kernel
theorem dJ8_hugeLength_7cf53_5 : decode cJ8_hugeLength_7cf53 5 = .ok (.ifCond .ge 44, 3) := by decide +kernel
theorem dJ8_hugeLength_7cf53_8 : decode cJ8_hugeLength_7cf53 8 = .ok (.new 204, 3) := by decide +kernel
theorem dJ8_hugeLength_7cf53_11 : decode cJ8_hugeLength_7cf53 11 = .ok (.dup, 1) := by decide +kernel
theorem dJ8_hugeLength_7cf53_12 : decode cJ8_hugeLength_7cf53 12 = .ok (.new 89, 3) := by decide +kernel
theorem dJ8_hugeLength_7cf53_15 : decode cJ8_hugeLength_7cf53 15 = .ok (.dup, 1) := by decide +kernel
theorem dJ8_hugeLength_7cf53_16 : decode cJ8_hugeLength_7cf53 16 = .ok (.invokespecial 91, 3) := by decide +kernel
theorem dJ8_hugeLength_7cf53_19 : decode cJ8_hugeLength_7cf53 19 = .ok (.ldc 206, 2) := by decide +kernel
theorem dJ8_hugeLength_7cf53_21 : decode cJ8_hugeLength_7cf53 21 = .ok (.invokevirtual 94, 3) := by decide +kernel
theorem dJ8_hugeLength_7cf53_24 : decode cJ8_hugeLength_7cf53 24 = .ok (.iload_n 0, 1) := by decide +kernel
theorem dJ8_hugeLength_7cf53_25 : decode cJ8_hugeLength_7cf53 25 = .ok (.invokevirtual 98, 3) := by decide +kernel
theorem dJ8_hugeLength_7cf53_28 : decode cJ8_hugeLength_7cf53 28 = .ok (.ldc 208, 2) := by decide +kernel
theorem dJ8_hugeLength_7cf53_30 : decode cJ8_hugeLength_7cf53 30 = .ok (.invokevirtual 94, 3) := by decide +kernel
theorem dJ8_hugeLength_7cf53_33 : decode cJ8_hugeLength_7cf53 33 = .ok (.iload_n 1, 1) := by decide +kernel
theorem dJ8_hugeLength_7cf53_34 : decode cJ8_hugeLength_7cf53 34 = .ok (.invokevirtual 98, 3) := by decide +kernel
theorem dJ8_hugeLength_7cf53_37 : decode cJ8_hugeLength_7cf53 37 = .ok (.ldc 210, 2) := by decide +kernel
theorem dJ8_hugeLength_7cf53_39 : decode cJ8_hugeLength_7cf53 39 = .ok (.invokevirtual 94, 3) := by decide +kernel
theorem dJ8_hugeLength_7cf53_42 : decode cJ8_hugeLength_7cf53 42 = .ok (.invokevirtual 101, 3) := by decide +kernel
theorem dJ8_hugeLength_7cf53_45 : decode cJ8_hugeLength_7cf53 45 = .ok (.invokespecial 212, 3) := by decide +kernel
theorem dJ8_hugeLength_7cf53_48 : decode cJ8_hugeLength_7cf53 48 = .ok (.athrow, 1) := by decide +kernel
theorem dJ8_hugeLength_7cf53_49 : decode cJ8_hugeLength_7cf53 49 = .ok (.iload_n 2, 1) := by decide +kernel
theorem dJ8_hugeLength_7cf53_50 : decode cJ8_hugeLength_7cf53 50 = .ok (.ldc 200, 2) := by decide +kernel
theorem dJ8_hugeLength_7cf53_52 : decode cJ8_hugeLength_7cf53 52 = .ok (.if_icmp .gt 6, 3) := by decide +kernel
theorem dJ8_hugeLength_7cf53_55 : decode cJ8_hugeLength_7cf53 55 = .ok (.ldc 200, 2) := by decide +kernel
theorem dJ8_hugeLength_7cf53_57 : decode cJ8_hugeLength_7cf53 57 = .ok (.ireturn, 1) := by decide +kernel
theorem dJ8_hugeLength_7cf53_58 : decode cJ8_hugeLength_7cf53 58 = .ok (.iload_n 2, 1) := by decide +kernel
theorem dJ8_hugeLength_7cf53_59 : decode cJ8_hugeLength_7cf53 59 = .ok (.ireturn, 1) := by decide +kernel
theorem dJ9_max_7cf53_0 : decode cJ9_max_7cf53 0 = .ok (.iload_n 0, 1) := by decide +kernel
theorem dJ9_max_7cf53_1 : decode cJ9_max_7cf53 1 = .ok (.iload_n 1, 1) := by decide +kernel
theorem dJ9_max_7cf53_2 : decode cJ9_max_7cf53 2 = .ok (.if_icmp .lt 7, 3) := by decide +kernel
theorem dJ9_max_7cf53_5 : decode cJ9_max_7cf53 5 = .ok (.iload_n 0, 1) := by decide +kernel
theorem dJ9_max_7cf53_6 : decode cJ9_max_7cf53 6 = .ok (.goto 4, 3) := by decide +kernel
theorem dJ9_max_7cf53_9 : decode cJ9_max_7cf53 9 = .ok (.iload_n 1, 1) := by decide +kernel
theorem dJ9_max_7cf53_10 : decode cJ9_max_7cf53 10 = .ok (.ireturn, 1) := by decide +kernel
theorem dJ9_min_7cf53_0 : decode cJ9_min_7cf53 0 = .ok (.iload_n 0, 1) := by decide +kernel
theorem dJ9_min_7cf53_1 : decode cJ9_min_7cf53 1 = .ok (.iload_n 1, 1) := by decide +kernel
theorem dJ9_min_7cf53_2 : decode cJ9_min_7cf53 2 = .ok (.if_icmp .gt 7, 3) := by decide +kernel
theorem dJ9_min_7cf53_5 : decode cJ9_min_7cf53 5 = .ok (.iload_n 0, 1) := by decide +kernel
theorem dJ9_min_7cf53_6 : decode cJ9_min_7cf53 6 = .ok (.goto 4, 3) := by decide +kernel
theorem dJ9_min_7cf53_9 : decode cJ9_min_7cf53 9 = .ok (.iload_n 1, 1) := by decide +kernel
theorem dJ9_min_7cf53_10 : decode cJ9_min_7cf53 10 = .ok (.ireturn, 1) := by decide +kernel
theorem dJx4a65c_init_da8c8_0 : decode cJx4a65c_init_da8c8 0 = .ok (.aload_n 0, 1) := by decide +kernel
theorem dJx4a65c_init_da8c8_1 : decode cJx4a65c_init_da8c8 1 = .ok (.invokespecial 1, 3) := by decide +kernel
theorem dJx4a65c_init_da8c8_4 : decode cJx4a65c_init_da8c8 4 = .ok (.aload_n 0, 1) := by decide +kernel
theorem dJx4a65c_init_da8c8_5 : decode cJx4a65c_init_da8c8 5 = .ok (.getstatic 39, 3) := by decide +kernel
theorem dJx4a65c_init_da8c8_8 : decode cJx4a65c_init_da8c8 8 = .ok (.putfield 9, 3) := by decide +kernel
theorem dJx4a65c_init_da8c8_11 : decode cJx4a65c_init_da8c8 11 = .ok (.return_, 1) := by decide +kernel
theorem dJx4a65c_grow_92f84_0 : decode cJx4a65c_grow_92f84 0 = .ok (.aload_n 0, 1) := by decide +kernel
theorem dJx4a65c_grow_92f84_1 : decode cJx4a65c_grow_92f84 1 = .ok (.getfield 9, 3) := by decide +kernel
theorem dJx4a65c_grow_92f84_4 : decode cJx4a65c_grow_92f84 4 = .ok (.arraylength, 1) := by decide +kernel
theorem dJx4a65c_grow_92f84_5 : decode cJx4a65c_grow_92f84 5 = .ok (.istore_n 2, 1) := by decide +kernel
theorem dJx4a65c_grow_92f84_6 : decode cJx4a65c_grow_92f84 6 = .ok (.iload_n 2, 1) := by decide +kernel
theorem dJx4a65c_grow_92f84_7 : decode cJx4a65c_grow_92f84 7 = .ok (.ifCond .gt 13, 3) := by decide +kernel
theorem dJx4a65c_grow_92f84_10 : decode cJx4a65c_grow_92f84 10 = .ok (.aload_n 0, 1) := by decide +kernel
theorem dJx4a65c_grow_92f84_11 : decode cJx4a65c_grow_92f84 11 = .ok (.getfield 9, 3) := by decide +kernel
theorem dJx4a65c_grow_92f84_14 : decode cJx4a65c_grow_92f84 14 = .ok (.getstatic 39, 3) := by decide +kernel
theorem dJx4a65c_grow_92f84_17 : decode cJx4a65c_grow_92f84 17 = .ok (.if_acmp .eq 28, 3) := by decide +kernel
theorem dJx4a65c_grow_92f84_20 : decode cJx4a65c_grow_92f84 20 = .ok (.iload_n 2, 1) := by decide +kernel
theorem dJx4a65c_grow_92f84_21 : decode cJx4a65c_grow_92f84 21 = .ok (.iload_n 1, 1) := by decide +kernel
theorem dJx4a65c_grow_92f84_22 : decode cJx4a65c_grow_92f84 22 = .ok (.iload_n 2, 1) := by decide +kernel
theorem dJx4a65c_grow_92f84_23 : decode cJx4a65c_grow_92f84 23 = .ok (.isub, 1) := by decide +kernel
theorem dJx4a65c_grow_92f84_24 : decode cJx4a65c_grow_92f84 24 = .ok (.iload_n 2, 1) := by decide +kernel
theorem dJx4a65c_grow_92f84_25 : decode cJx4a65c_grow_92f84 25 = .ok (.iconst 1, 1) := by decide +kernel
theorem dJx4a65c_grow_92f84_26 : decode cJx4a65c_grow_92f84 26 = .ok (.ishr, 1) := by decide +kernel
theorem dJx4a65c_grow_92f84_27 : decode cJx4a65c_grow_92f84 27 = .ok (.invokestatic 73, 3) := by decide +kernel
theorem dJx4a65c_grow_92f84_30 : decode cJx4a65c_grow_92f84 30 = .ok (.istore_n 3, 1) := by decide +kernel
theorem dJx4a65c_grow_92f84_31 : decode cJx4a65c_grow_92f84 31 = .ok (.aload_n 0, 1) := by decide +kernel
theorem dJx4a65c_grow_92f84_32 : decode cJx4a65c_grow_92f84 32 = .ok (.aload_n 0, 1) := by decide +kernel
theorem dJx4a65c_grow_92f84_33 : decode cJx4a65c_grow_92f84 33 = .ok (.getfield 9, 3) := by decide +kernel
theorem dJx4a65c_grow_92f84_36 : decode cJx4a65c_grow_92f84 36 = .ok (.iload_n 3, 1) := by decide +kernel
theorem dJx4a65c_grow_92f84_37 : decode cJx4a65c_grow_92f84 37 = .ok (.invokestatic 66, 3) := by decide +kernel
theorem dJx4a65c_grow_92f84_40 : decode cJx4a65c_grow_92f84 40 = .ok (.dup_x1, 1) := by decide +kernel
theorem dJx4a65c_grow_92f84_41 : decode cJx4a65c_grow_92f84 41 = .ok (.putfield 9, 3) := by decide +kernel
theorem dJx4a65c_grow_92f84_44 : decode cJx4a65c_grow_92f84 44 = .ok (.areturn, 1) := by decide +kernel
theorem dJx4a65c_grow_92f84_45 : decode cJx4a65c_grow_92f84 45 = .ok (.aload_n 0, 1) := by decide +kernel
theorem dJx4a65c_grow_92f84_46 : decode cJx4a65c_grow_92f84 46 = .ok (.bipush 10, 2) := by decide +kernel
theorem dJx4a65c_grow_92f84_48 : decode cJx4a65c_grow_92f84 48 = .ok (.iload_n 1, 1) := by decide +kernel
theorem dJx4a65c_grow_92f84_49 : decode cJx4a65c_grow_92f84 49 = .ok (.invokestatic 79, 3) := by decide +kernel
theorem dJx4a65c_grow_92f84_52 : decode cJx4a65c_grow_92f84 52 = .ok (.anewarray 7, 3) := by decide +kernel
theorem dJx4a65c_grow_92f84_55 : decode cJx4a65c_grow_92f84 55 = .ok (.dup_x1, 1) := by decide +kernel
theorem dJx4a65c_grow_92f84_56 : decode cJx4a65c_grow_92f84 56 = .ok (.putfield 9, 3) := by decide +kernel
theorem dJx4a65c_grow_92f84_59 : decode cJx4a65c_grow_92f84 59 = .ok (.areturn, 1) := by decide +kernel
theorem dJx4a65c_grow_d5877_0 : decode cJx4a65c_grow_d5877 0 = .ok (.aload_n 0, 1) := by decide +kernel
theorem dJx4a65c_grow_d5877_1 : decode cJx4a65c_grow_d5877 1 = .ok (.aload_n 0, 1) := by decide +kernel
theorem dJx4a65c_grow_d5877_2 : decode cJx4a65c_grow_d5877 2 = .ok (.getfield 48, 3) := by decide +kernel
theorem dJx4a65c_grow_d5877_5 : decode cJx4a65c_grow_d5877 5 = .ok (.iconst 1, 1) := by decide +kernel
theorem dJx4a65c_grow_d5877_6 : decode cJx4a65c_grow_d5877 6 = .ok (.iadd, 1) := by decide +kernel
theorem dJx4a65c_grow_d5877_7 : decode cJx4a65c_grow_d5877 7 = .ok (.invokevirtual 69, 3) := by decide +kernel
theorem dJx4a65c_grow_d5877_10 : decode cJx4a65c_grow_d5877 10 = .ok (.areturn, 1) := by decide +kernel
theorem dJx4a65c_size_8abf5_0 : decode cJx4a65c_size_8abf5 0 = .ok (.aload_n 0, 1) := by decide +kernel
theorem dJx4a65c_size_8abf5_1 : decode cJx4a65c_size_8abf5 1 = .ok (.getfield 48, 3) := by decide +kernel
theorem dJx4a65c_size_8abf5_4 : decode cJx4a65c_size_8abf5 4 = .ok (.ireturn, 1) := by decide +kernel
theorem dJx4a65c_elementData_915e3_0 : decode cJx4a65c_elementData_915e3 0 = .ok (.aload_n 0, 1) := by decide +kernel
theorem dJx4a65c_elementData_915e3_1 : decode cJx4a65c_elementData_915e3 1 = .ok (.getfield 9, 3) := by decide +kernel
theorem dJx4a65c_elementData_915e3_4 : decode cJx4a65c_elementData_915e3 4 = .ok (.iload_n 1, 1) := by decide +kernel
theorem dJx4a65c_elementData_915e3_5 : decode cJx4a65c_elementData_915e3 5 = .ok (.aaload, 1) := by decide +kernel
theorem dJx4a65c_elementData_915e3_6 : decode cJx4a65c_elementData_915e3 6 = .ok (.areturn, 1) := by decide +kernel
theorem dJx4a65c_get_915e3_0 : decode cJx4a65c_get_915e3 0 = .ok (.iload_n 1, 1) := by decide +kernel
theorem dJx4a65c_get_915e3_1 : decode cJx4a65c_get_915e3 1 = .ok (.aload_n 0, 1) := by decide +kernel
theorem dJx4a65c_get_915e3_2 : decode cJx4a65c_get_915e3 2 = .ok (.getfield 48, 3) := by decide +kernel
theorem dJx4a65c_get_915e3_5 : decode cJx4a65c_get_915e3 5 = .ok (.invokestatic 118, 3) := by decide +kernel
theorem dJx4a65c_get_915e3_8 : decode cJx4a65c_get_915e3 8 = .ok (.pop, 1) := by decide +kernel
theorem dJx4a65c_get_915e3_9 : decode cJx4a65c_get_915e3 9 = .ok (.aload_n 0, 1) := by decide +kernel
theorem dJx4a65c_get_915e3_10 : decode cJx4a65c_get_915e3 10 = .ok (.iload_n 1, 1) := by decide +kernel
theorem dJx4a65c_get_915e3_11 : decode cJx4a65c_get_915e3 11 = .ok (.invokevirtual 123, 3) := by decide +kernel
theorem dJx4a65c_get_915e3_14 : decode cJx4a65c_get_915e3 14 = .ok (.areturn, 1) := by decide +kernel
theorem dJx4a65c_add_72be8_0 : decode cJx4a65c_add_72be8 0 = .ok (.iload_n 3, 1) := by decide +kernel
theorem dJx4a65c_add_72be8_1 : decode cJx4a65c_add_72be8 1 = .ok (.aload_n 2, 1) := by decide +kernel
theorem dJx4a65c_add_72be8_2 : decode cJx4a65c_add_72be8 2 = .ok (.arraylength, 1) := by decide +kernel
theorem dJx4a65c_add_72be8_3 : decode cJx4a65c_add_72be8 3 = .ok (.if_icmp .ne 8, 3) := by decide +kernel
theorem dJx4a65c_add_72be8_6 : decode cJx4a65c_add_72be8 6 = .ok (.aload_n 0, 1) := by decide +kernel
theorem dJx4a65c_add_72be8_7 : decode cJx4a65c_add_72be8 7 = .ok (.invokevirtual 129, 3) := by decide +kernel
theorem dJx4a65c_add_72be8_10 : decode cJx4a65c_add_72be8 10 = .ok (.astore_n 2, 1) := by decide +kernel
theorem dJx4a65c_add_72be8_11 : decode cJx4a65c_add_72be8 11 = .ok (.aload_n 2, 1) := by decide +kernel
theorem dJx4a65c_add_72be8_12 : decode cJx4a65c_add_72be8 12 = .ok (.iload_n 3, 1) := by decide +kernel
theorem dJx4a65c_add_72be8_13 : decode cJx4a65c_add_72be8 13 = .ok (.aload_n 1, 1) := by decide +kernel
theorem dJx4a65c_add_72be8_14 : decode cJx4a65c_add_72be8 14 = .ok (.aastore, 1) := by decide +kernel
theorem dJx4a65c_add_72be8_15 : decode cJx4a65c_add_72be8 15 = .ok (.aload_n 0, 1) := by decide +kernel
theorem dJx4a65c_add_72be8_16 : decode cJx4a65c_add_72be8 16 = .ok (.iload_n 3, 1) := by decide +kernel
theorem dJx4a65c_add_72be8_17 : decode cJx4a65c_add_72be8 17 = .ok (.iconst 1, 1) := by decide +kernel
theorem dJx4a65c_add_72be8_18 : decode cJx4a65c_add_72be8 18 = .ok (.iadd, 1) := by decide +kernel
theorem dJx4a65c_add_72be8_19 : decode cJx4a65c_add_72be8 19 = .ok (.putfield 48, 3) := by decide +kernel
theorem dJx4a65c_add_72be8_22 : decode cJx4a65c_add_72be8 22 = .ok (.return_, 1) := by decide +kernel
theorem dJx4a65c_add_9ea2d_0 : decode cJx4a65c_add_9ea2d 0 = .ok (.aload_n 0, 1) := by decide +kernel
theorem dJx4a65c_add_9ea2d_1 : decode cJx4a65c_add_9ea2d 1 = .ok (.dup, 1) := by decide +kernel
theorem dJx4a65c_add_9ea2d_2 : decode cJx4a65c_add_9ea2d 2 = .ok (.getfield 63, 3) := by decide +kernel
theorem dJx4a65c_add_9ea2d_5 : decode cJx4a65c_add_9ea2d 5 = .ok (.iconst 1, 1) := by decide +kernel
theorem dJx4a65c_add_9ea2d_6 : decode cJx4a65c_add_9ea2d 6 = .ok (.iadd, 1) := by decide +kernel
theorem dJx4a65c_add_9ea2d_7 : decode cJx4a65c_add_9ea2d 7 = .ok (.putfield 63, 3) := by decide +kernel
theorem dJx4a65c_add_9ea2d_10 : decode cJx4a65c_add_9ea2d 10 = .ok (.aload_n 0, 1) := by decide +kernel
theorem dJx4a65c_add_9ea2d_11 : decode cJx4a65c_add_9ea2d 11 = .ok (.aload_n 1, 1) := by decide +kernel
theorem dJx4a65c_add_9ea2d_12 : decode cJx4a65c_add_9ea2d 12 = .ok (.aload_n 0, 1) := by decide +kernel
theorem dJx4a65c_add_9ea2d_13 : decode cJx4a65c_add_9ea2d 13 = .ok (.getfield 9, 3) := by decide +kernel
theorem dJx4a65c_add_9ea2d_16 : decode cJx4a65c_add_9ea2d 16 = .ok (.aload_n 0, 1) := by decide +kernel
theorem dJx4a65c_add_9ea2d_17 : decode cJx4a65c_add_9ea2d 17 = .ok (.getfield 48, 3) := by decide +kernel
theorem dJx4a65c_add_9ea2d_20 : decode cJx4a65c_add_9ea2d 20 = .ok (.invokevirtual 131, 3) := by decide +kernel
theorem dJx4a65c_add_9ea2d_23 : decode cJx4a65c_add_9ea2d 23 = .ok (.iconst 1, 1) := by decide +kernel
theorem dJx4a65c_add_9ea2d_24 : decode cJx4a65c_add_9ea2d 24 = .ok (.ireturn, 1) := by decide +kernel
theorem dJx4a65c_add_7a177_0 : decode cJx4a65c_add_7a177 0 = .ok (.aload_n 0, 1) := by decide +kernel
theorem dJx4a65c_add_7a177_1 : decode cJx4a65c_add_7a177 1 = .ok (.iload_n 1, 1) := by decide +kernel
theorem dJx4a65c_add_7a177_2 : decode cJx4a65c_add_7a177 2 = .ok (.invokevirtual 135, 3) := by decide +kernel
theorem dJx4a65c_add_7a177_5 : decode cJx4a65c_add_7a177 5 = .ok (.aload_n 0, 1) := by decide +kernel
theorem dJx4a65c_add_7a177_6 : decode cJx4a65c_add_7a177 6 = .ok (.dup, 1) := by decide +kernel
theorem dJx4a65c_add_7a177_7 : decode cJx4a65c_add_7a177 7 = .ok (.getfield 63, 3) := by decide +kernel
theorem dJx4a65c_add_7a177_10 : decode cJx4a65c_add_7a177 10 = .ok (.iconst 1, 1) := by decide +kernel
theorem dJx4a65c_add_7a177_11 : decode cJx4a65c_add_7a177 11 = .ok (.iadd, 1) := by decide +kernel
theorem dJx4a65c_add_7a177_12 : decode cJx4a65c_add_7a177 12 = .ok (.putfield 63, 3) := by decide +kernel
theorem dJx4a65c_add_7a177_15 : decode cJx4a65c_add_7a177 15 = .ok (.aload_n 0, 1) := by decide +kernel
theorem dJx4a65c_add_7a177_16 : decode cJx4a65c_add_7a177 16 = .ok (.getfield 48, 3) := by decide +kernel
theorem dJx4a65c_add_7a177_19 : decode cJx4a65c_add_7a177 19 = .ok (.dup, 1) := by decide +kernel
theorem dJx4a65c_add_7a177_20 : decode cJx4a65c_add_7a177 20 = .ok (.istore_n 3, 1) := by decide +kernel
theorem dJx4a65c_add_7a177_21 : decode cJx4a65c_add_7a177 21 = .ok (.aload_n 0, 1) := by decide +kernel
theorem dJx4a65c_add_7a177_22 : decode cJx4a65c_add_7a177 22 = .ok (.getfield 9, 3) := by decide +kernel
theorem dJx4a65c_add_7a177_25 : decode cJx4a65c_add_7a177 25 = .ok (.dup, 1) := by decide +kernel
theorem dJx4a65c_add_7a177_26 : decode cJx4a65c_add_7a177 26 = .ok (.astore 4, 2) := by decide +kernel
theorem dJx4a65c_add_7a177_28 : decode cJx4a65c_add_7a177 28 = .ok (.arraylength, 1) := by decide +kernel
theorem dJx4a65c_add_7a177_29 : decode cJx4a65c_add_7a177 29 = .ok (.if_icmp .ne 9, 3) := by decide +kernel
theorem dJx4a65c_add_7a177_32 : decode cJx4a65c_add_7a177 32 = .ok (.aload_n 0, 1) := by decide +kernel
theorem dJx4a65c_add_7a177_33 : decode cJx4a65c_add_7a177 33 = .ok (.invokevirtual 129, 3) := by decide +kernel
theorem dJx4a65c_add_7a177_36 : decode cJx4a65c_add_7a177 36 = .ok (.astore 4, 2) := by decide +kernel
theorem dJx4a65c_add_7a177_38 : decode cJx4a65c_add_7a177 38 = .ok (.aload 4, 2) := by decide +kernel
theorem dJx4a65c_add_7a177_40 : decode cJx4a65c_add_7a177 40 = .ok (.iload_n 1, 1) := by decide +kernel
theorem dJx4a65c_add_7a177_41 : decode cJx4a65c_add_7a177 41 = .ok (.aload 4, 2) := by decide +kernel
theorem dJx4a65c_add_7a177_43 : decode cJx4a65c_add_7a177 43 = .ok (.iload_n 1, 1) := by decide +kernel
theorem dJx4a65c_add_7a177_44 : decode cJx4a65c_add_7a177 44 = .ok (.iconst 1, 1) := by decide +kernel
theorem dJx4a65c_add_7a177_45 : decode cJx4a65c_add_7a177 45 = .ok (.iadd, 1) := by decide +kernel
theorem dJx4a65c_add_7a177_46 : decode cJx4a65c_add_7a177 46 = .ok (.iload_n 3, 1) := by decide +kernel
theorem dJx4a65c_add_7a177_47 : decode cJx4a65c_add_7a177 47 = .ok (.iload_n 1, 1) := by decide +kernel
theorem dJx4a65c_add_7a177_48 : decode cJx4a65c_add_7a177 48 = .ok (.isub, 1) := by decide +kernel
theorem dJx4a65c_add_7a177_49 : decode cJx4a65c_add_7a177 49 = .ok (.invokestatic 112, 3) := by decide +kernel
theorem dJx4a65c_add_7a177_52 : decode cJx4a65c_add_7a177 52 = .ok (.aload 4, 2) := by decide +kernel
theorem dJx4a65c_add_7a177_54 : decode cJx4a65c_add_7a177 54 = .ok (.iload_n 1, 1) := by decide +kernel
theorem dJx4a65c_add_7a177_55 : decode cJx4a65c_add_7a177 55 = .ok (.aload_n 2, 1) := by decide +kernel
theorem dJx4a65c_add_7a177_56 : decode cJx4a65c_add_7a177 56 = .ok (.aastore, 1) := by decide +kernel
theorem dJx4a65c_add_7a177_57 : decode cJx4a65c_add_7a177 57 = .ok (.aload_n 0, 1) := by decide +kernel
theorem dJx4a65c_add_7a177_58 : decode cJx4a65c_add_7a177 58 = .ok (.iload_n 3, 1) := by decide +kernel
theorem dJx4a65c_add_7a177_59 : decode cJx4a65c_add_7a177 59 = .ok (.iconst 1, 1) := by decide +kernel
theorem dJx4a65c_add_7a177_60 : decode cJx4a65c_add_7a177 60 = .ok (.iadd, 1) := by decide +kernel
theorem dJx4a65c_add_7a177_61 : decode cJx4a65c_add_7a177 61 = .ok (.putfield 48, 3) := by decide +kernel
theorem dJx4a65c_add_7a177_64 : decode cJx4a65c_add_7a177 64 = .ok (.return_, 1) := by decide +kernel
theorem dJx4a65c_clear_da8c8_0 : decode cJx4a65c_clear_da8c8 0 = .ok (.aload_n 0, 1) := by decide +kernel
theorem dJx4a65c_clear_da8c8_1 : decode cJx4a65c_clear_da8c8 1 = .ok (.dup, 1) := by decide +kernel
theorem dJx4a65c_clear_da8c8_2 : decode cJx4a65c_clear_da8c8 2 = .ok (.getfield 63, 3) := by decide +kernel
theorem dJx4a65c_clear_da8c8_5 : decode cJx4a65c_clear_da8c8 5 = .ok (.iconst 1, 1) := by decide +kernel
theorem dJx4a65c_clear_da8c8_6 : decode cJx4a65c_clear_da8c8 6 = .ok (.iadd, 1) := by decide +kernel
theorem dJx4a65c_clear_da8c8_7 : decode cJx4a65c_clear_da8c8 7 = .ok (.putfield 63, 3) := by decide +kernel
theorem dJx4a65c_clear_da8c8_10 : decode cJx4a65c_clear_da8c8 10 = .ok (.aload_n 0, 1) := by decide +kernel
theorem dJx4a65c_clear_da8c8_11 : decode cJx4a65c_clear_da8c8 11 = .ok (.getfield 9, 3) := by decide +kernel
theorem dJx4a65c_clear_da8c8_14 : decode cJx4a65c_clear_da8c8 14 = .ok (.astore_n 1, 1) := by decide +kernel
theorem dJx4a65c_clear_da8c8_15 : decode cJx4a65c_clear_da8c8 15 = .ok (.aload_n 0, 1) := by decide +kernel
theorem dJx4a65c_clear_da8c8_16 : decode cJx4a65c_clear_da8c8 16 = .ok (.getfield 48, 3) := by decide +kernel
theorem dJx4a65c_clear_da8c8_19 : decode cJx4a65c_clear_da8c8 19 = .ok (.istore_n 2, 1) := by decide +kernel
theorem dJx4a65c_clear_da8c8_20 : decode cJx4a65c_clear_da8c8 20 = .ok (.aload_n 0, 1) := by decide +kernel
theorem dJx4a65c_clear_da8c8_21 : decode cJx4a65c_clear_da8c8 21 = .ok (.iconst 0, 1) := by decide +kernel
theorem dJx4a65c_clear_da8c8_22 : decode cJx4a65c_clear_da8c8 22 = .ok (.dup_x1, 1) := by decide +kernel
theorem dJx4a65c_clear_da8c8_23 : decode cJx4a65c_clear_da8c8 23 = .ok (.putfield 48, 3) := by decide +kernel
theorem dJx4a65c_clear_da8c8_26 : decode cJx4a65c_clear_da8c8 26 = .ok (.istore_n 3, 1) := by decide +kernel
theorem dJx4a65c_clear_da8c8_27 : decode cJx4a65c_clear_da8c8 27 = .ok (.iload_n 3, 1) := by decide +kernel
theorem dJx4a65c_clear_da8c8_28 : decode cJx4a65c_clear_da8c8 28 = .ok (.iload_n 2, 1) := by decide +kernel
theorem dJx4a65c_clear_da8c8_29 : decode cJx4a65c_clear_da8c8 29 = .ok (.if_icmp .ge 13, 3) := by decide +kernel
theorem dJx4a65c_clear_da8c8_32 : decode cJx4a65c_clear_da8c8 32 = .ok (.aload_n 1, 1) := by decide +kernel
theorem dJx4a65c_clear_da8c8_33 : decode cJx4a65c_clear_da8c8 33 = .ok (.iload_n 3, 1) := by decide +kernel
theorem dJx4a65c_clear_da8c8_34 : decode cJx4a65c_clear_da8c8 34 = .ok (.aconst_null, 1) := by decide +kernel
theorem dJx4a65c_clear_da8c8_35 : decode cJx4a65c_clear_da8c8 35 = .ok (.aastore, 1) := by decide +kernel
theorem dJx4a65c_clear_da8c8_36 : decode cJx4a65c_clear_da8c8 36 = .ok (.iinc 3 1, 3) := by decide +kernel
theorem dJx4a65c_clear_da8c8_39 : decode cJx4a65c_clear_da8c8 39 = .ok (.goto (-12), 3) := by decide +kernel
theorem dJx4a65c_clear_da8c8_42 : decode cJx4a65c_clear_da8c8 42 = .ok (.return_, 1) := by decide +kernel
theorem dJx4a65c_rangeCheckForAdd_d00df_0 : decode cJx4a65c_rangeCheckForAdd_d00df 0 = .ok (.iload_n 1, 1) := by decide +kernel
theorem dJx4a65c_rangeCheckForAdd_d00df_1 : decode cJx4a65c_rangeCheckForAdd_d00df 1 = .ok (.aload_n 0, 1) := by decide +kernel
theorem dJx4a65c_rangeCheckForAdd_d00df_2 : decode cJx4a65c_rangeCheckForAdd_d00df 2 = .ok (.getfield 48, 3) := by decide +kernel
theorem dJx4a65c_rangeCheckForAdd_d00df_5 : decode cJx4a65c_rangeCheckForAdd_d00df 5 = .ok (.if_icmp .gt 7, 3) := by decide +kernel
theorem dJx4a65c_rangeCheckForAdd_d00df_8 : decode cJx4a65c_rangeCheckForAdd_d00df 8 = .ok (.iload_n 1, 1) := by decide +kernel
theorem dJx4a65c_rangeCheckForAdd_d00df_9 : decode cJx4a65c_rangeCheckForAdd_d00df 9 = .ok (.ifCond .ge 16, 3) := by decide +kernel
theorem dJx4a65c_rangeCheckForAdd_d00df_12 : decode cJx4a65c_rangeCheckForAdd_d00df 12 = .ok (.new 187, 3) := by decide +kernel
theorem dJx4a65c_rangeCheckForAdd_d00df_15 : decode cJx4a65c_rangeCheckForAdd_d00df 15 = .ok (.dup, 1) := by decide +kernel
theorem dJx4a65c_rangeCheckForAdd_d00df_16 : decode cJx4a65c_rangeCheckForAdd_d00df 16 = .ok (.aload_n 0, 1) := by decide +kernel
theorem dJx4a65c_rangeCheckForAdd_d00df_17 : decode cJx4a65c_rangeCheckForAdd_d00df 17 = .ok (.iload_n 1, 1) := by decide +kernel
theorem dJx4a65c_rangeCheckForAdd_d00df_18 : decode cJx4a65c_rangeCheckForAdd_d00df 18 = .ok (.invokevirtual 198, 3) := by decide +kernel
theorem dJx4a65c_rangeCheckForAdd_d00df_21 : decode cJx4a65c_rangeCheckForAdd_d00df 21 = .ok (.invokespecial 193, 3) := by decide +kernel
theorem dJx4a65c_rangeCheckForAdd_d00df_24 : decode cJx4a65c_rangeCheckForAdd_d00df 24 = .ok (.athrow, 1) := by decide +kernel
theorem dJx4a65c_rangeCheckForAdd_d00df_25 : decode cJx4a65c_rangeCheckForAdd_d00df 25 = .ok (.return_, 1) := by decide +kernel
theorem dJx4a65c_outOfBoundsMsg_b52d3_0 : decode cJx4a65c_outOfBoundsMsg_b52d3 0 = .ok (.new 20, 3) := by decide +kernel
theorem dJx4a65c_outOfBoundsMsg_b52d3_3 : decode cJx4a65c_outOfBoundsMsg_b52d3 3 = .ok (.dup, 1) := by decide +kernel
theorem dJx4a65c_outOfBoundsMsg_b52d3_4 : decode cJx4a65c_outOfBoundsMsg_b52d3 4 = .ok (.invokespecial 22, 3) := by decide +kernel
theorem dJx4a65c_outOfBoundsMsg_b52d3_7 : decode cJx4a65c_outOfBoundsMsg_b52d3 7 = .ok (.ldc 201, 2) := by decide +kernel
theorem dJx4a65c_outOfBoundsMsg_b52d3_9 : decode cJx4a65c_outOfBoundsMsg_b52d3 9 = .ok (.invokevirtual 25, 3) := by decide +kernel
theorem dJx4a65c_outOfBoundsMsg_b52d3_12 : decode cJx4a65c_outOfBoundsMsg_b52d3 12 = .ok (.iload_n 1, 1) := by decide +kernel
theorem dJx4a65c_outOfBoundsMsg_b52d3_13 : decode cJx4a65c_outOfBoundsMsg_b52d3 13 = .ok (.invokevirtual 29, 3) := by decide +kernel
theorem dJx4a65c_outOfBoundsMsg_b52d3_16 : decode cJx4a65c_outOfBoundsMsg_b52d3 16 = .ok (.ldc 203, 2) := by decide +kernel
theorem dJx4a65c_outOfBoundsMsg_b52d3_18 : decode cJx4a65c_outOfBoundsMsg_b52d3 18 = .ok (.invokevirtual 25, 3) := by decide +kernel
theorem dJx4a65c_outOfBoundsMsg_b52d3_21 : decode cJx4a65c_outOfBoundsMsg_b52d3 21 = .ok (.aload_n 0, 1) := by decide +kernel
theorem dJx4a65c_outOfBoundsMsg_b52d3_22 : decode cJx4a65c_outOfBoundsMsg_b52d3 22 = .ok (.getfield 48, 3) := by decide +kernel
theorem dJx4a65c_outOfBoundsMsg_b52d3_25 : decode cJx4a65c_outOfBoundsMsg_b52d3 25 = .ok (.invokevirtual 29, 3) := by decide +kernel
theorem dJx4a65c_outOfBoundsMsg_b52d3_28 : decode cJx4a65c_outOfBoundsMsg_b52d3 28 = .ok (.invokevirtual 32, 3) := by decide +kernel
theorem dJx4a65c_outOfBoundsMsg_b52d3_31 : decode cJx4a65c_outOfBoundsMsg_b52d3 31 = .ok (.areturn, 1) := by decide +kernel
theorem dJxa1e45_init_da8c8_0 : decode cJxa1e45_init_da8c8 0 = .ok (.aload_n 0, 1) := by decide +kernel
theorem dJxa1e45_init_da8c8_1 : decode cJxa1e45_init_da8c8 1 = .ok (.invokespecial 1, 3) := by decide +kernel
theorem dJxa1e45_init_da8c8_4 : decode cJxa1e45_init_da8c8 4 = .ok (.return_, 1) := by decide +kernel
theorem dJxc12de_init_da8c8_0 : decode cJxc12de_init_da8c8 0 = .ok (.aload_n 0, 1) := by decide +kernel
theorem dJxc12de_init_da8c8_1 : decode cJxc12de_init_da8c8 1 = .ok (.invokespecial 1, 3) := by decide +kernel
theorem dJxc12de_init_da8c8_4 : decode cJxc12de_init_da8c8 4 = .ok (.aload_n 0, 1) := by decide +kernel
theorem dJxc12de_init_da8c8_5 : decode cJxc12de_init_da8c8 5 = .ok (.iconst 0, 1) := by decide +kernel
theorem dJxc12de_init_da8c8_6 : decode cJxc12de_init_da8c8 6 = .ok (.putfield 7, 3) := by decide +kernel
theorem dJxc12de_init_da8c8_9 : decode cJxc12de_init_da8c8 9 = .ok (.return_, 1) := by decide +kernel
end
section
section VXIA
variable {p : Program} {l : Launch} {e : Env} {R : Room} {s : State} {m : MethodId} {args : Array Value} {below : List Frame} {meth : Method} {c : Code} {T : State} {locs : List Loc} {cells slots : Nat}
theorem vx_callI (X : Stand p l e R s m args below meth c T locs cells slots) (hexec : p.tables.exec = Jvm.exec) {own : String} {index : Nat} {y : MethodName} {bytes : ByteArray} {maxL : Nat}
    (hown : s.vm.findClass own = some m.cls) (hy1 : y.name = "<init>") (hlink : (Cond.methodLink own index y).before args s = true) (hinst : (Cond.instanceMethod y).before args s = true)
    (hcode : (Cond.code y bytes maxL none).before args s = true) (hy : y.cls ≠ "java/lang/invoke/MethodHandle" ∧ y.cls ≠ "java/lang/invoke/VarHandle")
    {W9 : Nat} {Pre : Pt → Array Value → Prop} {Post : Pt → Array Value → Option Value → Pt → Prop} {PostX : Pt → Array Value → Addr → Pt → Prop} (hK : vx_Back l R p e below s args y 3 W9 Pre Post PostX)
    {g : JFrame} (hg : g.method = m) (hsize : g.locals.size = c.maxLocals) {a : Addr} {argsL rest : List Value} (hlen : ∀ sig, parseMethodDescriptor y.desc = some sig → argsL.length = sig.parameters.length)
    (hstack : g.stack = argsL.reverse ++ .ref a :: rest) (hW : 2 * g.monitorRoom + (rest.map fun v => v.category).sum ≤ W9) (hdg : decode c.code g.pc = .ok (.invokespecial index, 3))
    (hpre : ∀ vm₁, s.WarmedH vm₁ → Pre ⟨T.setVm vm₁, locs, cells, slots⟩ (Value.ref a :: argsL).toArray) :
    (∃ (v : Option Value) (vm₁ : Vm) (B : Pt), s.WarmedH vm₁ ∧ Stand p l e R s m args below meth c B.U B.locs B.cells B.slots ∧ Post ⟨T.setVm vm₁, locs, cells, slots⟩ (Value.ref a :: argsL).toArray v B ∧
      ∀ target, Steps p.tables e below (B.U.setTop { g with pc := g.pc + 3, stack := v.toList ++ rest }) target → Steps p.tables e below (T.setTop g) target) ∨
    (∃ (q : Addr) (vm₁ : Vm) (B : Pt), s.WarmedH vm₁ ∧ Stand p l e R s m args below meth c B.U B.locs B.cells B.slots ∧ PostX ⟨T.setVm vm₁, locs, cells, slots⟩ (Value.ref a :: argsL).toArray q B ∧
      Steps p.tables e below (T.setTop g) ((B.U.setTop { g with stack := rest }).pushFrame (.throwing q))) := by
  subst hg
  have hpl : e.platform.magicAccessors = ({} : Platform).magicAccessors := by rw [X.admits.platform]
  obtain ⟨mk, methM, cM, kP, vm₁, hnamed, hmethM, hcodeM, -, hlocalsM, -, hkP, -, hW₁, hstep₁⟩ := Steps.initColdArgs (e := e) X.here hexec X.warmed hpl hown hy1 hy hlink hinst hcode (f := g) rfl hlen hstack hdg
  have X₁ := X.noted hW₁
  rcases hK g.method meth c ⟨T.setVm vm₁, locs, cells, slots⟩ { g with stack := rest } (.invokespecial index) mk (Value.ref a :: argsL).toArray X₁ rfl hsize hdg hW (X₁.named hnamed) (hpre vm₁ X₁.warmed) with ⟨v, B, X', hpost, hsteps⟩ | ⟨q, B, X', hpost, hsteps⟩
  · exact Or.inl ⟨v, vm₁, B, X₁.warmed, X', hpost, fun target h => hstep₁ _ fun acts => by rw [doInvoke_state]; exact hsteps.trans h⟩
  · exact Or.inr ⟨q, vm₁, B, X₁.warmed, X', hpost, hstep₁ _ fun acts => by rw [doInvoke_state]; exact hsteps⟩
end VXIA
section VXIB
variable {p : Program} {l : Launch} {e : Env} {R : Room} {s : State} {m : MethodId} {args : Array Value} {below : List Frame} {meth : Method} {c : Code} {H : Heap} {locs : List Loc} {cells slots : Nat}
variable {y : MethodName} {bytes cc : ByteArray} {maxL nL mc ms n index : Nat} {ret : Option FieldType} {ws : List Cond} {rm : Room} {Pc : Array Value → State → Prop} {Qc : Array Value → State → Outcome → State → Prop} {XC : String → State → State → Prop} {free : Addr → Prop} {Ts : List Cond} {own C : String} {b : Addr} {As rest : List Value} {g : JFrame}
theorem vx_runI (S : CallFix p m c cc nL s args Ts own) (hM : vx_Met l y ws rm Pc Qc XC mc ms free) (cw : CallB R s args own index y bytes maxL none ws rm mc ms n ∧ y.name = "<init>" ∧ (Cond.instanceMethod y).before args s = true) (hp : PreS s H Pc (.ref b :: As))
    (hg : g.method = m) (hn : As.length = n) (hsize : g.locals.size = nL) (hstack : g.stack = As.reverse ++ .ref b :: rest) (hW : 2 * g.monitorRoom + (rest.map fun v => v.category).sum ≤ 8) (hdg : decode cc g.pc = .ok (.invokespecial index, 3)) (hf : cells + mc ≤ R.cells ∧ slots + ms ≤ R.slots) :
    vx_Run p l e R s m args below meth c H locs cells slots mc ms g rest (Qc (Value.ref b :: As).toArray) XC free := by
  have hK : vx_Back l R p e below s args y 3 8 (PreOf R mc ms Pc) (PostOf Qc mc ms free) (vx_Post XC mc ms free) := vx_callBack cw.1 hM hp.1
  obtain ⟨⟨-, -, -, -, -, -, hcode, -, hy, hlen, hl⟩, hy1, hin⟩ := cw
  obtain ⟨hx, hb, hml, ho, -⟩ := S
  have hPc := hp.2
  intro T hT X
  rcases vx_callI X hx (bytes := bytes) (maxL := maxL) ho hy1 hl hin hcode hy hK hg (hsize.trans hml.symm) (a := b) (argsL := As) (rest := rest) (fun sig h => hn.trans (hlen sig h)) hstack hW (by rw [hb]; exact hdg)
    (fun vm₁ hW₁ => ⟨hf.1, hf.2, hPc (T.setVm vm₁) hT hW₁⟩) with ⟨v, vm₁, ⟨U', l2, c2, s2⟩, hW₁, X', ⟨g', mk, t, L, e1, e2, hq, h1, hL, h2, h3⟩, st⟩ | ⟨q, vm₁, ⟨U', l2, c2, s2⟩, hW₁, X', ⟨g', mk, t, L, E, ce, e1, e2, hq, hce, hcv, hcl, h1, hL, h2, h3⟩, st⟩
  · dsimp only [Pt.U, Pt.locs, Pt.cells, Pt.slots] at X' e1 e2 h1 h2 h3 st
    subst h1; subst h2; subst h3
    exact Or.inl ⟨v, (T.setVm vm₁).calling g' mk (Value.ref b :: As).toArray, t, U', L, hT, X', hL, e1, e2, hq, st⟩
  · dsimp only [Pt.U, Pt.locs, Pt.cells, Pt.slots] at X' e1 e2 h1 h2 h3 st hcl
    subst h1; subst h2; subst h3
    exact Or.inr ⟨q, (T.setVm vm₁).calling g' mk (Value.ref b :: As).toArray, t, U', L, E, ce, hT, X', hL, e1, e2, hq, hce, hcv, vx_cls hW₁ hcl, st⟩
end VXIB
/-! ===== END ===== -/
/-! ===== BEGIN a private constructor of a nest mate that throws ===== -/
section VXIC
variable {p : Program} {l : Launch} {e : Env} {R : Room} {s : State} {m : MethodId} {args : Array Value} {below : List Frame} {meth : Method} {c : Code} {T : State} {locs : List Loc} {cells slots : Nat}
theorem vx_callIN (X : Stand p l e R s m args below meth c T locs cells slots) (hexec : p.tables.exec = Jvm.exec) {own : String} {index : Nat} {host : String} {y : MethodName} {bytes : ByteArray} {maxL : Nat}
    (hown : s.vm.findClass own = some m.cls) (hy1 : y.name = "<init>") (hlink : (Cond.methodLinkNest own index y host).before args s = true) (hinst : (Cond.instanceMethod y).before args s = true)
    (hcode : (Cond.code y bytes maxL none).before args s = true) (hy : y.cls ≠ "java/lang/invoke/MethodHandle" ∧ y.cls ≠ "java/lang/invoke/VarHandle")
    {W9 : Nat} {Pre : Pt → Array Value → Prop} {Post : Pt → Array Value → Option Value → Pt → Prop} {PostX : Pt → Array Value → Addr → Pt → Prop} (hK : vx_Back l R p e below s args y 3 W9 Pre Post PostX)
    {g : JFrame} (hg : g.method = m) (hsize : g.locals.size = c.maxLocals) {a : Addr} {argsL rest : List Value} (hlen : ∀ sig, parseMethodDescriptor y.desc = some sig → argsL.length = sig.parameters.length)
    (hstack : g.stack = argsL.reverse ++ .ref a :: rest) (hW : 2 * g.monitorRoom + (rest.map fun v => v.category).sum ≤ W9) (hdg : decode c.code g.pc = .ok (.invokespecial index, 3))
    (hpre : ∀ vm₁, s.WarmedH vm₁ → Pre ⟨T.setVm vm₁, locs, cells, slots⟩ (Value.ref a :: argsL).toArray) :
    (∃ (v : Option Value) (vm₁ : Vm) (B : Pt), s.WarmedH vm₁ ∧ Stand p l e R s m args below meth c B.U B.locs B.cells B.slots ∧ Post ⟨T.setVm vm₁, locs, cells, slots⟩ (Value.ref a :: argsL).toArray v B ∧
      ∀ target, Steps p.tables e below (B.U.setTop { g with pc := g.pc + 3, stack := v.toList ++ rest }) target → Steps p.tables e below (T.setTop g) target) ∨
    (∃ (q : Addr) (vm₁ : Vm) (B : Pt), s.WarmedH vm₁ ∧ Stand p l e R s m args below meth c B.U B.locs B.cells B.slots ∧ PostX ⟨T.setVm vm₁, locs, cells, slots⟩ (Value.ref a :: argsL).toArray q B ∧
      Steps p.tables e below (T.setTop g) ((B.U.setTop { g with stack := rest }).pushFrame (.throwing q))) := by
  subst hg
  have hpl : e.platform.magicAccessors = ({} : Platform).magicAccessors := by rw [X.admits.platform]
  obtain ⟨mk, methM, cM, kP, vm₁, hnamed, hmethM, hcodeM, -, hlocalsM, -, hkP, -, hW₁, hstep₁⟩ := Steps.initColdArgsNest (e := e) X.here hexec X.warmed hpl hown hy1 hy hlink hinst hcode (f := g) rfl hlen hstack hdg
  have X₁ := X.noted hW₁
  rcases hK g.method meth c ⟨T.setVm vm₁, locs, cells, slots⟩ { g with stack := rest } (.invokespecial index) mk (Value.ref a :: argsL).toArray X₁ rfl hsize hdg hW (X₁.named hnamed) (hpre vm₁ X₁.warmed) with ⟨v, B, X', hpost, hsteps⟩ | ⟨q, B, X', hpost, hsteps⟩
  · exact Or.inl ⟨v, vm₁, B, X₁.warmed, X', hpost, fun target h => hstep₁ _ fun acts => by rw [doInvoke_state]; exact hsteps.trans h⟩
  · exact Or.inr ⟨q, vm₁, B, X₁.warmed, X', hpost, hstep₁ _ fun acts => by rw [doInvoke_state]; exact hsteps⟩
end VXIC
section VXID
variable {p : Program} {l : Launch} {e : Env} {R : Room} {s : State} {m : MethodId} {args : Array Value} {below : List Frame} {meth : Method} {c : Code} {H : Heap} {locs : List Loc} {cells slots : Nat}
theorem vx_runIN {y : MethodName} {bytes cc : ByteArray} {maxL nL mc ms n index : Nat} {ws : List Cond} {rm : Room} {Pc : Array Value → State → Prop} {Qc : Array Value → State → Outcome → State → Prop} {XC : String → State → State → Prop} {free : Addr → Prop} {Ts : List Cond} {own host : String} {b : Addr} {As rest : List Value} {g : JFrame}
    (S : CallFix p m c cc nL s args Ts own) (hM : vx_Met l y ws rm Pc Qc XC mc ms free) (cw : va_CN R s args own index y host bytes maxL none ws rm mc ms n ∧ y.name = "<init>" ∧ (Cond.instanceMethod y).before args s = true) (hp : PreS s H Pc (.ref b :: As))
    (hg : g.method = m) (hn : As.length = n) (hsize : g.locals.size = nL) (hstack : g.stack = As.reverse ++ .ref b :: rest) (hW : 2 * g.monitorRoom + (rest.map fun v => v.category).sum ≤ 8) (hdg : decode cc g.pc = .ok (.invokespecial index, 3)) (hf : cells + mc ≤ R.cells ∧ slots + ms ≤ R.slots) :
    vx_Run p l e R s m args below meth c H locs cells slots mc ms g rest (Qc (Value.ref b :: As).toArray) XC free := by
  obtain ⟨⟨⟨hrc, hrs, hfr, hlo, hws, hcw⟩, hcode, hini, hy, hlen, hl⟩, hx1, hx2⟩ := cw
  have hK : vx_Back l R p e below s args y 3 8 (PreOf R mc ms Pc) (PostOf Qc mc ms free) (vx_Post XC mc ms free) := vx_back (bytes := bytes) (maxL := maxL) (ret := none) hM hp.1 hrc hrs hfr hlo hws hcw (fun a' U hW => word_at hW (Or.inl (by first | rfl | simp [Cond.onTables, Cond.keeps, Cond.steady])) hini)
  obtain ⟨hx, hb, hml, ho, -⟩ := S
  have hPc := hp.2
  intro T hT X
  rcases vx_callIN X hx (bytes := bytes) (maxL := maxL) ho hx1 hl hx2 hcode hy hK hg (hsize.trans hml.symm) (a := b) (argsL := As) (rest := rest) (fun sig h => hn.trans (hlen sig h)) hstack hW (by rw [hb]; exact hdg)
    (fun vm₁ hW₁ => ⟨hf.1, hf.2, hPc (T.setVm vm₁) hT hW₁⟩) with ⟨v, vm₁, ⟨U', l2, c2, s2⟩, hW₁, X', ⟨g', mk, t, L, e1, e2, hq, h1, hL, h2, h3⟩, st⟩ | ⟨q, vm₁, ⟨U', l2, c2, s2⟩, hW₁, X', ⟨g', mk, t, L, E, ce, e1, e2, hq, hce, hcv, hcl, h1, hL, h2, h3⟩, st⟩
  · dsimp only [Pt.U, Pt.locs, Pt.cells, Pt.slots] at X' e1 e2 h1 h2 h3 st
    subst h1; subst h2; subst h3
    exact Or.inl ⟨v, (T.setVm vm₁).calling g' mk (Value.ref b :: As).toArray, t, U', L, hT, X', hL, e1, e2, hq, st⟩
  · dsimp only [Pt.U, Pt.locs, Pt.cells, Pt.slots] at X' e1 e2 h1 h2 h3 st hcl
    subst h1; subst h2; subst h3
    exact Or.inr ⟨q, (T.setVm vm₁).calling g' mk (Value.ref b :: As).toArray, t, U', L, E, ce, hT, X', hL, e1, e2, hq, hce, hcv, vx_cls hW₁ hcl, st⟩
end VXID
end
section
/-! ===== the abstract heap: kinds, lengths, int fields, reference fields, int rows, reference rows, long rows, by address ===== -/
abbrev am_H : Type := (Nat → Nat) × (Nat → Nat) × (Nat → Nat → Int32) × (Nat → Nat → Option Nat) × (Nat → Nat → Int32) × (Nat → Nat → Option Nat) × (Nat → Nat → Int64)
def am_K (h : am_H) : Nat → Nat := h.1
def am_N (h : am_H) : Nat → Nat := h.2.1
def am_I (h : am_H) : Nat → Nat → Int32 := h.2.2.1
def am_R (h : am_H) : Nat → Nat → Option Nat := h.2.2.2.1
def am_A (h : am_H) : Nat → Nat → Int32 := h.2.2.2.2.1
def am_B (h : am_H) : Nat → Nat → Option Nat := h.2.2.2.2.2.1
def am_L (h : am_H) : Nat → Nat → Int64 := h.2.2.2.2.2.2
def am_u2 {α : Type} (f : Nat → Nat → α) (i a : Nat) (v : α) : Nat → Nat → α := fun j b => if j = i ∧ b = a then v else f j b
def am_sI (h : am_H) (f a : Nat) (v : Int32) : am_H := (h.1, h.2.1, am_u2 h.2.2.1 f a v, h.2.2.2.1, h.2.2.2.2.1, h.2.2.2.2.2.1, h.2.2.2.2.2.2)
def am_sR (h : am_H) (f a : Nat) (v : Option Nat) : am_H := (h.1, h.2.1, h.2.2.1, am_u2 h.2.2.2.1 f a v, h.2.2.2.2.1, h.2.2.2.2.2.1, h.2.2.2.2.2.2)
def am_sA (h : am_H) (a i : Nat) (v : Int32) : am_H := (h.1, h.2.1, h.2.2.1, h.2.2.2.1, am_u2 h.2.2.2.2.1 a i v, h.2.2.2.2.2.1, h.2.2.2.2.2.2)
def am_sB (h : am_H) (a i : Nat) (v : Option Nat) : am_H := (h.1, h.2.1, h.2.2.1, h.2.2.2.1, h.2.2.2.2.1, am_u2 h.2.2.2.2.2.1 a i v, h.2.2.2.2.2.2)
def am_sL (h : am_H) (a i : Nat) (v : Int64) : am_H := (h.1, h.2.1, h.2.2.1, h.2.2.2.1, h.2.2.2.2.1, h.2.2.2.2.2.1, am_u2 h.2.2.2.2.2.2 a i v)
/-- a new cell at a, of kind k and length n, all its places 0 or null -/
def am_nw (h : am_H) (a k n : Nat) : am_H := (va_up h.1 a k, va_up h.2.1 a n, fun f b => if b = a then 0 else h.2.2.1 f b, fun f b => if b = a then none else h.2.2.2.1 f b, fun b i => if b = a then 0 else h.2.2.2.2.1 b i, fun b i => if b = a then none else h.2.2.2.2.2.1 b i, fun b i => if b = a then 0 else h.2.2.2.2.2.2 b i)

theorem am_K_sI (h : am_H) (f a : Nat) (v : Int32) : am_K (am_sI h f a v) = am_K h := rfl
theorem am_N_sI (h : am_H) (f a : Nat) (v : Int32) : am_N (am_sI h f a v) = am_N h := rfl
theorem am_I_sI (h : am_H) (f a : Nat) (v : Int32) (j b : Nat) : am_I (am_sI h f a v) j b = if j = f ∧ b = a then v else am_I h j b := rfl
theorem am_R_sI (h : am_H) (f a : Nat) (v : Int32) : am_R (am_sI h f a v) = am_R h := rfl
theorem am_A_sI (h : am_H) (f a : Nat) (v : Int32) : am_A (am_sI h f a v) = am_A h := rfl
theorem am_B_sI (h : am_H) (f a : Nat) (v : Int32) : am_B (am_sI h f a v) = am_B h := rfl
theorem am_L_sI (h : am_H) (f a : Nat) (v : Int32) : am_L (am_sI h f a v) = am_L h := rfl
theorem am_K_sR (h : am_H) (f a : Nat) (v : Option Nat) : am_K (am_sR h f a v) = am_K h := rfl
theorem am_N_sR (h : am_H) (f a : Nat) (v : Option Nat) : am_N (am_sR h f a v) = am_N h := rfl
theorem am_I_sR (h : am_H) (f a : Nat) (v : Option Nat) : am_I (am_sR h f a v) = am_I h := rfl
theorem am_R_sR (h : am_H) (f a : Nat) (v : Option Nat) (j b : Nat) : am_R (am_sR h f a v) j b = if j = f ∧ b = a then v else am_R h j b := rfl
theorem am_A_sR (h : am_H) (f a : Nat) (v : Option Nat) : am_A (am_sR h f a v) = am_A h := rfl
theorem am_B_sR (h : am_H) (f a : Nat) (v : Option Nat) : am_B (am_sR h f a v) = am_B h := rfl
theorem am_L_sR (h : am_H) (f a : Nat) (v : Option Nat) : am_L (am_sR h f a v) = am_L h := rfl
theorem am_K_sA (h : am_H) (a i : Nat) (v : Int32) : am_K (am_sA h a i v) = am_K h := rfl
theorem am_N_sA (h : am_H) (a i : Nat) (v : Int32) : am_N (am_sA h a i v) = am_N h := rfl
theorem am_I_sA (h : am_H) (a i : Nat) (v : Int32) : am_I (am_sA h a i v) = am_I h := rfl
theorem am_R_sA (h : am_H) (a i : Nat) (v : Int32) : am_R (am_sA h a i v) = am_R h := rfl
theorem am_A_sA (h : am_H) (a i : Nat) (v : Int32) (j b : Nat) : am_A (am_sA h a i v) j b = if j = a ∧ b = i then v else am_A h j b := rfl
theorem am_B_sA (h : am_H) (a i : Nat) (v : Int32) : am_B (am_sA h a i v) = am_B h := rfl
theorem am_L_sA (h : am_H) (a i : Nat) (v : Int32) : am_L (am_sA h a i v) = am_L h := rfl
theorem am_K_sB (h : am_H) (a i : Nat) (v : Option Nat) : am_K (am_sB h a i v) = am_K h := rfl
theorem am_N_sB (h : am_H) (a i : Nat) (v : Option Nat) : am_N (am_sB h a i v) = am_N h := rfl
theorem am_I_sB (h : am_H) (a i : Nat) (v : Option Nat) : am_I (am_sB h a i v) = am_I h := rfl
theorem am_R_sB (h : am_H) (a i : Nat) (v : Option Nat) : am_R (am_sB h a i v) = am_R h := rfl
theorem am_A_sB (h : am_H) (a i : Nat) (v : Option Nat) : am_A (am_sB h a i v) = am_A h := rfl
theorem am_B_sB (h : am_H) (a i : Nat) (v : Option Nat) (j b : Nat) : am_B (am_sB h a i v) j b = if j = a ∧ b = i then v else am_B h j b := rfl
theorem am_L_sB (h : am_H) (a i : Nat) (v : Option Nat) : am_L (am_sB h a i v) = am_L h := rfl
theorem am_K_sL (h : am_H) (a i : Nat) (v : Int64) : am_K (am_sL h a i v) = am_K h := rfl
theorem am_N_sL (h : am_H) (a i : Nat) (v : Int64) : am_N (am_sL h a i v) = am_N h := rfl
theorem am_I_sL (h : am_H) (a i : Nat) (v : Int64) : am_I (am_sL h a i v) = am_I h := rfl
theorem am_R_sL (h : am_H) (a i : Nat) (v : Int64) : am_R (am_sL h a i v) = am_R h := rfl
theorem am_A_sL (h : am_H) (a i : Nat) (v : Int64) : am_A (am_sL h a i v) = am_A h := rfl
theorem am_B_sL (h : am_H) (a i : Nat) (v : Int64) : am_B (am_sL h a i v) = am_B h := rfl
theorem am_L_sL (h : am_H) (a i : Nat) (v : Int64) (j b : Nat) : am_L (am_sL h a i v) j b = if j = a ∧ b = i then v else am_L h j b := rfl
theorem am_K_nw (h : am_H) (a k n b : Nat) : am_K (am_nw h a k n) b = if b = a then k else am_K h b := rfl
theorem am_N_nw (h : am_H) (a k n b : Nat) : am_N (am_nw h a k n) b = if b = a then n else am_N h b := rfl
theorem am_I_nw (h : am_H) (a k n f b : Nat) : am_I (am_nw h a k n) f b = if b = a then 0 else am_I h f b := rfl
theorem am_R_nw (h : am_H) (a k n f b : Nat) : am_R (am_nw h a k n) f b = if b = a then none else am_R h f b := rfl
theorem am_A_nw (h : am_H) (a k n b i : Nat) : am_A (am_nw h a k n) b i = if b = a then 0 else am_A h b i := rfl
theorem am_B_nw (h : am_H) (a k n b i : Nat) : am_B (am_nw h a k n) b i = if b = a then none else am_B h b i := rfl
theorem am_L_nw (h : am_H) (a k n b i : Nat) : am_L (am_nw h a k n) b i = if b = a then 0 else am_L h b i := rfl

/-- the words: those of the tables that hold in every warmer state -/
def am_WS : List Cond := lw_tbl.filter goodWord
theorem am_ws {i : Nat} {w : Cond} (h : lw_tbl[i]? = some w) (g : goodWord w = true) : w ∈ am_WS := List.mem_filter.mpr ⟨List.mem_of_getElem? h, g⟩
/-- the classes whose objects are pictured; field k of class ci has the number 100 * ci + k -/
abbrev am_C : List vw_C := [(RX0, TX0, 4), (RX1, TX1, 14), (RX2, TX2, 7), (RX3, TX3, 4), (RX4, TX4, 9), (RX5, TX5, 35), (RJx4a65c, TJx4a65c, 3)]
def am_ty : Nat → Nat → FieldType := fun ci => match ci with
  | 0 => tyX0
  | 1 => tyX1
  | 2 => tyX2
  | 3 => tyX3
  | 4 => tyX4
  | 5 => tyX5
  | _ => tyJx4a65c
def am_isR : FieldType → Bool := fun t => match t with
  | .int => false
  | .boolean => false
  | _ => true
def am_V (h : am_H) (ci a k : Nat) : Value := match am_isR (am_ty ci k) with
  | true => va_rf (am_R h (100 * ci + k) a)
  | false => .int (am_I h (100 * ci + k) a)
abbrev am_tys (ac : Nat → ClassId) : List (ClassId × FieldType) := [(ac 0, .int), (ac 1, .boolean), (ac 2, .object "java/lang/Object"), (ac 3, .array .int), (ac 4, .long)]
/-- what the machine's heap has at a -/
def am_at (D : va_G) (ac : Nat → ClassId) (zc : Cell × Cell) (h : am_H) (H : Heap) (a : Nat) : Prop :=
  (am_K h a ≠ 0 → a < H.size) ∧
  (∀ (ci : Nat) (q : vw_C), am_K h a = ci + 1 → am_C[ci]? = some q → t_OB a (D.1 ci) q.2.2 (D.2 ci) H (am_V h ci a)) ∧
  (am_K h a = 11 → H[a]? = some (vp_cell (ac 0) (am_N h a, .inl (am_A h a)))) ∧
  (am_K h a = 12 → H[a]? = some (vp_cell (ac 1) (am_N h a, .inl (am_A h a)))) ∧
  (am_K h a = 13 → H[a]? = some (vp_cell (ac 2) (am_N h a, .inr (.inr (.inr (.inr (am_B h a))))))) ∧
  (am_K h a = 14 → H[a]? = some (vp_cell (ac 3) (am_N h a, .inr (.inr (.inr (.inr (am_B h a))))))) ∧
  (am_K h a = 15 → H[a]? = some (vp_cell (ac 4) (am_N h a, .inr (.inl (am_L h a))))) ∧
  (am_K h a = 16 → H[a]? = some zc.1 ∧ zc.1.slots.size = am_N h a) ∧
  (am_K h a = 17 → H[a]? = some zc.2 ∧ zc.2.slots.size = am_N h a ∧ ∀ j : Nat, j < am_N h a → zc.2.slots[j]? = some (.int (am_A h a j)))
def am_Rep (D : va_G) (ac : Nat → ClassId) (zc : Cell × Cell) (h : am_H) (H : Heap) : Prop := ∀ a : Nat, am_at D ac zc h H a
/-- h and h' say the same of b -/
def am_same (h h' : am_H) (b : Nat) : Prop := am_K h' b = am_K h b ∧ am_N h' b = am_N h b ∧ (∀ f, am_I h' f b = am_I h f b) ∧ (∀ f, am_R h' f b = am_R h f b) ∧ am_A h' b = am_A h b ∧ am_B h' b = am_B h b ∧ am_L h' b = am_L h b
theorem am_at.kept {D : va_G} {ac : Nat → ClassId} {zc : Cell × Cell} {h h' : am_H} {H H' : Heap} {b : Nat} (p : am_at D ac zc h H b) (e : am_same h h' b) (eH : H'[b]? = H[b]?) (z : H.size ≤ H'.size) : am_at D ac zc h' H' b := by
  obtain ⟨e1, e2, e3, e4, e5, e6, e7⟩ := e
  obtain ⟨p0, p1, p2, p3, p4, p5, p6, p7, p8⟩ := p
  unfold am_at
  rw [e1, e2, e5, e6, e7, eH]
  refine ⟨fun q => Nat.lt_of_lt_of_le (p0 q) z, fun ci q hk hq => ?_, p2, p3, p4, p5, p6, p7, p8⟩
  have hv : am_V h' ci b = am_V h ci b := funext fun k => by unfold am_V; rw [e3, e4]
  rw [hv]
  exact (p1 ci q hk hq).kept eH
/-- since h0, kinds and lengths stay, and what is new lies from sz on -/
def am_Ext (h0 h : am_H) (sz : Nat) : Prop := ∀ a : Nat, (am_K h0 a ≠ 0 → am_K h a = am_K h0 a ∧ am_N h a = am_N h0 a) ∧ (am_K h0 a = 0 → am_K h a ≠ 0 → sz ≤ a)
theorem am_Ext.rf {h : am_H} {sz : Nat} : am_Ext h h sz := fun _ => ⟨fun _ => ⟨rfl, rfl⟩, fun h1 h2 => absurd h1 h2⟩
theorem am_Ext.tr {h0 h1 h2 : am_H} {sz sz1 : Nat} (p : am_Ext h0 h1 sz) (q : am_Ext h1 h2 sz1) (hz : sz ≤ sz1) : am_Ext h0 h2 sz := by
  intro a
  obtain ⟨p1, p2⟩ := p a
  obtain ⟨q1, q2⟩ := q a
  refine ⟨fun z => ?_, fun z y => ?_⟩
  · obtain ⟨a1, a2⟩ := p1 z
    obtain ⟨b1, b2⟩ := q1 (by rw [a1]; exact z)
    exact ⟨b1.trans a1, b2.trans a2⟩
  · by_cases x : am_K h1 a = 0
    · exact Nat.le_trans hz (q2 x y)
    · exact p2 z x
/-- the cells that a method may write -/
def am_W (h0 : am_H) (sz : Nat) : Nat → Prop := fun q => (am_K h0 q ≠ 0 ∧ am_K h0 q < 16) ∨ sz ≤ q
theorem am_Ext.in {h0 h : am_H} {sz a : Nat} (p : am_Ext h0 h sz) (hk : am_K h a ≠ 0 ∧ am_K h a < 16) : am_W h0 sz a := by
  by_cases x : am_K h0 a = 0
  · exact Or.inr ((p a).2 x hk.1)
  · exact Or.inl ⟨x, by rw [← ((p a).1 x).1]; exact hk.2⟩
/-- what else must stay for throws: two statics of Throwable -/
def am_Z (A : Nat → Prop) (U : State) (H : Heap) : Prop := vx_Zq Bundle.tN "UNASSIGNED_STACK" Bundle.steD A U H ∧ vx_Zq Bundle.tN "SUPPRESSED_SENTINEL" Bundle.listD A U H
/-- words that hold in every warmer state, but aren't among those of calls: castable, declares .. -/
def am_WF : List Cond := lw_tbl.filter (fun w => w.onTables && w.keepsFace)
theorem am_wf {i : Nat} {w : Cond} (h : lw_tbl[i]? = some w) (g : (w.onTables && w.keepsFace) = true) : w ∈ am_WF := List.mem_filter.mpr ⟨List.mem_of_getElem? h, g⟩
def am_nN : Cond := .methodLinkNest RX4 18 yX2_init "PipewrightExchange"
def am_nB : Cond := .methodLinkNest RX1 15 yX0_init "PipewrightExchange"
/-- the text constants of the class -/
def am_strs : List (Nat × String) := [(52, "tank or need is out of range"), (63, "there are 8 districts"), (81, "no such district"), (84, "a pipe to where it comes from, or limit is out of range"), (89, "there are 24 pipes, or all is FLOWING"), (94, "units is out of range"), (96, "all is FLOWING"), (101, "need is out of range"), (110, "price or units is out of range"), (124, "no BIDDING, or the price is below that of the bid that stands"), (132, "no BIDDING"), (146, "no such pipe"), (151, "it has burst"), (156, "it has not burst, or all is FLOWING"), (158, "there is BIDDING, or the hour would be above 1000"), (196, "what is out of range"), (206, "set is below 0, or has a district that there is not")]
def am_T (U : State) : Prop := (∀ w ∈ am_WF, va_Nw w U) ∧ va_Nw am_nN U ∧ va_Nw am_nB U ∧ (∀ q ∈ am_strs, ∃ sa, vk_R RX4 q.1 q.2 sa U) ∧ va_AO "java/lang/Object" U ∧ va_AOA .int U
abbrev am_X : Type := Program × Launch × Env × Room × State × MethodId × Array Value × List Frame × Method × Code × am_H × va_G × (Nat → ClassId) × Cell × Cell
/-- what doesn't change in a method -/
def am_Cx (p : Program) (l : Launch) (s : State) (m : MethodId) (args : Array Value) (meth : Method) (c : Code) (own nm : String) (cc : ByteArray) (nL : Nat) (ret : Option FieldType) (h0 : am_H) (D : va_G) (ac : Nat → ClassId) (zc : Cell × Cell) : Prop :=
  p.tables.exec = Jvm.exec ∧ c.code = cc ∧ c.maxLocals = nL ∧ meth.sig.returnType = ret ∧ meth.locks = false ∧ s.vm.findClass own = some m.cls ∧ (∀ w ∈ am_WS, w.before args s = true) ∧ va_K D am_C (am_tys ac) s ∧ l.stackTraces = false ∧ am_Z (am_W h0 s.heap.size) s s.heap ∧ meth.name = nm ∧ am_T s ∧ s.isArrayOf zc.1 (.object "java/lang/Object") ∧ s.isArrayOf zc.2 .int ∧ zc.1.vm ≠ .unknown ∧ zc.2.vm ≠ .unknown
def am_G (k : am_X) (own nm : String) (cc : ByteArray) (nL : Nat) (ret : Option FieldType) (cells slots : Nat) (Q : State → Prop) (pc : Nat) (ls : List (Nat × Value)) (st : List Value) (h : am_H) : Prop :=
  match k with
  | (p, l, e, R, s, m, args, below, meth, c, h0, D, ac, zc) => am_Cx p l s m args meth c own nm cc nL ret h0 D ac zc →
    ∀ (H : Heap) (locs : List Loc) (la : Array Slot), am_Rep D ac zc h H → am_Ext h0 h s.heap.size → va_S (am_W h0 s.heap.size) s.heap H locs → lv_has la nL ls →
      W p l e R s m args below meth c H locs cells slots Q (F0 m pc la st)
def am_lk : List (Nat × Value) → Nat → Option Value
  | [], _ => none
  | q :: r, i => bif Nat.beq q.1 i then some q.2 else am_lk r i
theorem am_lk_mem : ∀ {ls : List (Nat × Value)} {i : Nat} {v : Value}, am_lk ls i = some v → (i, v) ∈ ls
  | [], _, _, h => by cases h
  | q :: r, i, v, h => by
    unfold am_lk at h
    cases hb : Nat.beq q.1 i with
    | true =>
      rw [hb] at h
      obtain ⟨a, b⟩ := q
      have h1 : a = i := Nat.eq_of_beq_eq_true hb
      have h2 : b = v := Option.some.inj h
      rw [← h1, ← h2]
      exact List.mem_cons_self
    | false =>
      rw [hb] at h
      exact List.mem_cons_of_mem _ (am_lk_mem h)
theorem am_lv {la : Array Slot} {nL : Nat} {ls : List (Nat × Value)} (h : lv_has la nL ls) {i : Nat} {v : Value} (hv : am_lk ls i = some v) : la[i]? = some (.val v) := h.2.2 _ (am_lk_mem hv)
def am_dl (i : Nat) : List (Nat × Value) → List (Nat × Value)
  | [] => []
  | q :: r => bif Nat.beq q.1 i then am_dl i r else q :: am_dl i r
theorem am_dl_mem : ∀ {ls : List (Nat × Value)} {i : Nat} {q : Nat × Value}, q ∈ am_dl i ls → q ∈ ls ∧ q.1 ≠ i
  | [], _, _, h => by cases h
  | x :: r, i, q, h => by
    unfold am_dl at h
    cases hb : Nat.beq x.1 i with
    | true =>
      rw [hb] at h
      exact ⟨List.mem_cons_of_mem _ (am_dl_mem h).1, (am_dl_mem h).2⟩
    | false =>
      rw [hb] at h
      rcases List.mem_cons.mp h with h1 | h1
      · subst h1
        exact ⟨List.mem_cons_self, fun z => by rw [z, Nat.beq_refl] at hb; cases hb⟩
      · exact ⟨List.mem_cons_of_mem _ (am_dl_mem h1).1, (am_dl_mem h1).2⟩
/-- no value of two slots lies in these locals -/
def am_1 (ls : List (Nat × Value)) : Prop := (ls.all fun q => Nat.beq q.2.category 1) = true
theorem am_1.at {ls : List (Nat × Value)} (h : am_1 ls) (q : Nat × Value) (hq : q ∈ ls) : q.2.category = 1 := Nat.eq_of_beq_eq_true (List.all_eq_true.mp h q hq)
def am_ok : List (Nat × Value) → List (Nat × Value) → Prop
  | [], _ => True
  | q :: r, ls => am_lk ls q.1 = some q.2 ∧ am_ok r ls
theorem am_sub {la : Array Slot} {nL : Nat} {ls : List (Nat × Value)} (h : lv_has la nL ls) : ∀ {ls' : List (Nat × Value)}, am_ok ls' ls → lv_has la nL ls'
  | [], _ => ⟨h.1, h.2.1, fun _ hq => by cases hq⟩
  | q :: r, hk => ⟨h.1, h.2.1, fun x hx => by
    rcases List.mem_cons.mp hx with h1 | h1
    · subst h1
      exact am_lv h hk.1
    · exact (am_sub h hk.2).2.2 x h1⟩
section AMR
variable {k : am_X} {own nm : String} {cc : ByteArray} {nL : Nat} {ret : Option FieldType} {cells slots : Nat} {Q : State → Prop} {pc : Nat} {ls : List (Nat × Value)} {st : List Value} {h : am_H}
/-- fewer locals -/
theorem g_ls (ls' : List (Nat × Value)) (ho : am_ok ls' ls) (kk : am_G k own nm cc nL ret cells slots Q pc ls' st h) : am_G k own nm cc nL ret cells slots Q pc ls st h := by
  obtain ⟨p, l, e, R, s, m, args, below, meth, c, h0, D, ac, zc⟩ := k
  intro hC H locs la hR hE hS hl
  exact kk hC H locs la hR hE hS (am_sub hl ho)
theorem g_widen (c' s' : Nat) (h1 : cells ≤ c') (h2 : slots ≤ s') (kk : am_G k own nm cc nL ret c' s' Q pc ls st h) : am_G k own nm cc nL ret cells slots Q pc ls st h := by
  obtain ⟨p, l, e, R, s, m, args, below, meth, c, h0, D, ac, zc⟩ := k
  intro hC H locs la hR hE hS hl
  exact W.widen h1 h2 (kk hC H locs la hR hE hS hl)

theorem g_iconst {n : Int} {v : Int32} (hd : decode cc pc = .ok (.iconst n, 1)) (hv : Int32.ofInt n = v) (kk : am_G k own nm cc nL ret cells slots Q (pc + 1) ls (.int v :: st) h) : am_G k own nm cc nL ret cells slots Q pc ls st h := by
  obtain ⟨p, l, e, R, s, m, args, below, meth, c, h0, D, ac, zc⟩ := k
  intro hC H locs la hR hE hS hl
  exact lv_iconst hC.1 hC.2.1 hd hv (kk hC H locs la hR hE hS hl)
theorem g_bipush {n : Int} {v : Int32} (hd : decode cc pc = .ok (.bipush n, 2)) (hv : (Int8.ofInt n).toInt32 = v) (kk : am_G k own nm cc nL ret cells slots Q (pc + 2) ls (.int v :: st) h) : am_G k own nm cc nL ret cells slots Q pc ls st h := by
  obtain ⟨p, l, e, R, s, m, args, below, meth, c, h0, D, ac, zc⟩ := k
  intro hC H locs la hR hE hS hl
  exact lv_bipush hC.1 hC.2.1 hd hv (kk hC H locs la hR hE hS hl)
theorem g_sipush {n : Int} {v : Int32} (hd : decode cc pc = .ok (.sipush n, 3)) (hv : (Int16.ofInt n).toInt32 = v) (kk : am_G k own nm cc nL ret cells slots Q (pc + 3) ls (.int v :: st) h) : am_G k own nm cc nL ret cells slots Q pc ls st h := by
  obtain ⟨p, l, e, R, s, m, args, below, meth, c, h0, D, ac, zc⟩ := k
  intro hC H locs la hR hE hS hl
  exact lv_sipush hC.1 hC.2.1 hd hv (kk hC H locs la hR hE hS hl)
theorem g_lconst {n : Fin 2} {v : Int64} (hd : decode cc pc = .ok (.lconst n, 1)) (hv : Int64.ofNat (n : Nat) = v) (kk : am_G k own nm cc nL ret cells slots Q (pc + 1) ls (.long v :: st) h) : am_G k own nm cc nL ret cells slots Q pc ls st h := by
  obtain ⟨p, l, e, R, s, m, args, below, meth, c, h0, D, ac, zc⟩ := k
  intro hC H locs la hR hE hS hl
  exact lv_lconst hC.1 hC.2.1 hd hv (kk hC H locs la hR hE hS hl)
theorem g_iload_n {i : Fin 4} {x : Int32} (hd : decode cc pc = .ok (.iload_n i, 1)) (hv : am_lk ls i.val = some (.int x)) (kk : am_G k own nm cc nL ret cells slots Q (pc + 1) ls (.int x :: st) h) : am_G k own nm cc nL ret cells slots Q pc ls st h := by
  obtain ⟨p, l, e, R, s, m, args, below, meth, c, h0, D, ac, zc⟩ := k
  intro hC H locs la hR hE hS hl
  exact lv_iload_n hC.1 hC.2.1 hd rfl (am_lv hl hv) (kk hC H locs la hR hE hS hl)
theorem g_iload {i : Nat} {x : Int32} (hd : decode cc pc = .ok (.iload i, 2)) (hv : am_lk ls i = some (.int x)) (kk : am_G k own nm cc nL ret cells slots Q (pc + 2) ls (.int x :: st) h) : am_G k own nm cc nL ret cells slots Q pc ls st h := by
  obtain ⟨p, l, e, R, s, m, args, below, meth, c, h0, D, ac, zc⟩ := k
  intro hC H locs la hR hE hS hl
  exact lv_iload hC.1 hC.2.1 hd (am_lv hl hv) (kk hC H locs la hR hE hS hl)
theorem g_aload_n {i : Fin 4} {x : Nat} (hd : decode cc pc = .ok (.aload_n i, 1)) (hv : am_lk ls i.val = some (.ref x)) (kk : am_G k own nm cc nL ret cells slots Q (pc + 1) ls (.ref x :: st) h) : am_G k own nm cc nL ret cells slots Q pc ls st h := by
  obtain ⟨p, l, e, R, s, m, args, below, meth, c, h0, D, ac, zc⟩ := k
  intro hC H locs la hR hE hS hl
  exact lv_aload_n hC.1 hC.2.1 hd rfl (am_lv hl hv) (kk hC H locs la hR hE hS hl)
theorem g_aload {i : Nat} {x : Nat} (hd : decode cc pc = .ok (.aload i, 2)) (hv : am_lk ls i = some (.ref x)) (kk : am_G k own nm cc nL ret cells slots Q (pc + 2) ls (.ref x :: st) h) : am_G k own nm cc nL ret cells slots Q pc ls st h := by
  obtain ⟨p, l, e, R, s, m, args, below, meth, c, h0, D, ac, zc⟩ := k
  intro hC H locs la hR hE hS hl
  exact lv_aload hC.1 hC.2.1 hd (am_lv hl hv) (kk hC H locs la hR hE hS hl)
theorem am_stv {la : Array Slot} {ls : List (Nat × Value)} {nL i : Nat} {v : Value} (h : lv_has la nL ls) (hi : i < nL) (hc : v.category = 1) : ∃ lv : List (Nat × Value), lv_has la nL lv ∧ (i, v) :: lv.filter (fun q => !(q.1 == i) && !(q.1 + 1 == i && q.2.category == 2)) = (i, v) :: lv ∧ lv = (am_dl i ls).filter (fun q => !(q.1 + 1 == i && q.2.category == 2)) := by
  refine ⟨_, ⟨h.1, h.2.1, fun q hq => h.2.2 q (am_dl_mem (List.mem_filter.mp hq).1).1⟩, ?_, rfl⟩
  congr 1
  rw [List.filter_eq_self]
  intro q hq
  obtain ⟨h1, h2⟩ := List.mem_filter.mp hq
  have h3 := (am_dl_mem h1).2
  rw [Bool.and_eq_true]
  exact ⟨by simp [h3], h2⟩
theorem am_dl1 {i : Nat} {ls : List (Nat × Value)} (h1 : am_1 ls) : (am_dl i ls).filter (fun q => !(q.1 + 1 == i && q.2.category == 2)) = am_dl i ls := by
  rw [List.filter_eq_self]
  intro q hq
  have := h1.at q (am_dl_mem hq).1
  simp [this]
theorem g_istore_n {i : Fin 4} {x : Int32} (hd : decode cc pc = .ok (.istore_n i, 1)) (hi : i.val < nL) (h1 : am_1 ls) (kk : am_G k own nm cc nL ret cells slots Q (pc + 1) ((i.val, .int x) :: am_dl i.val ls) st h) : am_G k own nm cc nL ret cells slots Q pc ls (.int x :: st) h := by
  obtain ⟨p, l, e, R, s, m, args, below, meth, c, h0, D, ac, zc⟩ := k
  intro hC H locs la hR hE hS hl
  obtain ⟨lv, q1, q2, q3⟩ := am_stv (v := .int x) hl hi rfl
  refine lv_istore_n hC.1 hC.2.1 hd rfl q1 hi q2 (fun la' hl' => kk hC H locs la' hR hE hS ?_)
  rw [q3, am_dl1 h1] at hl'
  exact hl'
theorem g_istore {i : Nat} {x : Int32} (hd : decode cc pc = .ok (.istore i, 2)) (hi : i < nL) (h1 : am_1 ls) (kk : am_G k own nm cc nL ret cells slots Q (pc + 2) ((i, .int x) :: am_dl i ls) st h) : am_G k own nm cc nL ret cells slots Q pc ls (.int x :: st) h := by
  obtain ⟨p, l, e, R, s, m, args, below, meth, c, h0, D, ac, zc⟩ := k
  intro hC H locs la hR hE hS hl
  obtain ⟨lv, q1, q2, q3⟩ := am_stv (v := .int x) hl hi rfl
  refine lv_istore hC.1 hC.2.1 hd q1 hi q2 (fun la' hl' => kk hC H locs la' hR hE hS ?_)
  rw [q3, am_dl1 h1] at hl'
  exact hl'
theorem g_astore_n {i : Fin 4} {x : Nat} (hd : decode cc pc = .ok (.astore_n i, 1)) (hi : i.val < nL) (h1 : am_1 ls) (kk : am_G k own nm cc nL ret cells slots Q (pc + 1) ((i.val, .ref x) :: am_dl i.val ls) st h) : am_G k own nm cc nL ret cells slots Q pc ls (.ref x :: st) h := by
  obtain ⟨p, l, e, R, s, m, args, below, meth, c, h0, D, ac, zc⟩ := k
  intro hC H locs la hR hE hS hl
  obtain ⟨lv, q1, q2, q3⟩ := am_stv (v := .ref x) hl hi rfl
  refine lv_astore_n hC.1 hC.2.1 hd rfl q1 hi q2 (fun la' hl' => kk hC H locs la' hR hE hS ?_)
  rw [q3, am_dl1 h1] at hl'
  exact hl'
theorem g_astore {i : Nat} {x : Nat} (hd : decode cc pc = .ok (.astore i, 2)) (hi : i < nL) (h1 : am_1 ls) (kk : am_G k own nm cc nL ret cells slots Q (pc + 2) ((i, .ref x) :: am_dl i ls) st h) : am_G k own nm cc nL ret cells slots Q pc ls (.ref x :: st) h := by
  obtain ⟨p, l, e, R, s, m, args, below, meth, c, h0, D, ac, zc⟩ := k
  intro hC H locs la hR hE hS hl
  obtain ⟨lv, q1, q2, q3⟩ := am_stv (v := .ref x) hl hi rfl
  refine lv_astore hC.1 hC.2.1 hd q1 hi q2 (fun la' hl' => kk hC H locs la' hR hE hS ?_)
  rw [q3, am_dl1 h1] at hl'
  exact hl'
theorem g_iinc {i : Nat} {n : Int} {x v : Int32} (hd : decode cc pc = .ok (.iinc i n, 3)) (hx : am_lk ls i = some (.int x)) (hv : x + Int32.ofInt n = v) (hi : i < nL) (h1 : am_1 ls) (kk : am_G k own nm cc nL ret cells slots Q (pc + 3) ((i, .int v) :: am_dl i ls) st h) : am_G k own nm cc nL ret cells slots Q pc ls st h := by
  obtain ⟨p, l, e, R, s, m, args, below, meth, c, h0, D, ac, zc⟩ := k
  intro hC H locs la hR hE hS hl
  have hq : lv_has la nL ((i, .int x) :: am_dl i ls) := ⟨hl.1, hl.2.1, fun q hq => by
    rcases List.mem_cons.mp hq with z | z
    · subst z
      exact am_lv hl hx
    · exact hl.2.2 q (am_dl_mem z).1⟩
  refine lv_iinc (k := 0) (lv' := (i, .int v) :: am_dl i ls) hC.1 hC.2.1 hd hq rfl hv hi ?_ (fun la' hl' => kk hC H locs la' hR hE hS hl')
  congr 1
  rw [List.filter_cons_of_neg (by simp), List.filter_eq_self]
  intro q hq
  obtain ⟨z1, z2⟩ := am_dl_mem hq
  simp [z2, h1.at q z1]
theorem g_iadd {x y : Int32} (hd : decode cc pc = .ok (.iadd, 1)) (kk : am_G k own nm cc nL ret cells slots Q (pc + 1) ls (.int (x + y) :: st) h) : am_G k own nm cc nL ret cells slots Q pc ls (.int y :: .int x :: st) h := by
  obtain ⟨p, l, e, R, s, m, args, below, meth, c, h0, D, ac, zc⟩ := k
  intro hC H locs la hR hE hS hl
  exact lv_iadd hC.1 hC.2.1 hd (kk hC H locs la hR hE hS hl)
theorem g_isub {x y : Int32} (hd : decode cc pc = .ok (.isub, 1)) (kk : am_G k own nm cc nL ret cells slots Q (pc + 1) ls (.int (x - y) :: st) h) : am_G k own nm cc nL ret cells slots Q pc ls (.int y :: .int x :: st) h := by
  obtain ⟨p, l, e, R, s, m, args, below, meth, c, h0, D, ac, zc⟩ := k
  intro hC H locs la hR hE hS hl
  exact lv_isub hC.1 hC.2.1 hd (kk hC H locs la hR hE hS hl)
theorem g_imul {x y : Int32} (hd : decode cc pc = .ok (.imul, 1)) (kk : am_G k own nm cc nL ret cells slots Q (pc + 1) ls (.int (x * y) :: st) h) : am_G k own nm cc nL ret cells slots Q pc ls (.int y :: .int x :: st) h := by
  obtain ⟨p, l, e, R, s, m, args, below, meth, c, h0, D, ac, zc⟩ := k
  intro hC H locs la hR hE hS hl
  exact lv_imul hC.1 hC.2.1 hd (kk hC H locs la hR hE hS hl)
theorem g_iand {x y : Int32} (hd : decode cc pc = .ok (.iand, 1)) (kk : am_G k own nm cc nL ret cells slots Q (pc + 1) ls (.int (x &&& y) :: st) h) : am_G k own nm cc nL ret cells slots Q pc ls (.int y :: .int x :: st) h := by
  obtain ⟨p, l, e, R, s, m, args, below, meth, c, h0, D, ac, zc⟩ := k
  intro hC H locs la hR hE hS hl
  exact lv_iand hC.1 hC.2.1 hd (kk hC H locs la hR hE hS hl)
theorem g_ishl {x y : Int32} (hd : decode cc pc = .ok (.ishl, 1)) (kk : am_G k own nm cc nL ret cells slots Q (pc + 1) ls (.int (x <<< (y &&& 31)) :: st) h) : am_G k own nm cc nL ret cells slots Q pc ls (.int y :: .int x :: st) h := by
  obtain ⟨p, l, e, R, s, m, args, below, meth, c, h0, D, ac, zc⟩ := k
  intro hC H locs la hR hE hS hl
  exact lv_ishl hC.1 hC.2.1 hd (kk hC H locs la hR hE hS hl)
theorem g_ishr {x y : Int32} (hd : decode cc pc = .ok (.ishr, 1)) (kk : am_G k own nm cc nL ret cells slots Q (pc + 1) ls (.int (x >>> (y &&& 31)) :: st) h) : am_G k own nm cc nL ret cells slots Q pc ls (.int y :: .int x :: st) h := by
  obtain ⟨p, l, e, R, s, m, args, below, meth, c, h0, D, ac, zc⟩ := k
  intro hC H locs la hR hE hS hl
  exact lv_ishr hC.1 hC.2.1 hd (kk hC H locs la hR hE hS hl)
theorem g_idiv {x y : Int32} (hd : decode cc pc = .ok (.idiv, 1)) (hne : ¬ y = 0) (kk : am_G k own nm cc nL ret cells slots Q (pc + 1) ls (.int (x / y) :: st) h) : am_G k own nm cc nL ret cells slots Q pc ls (.int y :: .int x :: st) h := by
  obtain ⟨p, l, e, R, s, m, args, below, meth, c, h0, D, ac, zc⟩ := k
  intro hC H locs la hR hE hS hl
  exact lv_idiv hC.1 hC.2.1 hd hne (kk hC H locs la hR hE hS hl)
theorem g_irem {x y : Int32} (hd : decode cc pc = .ok (.irem, 1)) (hne : ¬ y = 0) (kk : am_G k own nm cc nL ret cells slots Q (pc + 1) ls (.int (x - x / y * y) :: st) h) : am_G k own nm cc nL ret cells slots Q pc ls (.int y :: .int x :: st) h := by
  obtain ⟨p, l, e, R, s, m, args, below, meth, c, h0, D, ac, zc⟩ := k
  intro hC H locs la hR hE hS hl
  exact lv_irem hC.1 hC.2.1 hd hne (kk hC H locs la hR hE hS hl)
theorem g_ineg {x : Int32} (hd : decode cc pc = .ok (.ineg, 1)) (kk : am_G k own nm cc nL ret cells slots Q (pc + 1) ls (.int (-x) :: st) h) : am_G k own nm cc nL ret cells slots Q pc ls (.int x :: st) h := by
  obtain ⟨p, l, e, R, s, m, args, below, meth, c, h0, D, ac, zc⟩ := k
  intro hC H locs la hR hE hS hl
  exact lv_ineg hC.1 hC.2.1 hd (kk hC H locs la hR hE hS hl)
theorem g_i2l {x : Int32} {v : Int64} (hd : decode cc pc = .ok (.i2l, 1)) (hv : x.toInt64 = v) (kk : am_G k own nm cc nL ret cells slots Q (pc + 1) ls (.long v :: st) h) : am_G k own nm cc nL ret cells slots Q pc ls (.int x :: st) h := by
  obtain ⟨p, l, e, R, s, m, args, below, meth, c, h0, D, ac, zc⟩ := k
  intro hC H locs la hR hE hS hl
  exact lv_i2l hC.1 hC.2.1 hd hv (kk hC H locs la hR hE hS hl)
theorem g_lcmp {x y : Int64} (hd : decode cc pc = .ok (.lcmp, 1)) (kk : am_G k own nm cc nL ret cells slots Q (pc + 1) ls (.int (lg_cmp x y) :: st) h) : am_G k own nm cc nL ret cells slots Q pc ls (.long y :: .long x :: st) h := by
  obtain ⟨p, l, e, R, s, m, args, below, meth, c, h0, D, ac, zc⟩ := k
  intro hC H locs la hR hE hS hl
  exact W.lcmp hC.1 hC.2.1 hd (kk hC H locs la hR hE hS hl)
theorem g_dup {v : Value} (hd : decode cc pc = .ok (.dup, 1)) (hc : v.category = 1) (kk : am_G k own nm cc nL ret cells slots Q (pc + 1) ls (v :: v :: st) h) : am_G k own nm cc nL ret cells slots Q pc ls (v :: st) h := by
  obtain ⟨p, l, e, R, s, m, args, below, meth, c, h0, D, ac, zc⟩ := k
  intro hC H locs la hR hE hS hl
  exact lv_dup hC.1 hC.2.1 hd hc (kk hC H locs la hR hE hS hl)
theorem g_pop {v : Value} (hd : decode cc pc = .ok (.pop, 1)) (hc : v.category = 1) (kk : am_G k own nm cc nL ret cells slots Q (pc + 1) ls st h) : am_G k own nm cc nL ret cells slots Q pc ls (v :: st) h := by
  obtain ⟨p, l, e, R, s, m, args, below, meth, c, h0, D, ac, zc⟩ := k
  intro hC H locs la hR hE hS hl
  exact lv_pop hC.1 hC.2.1 hd hc (kk hC H locs la hR hE hS hl)
theorem g_dup2 {v u : Value} (hd : decode cc pc = .ok (.dup2, 1)) (hc : v.category = 1) (hc2 : u.category = 1) (kk : am_G k own nm cc nL ret cells slots Q (pc + 1) ls (v :: u :: v :: u :: st) h) : am_G k own nm cc nL ret cells slots Q pc ls (v :: u :: st) h := by
  obtain ⟨p, l, e, R, s, m, args, below, meth, c, h0, D, ac, zc⟩ := k
  intro hC H locs la hR hE hS hl
  exact lv_dup2_11 hC.1 hC.2.1 hd hc hc2 (kk hC H locs la hR hE hS hl)
theorem g_dup_x1 {v u : Value} (hd : decode cc pc = .ok (.dup_x1, 1)) (hc : v.category = 1) (hc2 : u.category = 1) (kk : am_G k own nm cc nL ret cells slots Q (pc + 1) ls (v :: u :: v :: st) h) : am_G k own nm cc nL ret cells slots Q pc ls (v :: u :: st) h := by
  obtain ⟨p, l, e, R, s, m, args, below, meth, c, h0, D, ac, zc⟩ := k
  intro hC H locs la hR hE hS hl
  exact lv_dup_x1 hC.1 hC.2.1 hd hc hc2 (kk hC H locs la hR hE hS hl)
theorem g_goto {off : Int} (tgt : Nat) (hd : decode cc pc = .ok (.goto off, 3)) (ht : (pc : Int) + off = (tgt : Int)) (kk : am_G k own nm cc nL ret cells slots Q tgt ls st h) : am_G k own nm cc nL ret cells slots Q pc ls st h := by
  obtain ⟨p, l, e, R, s, m, args, below, meth, c, h0, D, ac, zc⟩ := k
  intro hC H locs la hR hE hS hl
  exact lv_goto hC.1 hC.2.1 hd ht (kk hC H locs la hR hE hS hl)
theorem g_if_eq {x : Int32} {off : Int} (tgt : Nat) (hd : decode cc pc = .ok (.ifCond .eq off, 3)) (ht : (pc : Int) + off = (tgt : Int)) (kt : x = 0 → am_G k own nm cc nL ret cells slots Q tgt ls st h) (kf : ¬ x = 0 → am_G k own nm cc nL ret cells slots Q (pc + 3) ls st h) : am_G k own nm cc nL ret cells slots Q pc ls (.int x :: st) h := by
  obtain ⟨p, l, e, R, s, m, args, below, meth, c, h0, D, ac, zc⟩ := k
  intro hC H locs la hR hE hS hl
  exact lv_if_eq hC.1 hC.2.1 hd ht (fun z => kt z hC H locs la hR hE hS hl) (fun z => kf z hC H locs la hR hE hS hl)
theorem g_icmp_eq {x y : Int32} {off : Int} (tgt : Nat) (hd : decode cc pc = .ok (.if_icmp .eq off, 3)) (ht : (pc : Int) + off = (tgt : Int)) (kt : x = y → am_G k own nm cc nL ret cells slots Q tgt ls st h) (kf : ¬ x = y → am_G k own nm cc nL ret cells slots Q (pc + 3) ls st h) : am_G k own nm cc nL ret cells slots Q pc ls (.int y :: .int x :: st) h := by
  obtain ⟨p, l, e, R, s, m, args, below, meth, c, h0, D, ac, zc⟩ := k
  intro hC H locs la hR hE hS hl
  exact lv_icmp_eq hC.1 hC.2.1 hd ht (fun z => kt z hC H locs la hR hE hS hl) (fun z => kf z hC H locs la hR hE hS hl)
theorem g_if_ne {x : Int32} {off : Int} (tgt : Nat) (hd : decode cc pc = .ok (.ifCond .ne off, 3)) (ht : (pc : Int) + off = (tgt : Int)) (kt : ¬ x = 0 → am_G k own nm cc nL ret cells slots Q tgt ls st h) (kf : x = 0 → am_G k own nm cc nL ret cells slots Q (pc + 3) ls st h) : am_G k own nm cc nL ret cells slots Q pc ls (.int x :: st) h := by
  obtain ⟨p, l, e, R, s, m, args, below, meth, c, h0, D, ac, zc⟩ := k
  intro hC H locs la hR hE hS hl
  exact lv_if_ne hC.1 hC.2.1 hd ht (fun z => kt z hC H locs la hR hE hS hl) (fun z => kf z hC H locs la hR hE hS hl)
theorem g_icmp_ne {x y : Int32} {off : Int} (tgt : Nat) (hd : decode cc pc = .ok (.if_icmp .ne off, 3)) (ht : (pc : Int) + off = (tgt : Int)) (kt : ¬ x = y → am_G k own nm cc nL ret cells slots Q tgt ls st h) (kf : x = y → am_G k own nm cc nL ret cells slots Q (pc + 3) ls st h) : am_G k own nm cc nL ret cells slots Q pc ls (.int y :: .int x :: st) h := by
  obtain ⟨p, l, e, R, s, m, args, below, meth, c, h0, D, ac, zc⟩ := k
  intro hC H locs la hR hE hS hl
  exact lv_icmp_ne hC.1 hC.2.1 hd ht (fun z => kt z hC H locs la hR hE hS hl) (fun z => kf z hC H locs la hR hE hS hl)
theorem g_if_lt {x : Int32} {off : Int} (tgt : Nat) (hd : decode cc pc = .ok (.ifCond .lt off, 3)) (ht : (pc : Int) + off = (tgt : Int)) (kt : x < 0 → am_G k own nm cc nL ret cells slots Q tgt ls st h) (kf : ¬ x < 0 → am_G k own nm cc nL ret cells slots Q (pc + 3) ls st h) : am_G k own nm cc nL ret cells slots Q pc ls (.int x :: st) h := by
  obtain ⟨p, l, e, R, s, m, args, below, meth, c, h0, D, ac, zc⟩ := k
  intro hC H locs la hR hE hS hl
  exact lv_if_lt hC.1 hC.2.1 hd ht (fun z => kt z hC H locs la hR hE hS hl) (fun z => kf z hC H locs la hR hE hS hl)
theorem g_icmp_lt {x y : Int32} {off : Int} (tgt : Nat) (hd : decode cc pc = .ok (.if_icmp .lt off, 3)) (ht : (pc : Int) + off = (tgt : Int)) (kt : x < y → am_G k own nm cc nL ret cells slots Q tgt ls st h) (kf : ¬ x < y → am_G k own nm cc nL ret cells slots Q (pc + 3) ls st h) : am_G k own nm cc nL ret cells slots Q pc ls (.int y :: .int x :: st) h := by
  obtain ⟨p, l, e, R, s, m, args, below, meth, c, h0, D, ac, zc⟩ := k
  intro hC H locs la hR hE hS hl
  exact lv_icmp_lt hC.1 hC.2.1 hd ht (fun z => kt z hC H locs la hR hE hS hl) (fun z => kf z hC H locs la hR hE hS hl)
theorem g_if_ge {x : Int32} {off : Int} (tgt : Nat) (hd : decode cc pc = .ok (.ifCond .ge off, 3)) (ht : (pc : Int) + off = (tgt : Int)) (kt : 0 ≤ x → am_G k own nm cc nL ret cells slots Q tgt ls st h) (kf : ¬ 0 ≤ x → am_G k own nm cc nL ret cells slots Q (pc + 3) ls st h) : am_G k own nm cc nL ret cells slots Q pc ls (.int x :: st) h := by
  obtain ⟨p, l, e, R, s, m, args, below, meth, c, h0, D, ac, zc⟩ := k
  intro hC H locs la hR hE hS hl
  exact lv_if_ge hC.1 hC.2.1 hd ht (fun z => kt z hC H locs la hR hE hS hl) (fun z => kf z hC H locs la hR hE hS hl)
theorem g_icmp_ge {x y : Int32} {off : Int} (tgt : Nat) (hd : decode cc pc = .ok (.if_icmp .ge off, 3)) (ht : (pc : Int) + off = (tgt : Int)) (kt : y ≤ x → am_G k own nm cc nL ret cells slots Q tgt ls st h) (kf : ¬ y ≤ x → am_G k own nm cc nL ret cells slots Q (pc + 3) ls st h) : am_G k own nm cc nL ret cells slots Q pc ls (.int y :: .int x :: st) h := by
  obtain ⟨p, l, e, R, s, m, args, below, meth, c, h0, D, ac, zc⟩ := k
  intro hC H locs la hR hE hS hl
  exact lv_icmp_ge hC.1 hC.2.1 hd ht (fun z => kt z hC H locs la hR hE hS hl) (fun z => kf z hC H locs la hR hE hS hl)
theorem g_if_gt {x : Int32} {off : Int} (tgt : Nat) (hd : decode cc pc = .ok (.ifCond .gt off, 3)) (ht : (pc : Int) + off = (tgt : Int)) (kt : 0 < x → am_G k own nm cc nL ret cells slots Q tgt ls st h) (kf : ¬ 0 < x → am_G k own nm cc nL ret cells slots Q (pc + 3) ls st h) : am_G k own nm cc nL ret cells slots Q pc ls (.int x :: st) h := by
  obtain ⟨p, l, e, R, s, m, args, below, meth, c, h0, D, ac, zc⟩ := k
  intro hC H locs la hR hE hS hl
  exact lv_if_gt hC.1 hC.2.1 hd ht (fun z => kt z hC H locs la hR hE hS hl) (fun z => kf z hC H locs la hR hE hS hl)
theorem g_icmp_gt {x y : Int32} {off : Int} (tgt : Nat) (hd : decode cc pc = .ok (.if_icmp .gt off, 3)) (ht : (pc : Int) + off = (tgt : Int)) (kt : y < x → am_G k own nm cc nL ret cells slots Q tgt ls st h) (kf : ¬ y < x → am_G k own nm cc nL ret cells slots Q (pc + 3) ls st h) : am_G k own nm cc nL ret cells slots Q pc ls (.int y :: .int x :: st) h := by
  obtain ⟨p, l, e, R, s, m, args, below, meth, c, h0, D, ac, zc⟩ := k
  intro hC H locs la hR hE hS hl
  exact lv_icmp_gt hC.1 hC.2.1 hd ht (fun z => kt z hC H locs la hR hE hS hl) (fun z => kf z hC H locs la hR hE hS hl)
theorem g_if_le {x : Int32} {off : Int} (tgt : Nat) (hd : decode cc pc = .ok (.ifCond .le off, 3)) (ht : (pc : Int) + off = (tgt : Int)) (kt : x ≤ 0 → am_G k own nm cc nL ret cells slots Q tgt ls st h) (kf : ¬ x ≤ 0 → am_G k own nm cc nL ret cells slots Q (pc + 3) ls st h) : am_G k own nm cc nL ret cells slots Q pc ls (.int x :: st) h := by
  obtain ⟨p, l, e, R, s, m, args, below, meth, c, h0, D, ac, zc⟩ := k
  intro hC H locs la hR hE hS hl
  exact lv_if_le hC.1 hC.2.1 hd ht (fun z => kt z hC H locs la hR hE hS hl) (fun z => kf z hC H locs la hR hE hS hl)
theorem g_icmp_le {x y : Int32} {off : Int} (tgt : Nat) (hd : decode cc pc = .ok (.if_icmp .le off, 3)) (ht : (pc : Int) + off = (tgt : Int)) (kt : x ≤ y → am_G k own nm cc nL ret cells slots Q tgt ls st h) (kf : ¬ x ≤ y → am_G k own nm cc nL ret cells slots Q (pc + 3) ls st h) : am_G k own nm cc nL ret cells slots Q pc ls (.int y :: .int x :: st) h := by
  obtain ⟨p, l, e, R, s, m, args, below, meth, c, h0, D, ac, zc⟩ := k
  intro hC H locs la hR hE hS hl
  exact lv_icmp_le hC.1 hC.2.1 hd ht (fun z => kt z hC H locs la hR hE hS hl) (fun z => kf z hC H locs la hR hE hS hl)
theorem g_acmp_ne {x y : Option Nat} {off : Int} (tgt : Nat) (hd : decode cc pc = .ok (.if_acmp .ne off, 3)) (ht : (pc : Int) + off = (tgt : Int)) (kt : ¬ x = y → am_G k own nm cc nL ret cells slots Q tgt ls st h) (kf : x = y → am_G k own nm cc nL ret cells slots Q (pc + 3) ls st h) : am_G k own nm cc nL ret cells slots Q pc ls (va_rf y :: va_rf x :: st) h := by
  obtain ⟨p, l, e, R, s, m, args, below, meth, c, h0, D, ac, zc⟩ := k
  intro hC H locs la hR hE hS hl
  exact lv_acmp_ne hC.1 hC.2.1 hd ht (fun z => kt z hC H locs la hR hE hS hl) (fun z => kf z hC H locs la hR hE hS hl)
theorem g_tableOut {dflt lo hi : Int} {offs : Array Int} {len : Nat} {x : Int32} (tgt : Nat) (hd : decode cc pc = .ok (.tableswitch dflt lo hi offs, len)) (hx : x.toInt < lo ∨ hi < x.toInt) (ht : (pc : Int) + dflt = (tgt : Int)) (kk : am_G k own nm cc nL ret cells slots Q tgt ls st h) : am_G k own nm cc nL ret cells slots Q pc ls (.int x :: st) h := by
  obtain ⟨p, l, e, R, s, m, args, below, meth, c, h0, D, ac, zc⟩ := k
  intro hC H locs la hR hE hS hl
  exact lv_tableOut hC.1 hC.2.1 hd hx ht (kk hC H locs la hR hE hS hl)
theorem g_tableIn {dflt lo hi : Int} {offs : Array Int} {len : Nat} {x : Int32} {off : Int} (tgt : Nat) (hd : decode cc pc = .ok (.tableswitch dflt lo hi offs, len)) (h1 : ¬ x.toInt < lo) (h2 : ¬ hi < x.toInt) (ho : offs[(x.toInt - lo).toNat]? = some off) (ht : (pc : Int) + off = (tgt : Int)) (kk : am_G k own nm cc nL ret cells slots Q tgt ls st h) : am_G k own nm cc nL ret cells slots Q pc ls (.int x :: st) h := by
  obtain ⟨p, l, e, R, s, m, args, below, meth, c, h0, D, ac, zc⟩ := k
  intro hC H locs la hR hE hS hl
  exact lv_tableIn hC.1 hC.2.1 hd h1 h2 ho ht (kk hC H locs la hR hE hS hl)
end AMR
end
section
/-- the instruction at 'index' of class own speaks of field kf of class ci, whose number is f -/
def am_fl (own : String) (index ci kf f : Nat) : Prop := f = 100 * ci + kf ∧ ∃ (q : vw_C) (ref : String), am_C[ci]? = some q ∧ kf < q.2.2 ∧ (∀ w ∈ u_ws q.1 q.2.1 q.2.2, w ∈ am_WS) ∧ (∀ k, k < q.2.2 → parseFieldDescriptor (q.2.1 k).2.2.1 = some (am_ty ci k)) ∧ (∀ a, a < q.2.2 → ∀ b, b < q.2.2 → a ≠ b → (q.2.1 a).2.1 ≠ (q.2.1 b).2.1) ∧
  Cond.fieldLink own index ref (q.2.1 kf).2.1 (q.2.1 kf).2.2.1 ∈ am_WS ∧ (ref = (q.2.1 kf).1 ∨ Cond.sameField ref (q.2.1 kf).1 (q.2.1 kf).2.1 (q.2.1 kf).2.2.1 ∈ am_WS)
theorem am_lt7 {ci : Nat} {q : vw_C} (h : am_C[ci]? = some q) : ci < 7 := (List.getElem?_eq_some_iff.mp h).1
theorem am_Rep.upd {D : va_G} {ac : Nat → ClassId} {zc : Cell × Cell} {h h' : am_H} {H H' : Heap} (hR : am_Rep D ac zc h H) (a : Nat) (hs : ∀ b, b ≠ a → am_same h h' b) (e3 : ∀ q : Nat, q ≠ a → H'[q]? = H[q]?) (z : H'.size = H.size) (ha : am_at D ac zc h' H' a) : am_Rep D ac zc h' H' := by
  intro b
  by_cases e : b = a
  · rw [e]; exact ha
  · exact (hR b).kept (hs b e) (e3 b e) (by rw [z]; exact Nat.le_refl _)
theorem am_same.rf {h : am_H} {b : Nat} : am_same h h b := ⟨rfl, rfl, fun _ => rfl, fun _ => rfl, rfl, rfl, rfl⟩
theorem am_same_sI {h : am_H} {f a : Nat} {v : Int32} {b : Nat} (e : b ≠ a) : am_same h (am_sI h f a v) b := ⟨rfl, rfl, fun g => by rw [am_I_sI, if_neg (fun z => e z.2)], fun _ => rfl, rfl, rfl, rfl⟩
theorem am_same_sR {h : am_H} {f a : Nat} {v : Option Nat} {b : Nat} (e : b ≠ a) : am_same h (am_sR h f a v) b := ⟨rfl, rfl, fun _ => rfl, fun g => by rw [am_R_sR, if_neg (fun z => e z.2)], rfl, rfl, rfl⟩
theorem am_same_sA {h : am_H} {a i : Nat} {v : Int32} {b : Nat} (e : b ≠ a) : am_same h (am_sA h a i v) b := ⟨rfl, rfl, fun _ => rfl, fun _ => rfl, funext fun g => by rw [am_A_sA, if_neg (fun z => e z.1)], rfl, rfl⟩
theorem am_same_sB {h : am_H} {a i : Nat} {v : Option Nat} {b : Nat} (e : b ≠ a) : am_same h (am_sB h a i v) b := ⟨rfl, rfl, fun _ => rfl, fun _ => rfl, rfl, funext fun g => by rw [am_B_sB, if_neg (fun z => e z.1)], rfl⟩
theorem am_same_sL {h : am_H} {a i : Nat} {v : Int64} {b : Nat} (e : b ≠ a) : am_same h (am_sL h a i v) b := ⟨rfl, rfl, fun _ => rfl, fun _ => rfl, rfl, rfl, funext fun g => by rw [am_L_sL, if_neg (fun z => e z.1)]⟩
theorem am_same_nw {h : am_H} {a k n : Nat} {b : Nat} (e : b ≠ a) : am_same h (am_nw h a k n) b := ⟨by rw [am_K_nw, if_neg e], by rw [am_N_nw, if_neg e], fun g => by rw [am_I_nw, if_neg e], fun g => by rw [am_R_nw, if_neg e], funext fun g => by rw [am_A_nw, if_neg e], funext fun g => by rw [am_B_nw, if_neg e], funext fun g => by rw [am_L_nw, if_neg e]⟩
/-- the picture of an object at a, from its own fields -/
theorem am_at_obj {D : va_G} {ac : Nat → ClassId} {zc : Cell × Cell} {h : am_H} {H : Heap} {a ci : Nat} {q : vw_C} (hq : am_C[ci]? = some q) (hk : am_K h a = ci + 1) (hlt : a < H.size) (ho : t_OB a (D.1 ci) q.2.2 (D.2 ci) H (am_V h ci a)) : am_at D ac zc h H a := by
  have h7 := am_lt7 hq
  refine ⟨fun _ => hlt, fun ci' q' e1 e2 => ?_, fun e => ?_, fun e => ?_, fun e => ?_, fun e => ?_, fun e => ?_, fun e => ?_, fun e => ?_⟩
  · have : ci' = ci := by omega
    subst this
    cases hq.symm.trans e2
    exact ho
  all_goals (exfalso; omega)
theorem am_Ext.k {h0 h h' : am_H} {sz : Nat} (p : am_Ext h0 h sz) (e1 : am_K h' = am_K h) (e2 : am_N h' = am_N h) : am_Ext h0 h' sz := by
  intro a
  rw [e1, e2]
  exact p a
section AMH
variable {k : am_X} {own nm : String} {cc : ByteArray} {nL : Nat} {ret : Option FieldType} {cells slots : Nat} {Q : State → Prop} {pc : Nat} {ls : List (Nat × Value)} {st : List Value} {h : am_H}
theorem g_get {index ci kf f a : Nat} (hd : decode cc pc = .ok (.getfield index, 3)) (hf : am_fl own index ci kf f) (ha : am_K h a = ci + 1) (kk : am_G k own nm cc nL ret cells slots Q (pc + 3) ls (am_V h ci a kf :: st) h) : am_G k own nm cc nL ret cells slots Q pc ls (.ref a :: st) h := by
  obtain ⟨p, l, e, R, s, m, args, below, meth, c, h0, D, ac, zc⟩ := k
  intro hC H locs la hR hE hS hl
  obtain ⟨-, q, ref, hq, hk, hw, -, -, hlk, hrf⟩ := hf
  obtain ⟨hx, hb, hml, hr, hlo, hown, hts, hK, -⟩ := id hC
  obtain ⟨cell, q1, q2, q3, q4⟩ := (hR a).2.1 ci q ha hq
  obtain ⟨hSl, hfc, kC, hkC, hkind⟩ := hK.1 ci q hq
  obtain ⟨cf, kf', fi, fd, hi, hsl⟩ := hSl kf hk
  have hsame : s.fieldFound? ref (q.2.1 kf).2.1 (q.2.1 kf).2.2.1 = some (cf, kf', fi, fd) := by
    rcases hrf with rfl | z
    · exact hi
    · exact u_same (hts _ z) _ hi
  refine W.getf hx hb hown (hts _ hlk) hsame (u_facts hfc hkC (u_lays hts hw hk) hi).1 q1 (by rw [q3]; exact fun h => by cases h) (v := am_V h ci a kf) ?_ rfl rfl hd (kk hC H locs la hR hE hS hl)
  rw [hsl, q4 kf hk]
theorem g_getI {index ci kf f a : Nat} (hd : decode cc pc = .ok (.getfield index, 3)) (hf : am_fl own index ci kf f) (ht : am_isR (am_ty ci kf) = false) (ha : am_K h a = ci + 1) (kk : am_G k own nm cc nL ret cells slots Q (pc + 3) ls (.int (am_I h f a) :: st) h) : am_G k own nm cc nL ret cells slots Q pc ls (.ref a :: st) h := by
  refine g_get hd hf ha ?_
  have : am_V h ci a kf = .int (am_I h f a) := by unfold am_V; rw [ht, hf.1]
  rw [this]
  exact kk
theorem g_getR {index ci kf f a r : Nat} (hd : decode cc pc = .ok (.getfield index, 3)) (hf : am_fl own index ci kf f) (ht : am_isR (am_ty ci kf) = true) (ha : am_K h a = ci + 1) (hr : am_R h f a = some r) (kk : am_G k own nm cc nL ret cells slots Q (pc + 3) ls (.ref r :: st) h) : am_G k own nm cc nL ret cells slots Q pc ls (.ref a :: st) h := by
  refine g_get hd hf ha ?_
  have : am_V h ci a kf = .ref r := by
    unfold am_V
    rw [ht, ← hf.1, hr]
    rfl
  rw [this]
  exact kk
/-- a store into a field: final ones in a constructor of the class itself -/
theorem am_put {p : Program} {l : Launch} {e : Env} {R : Room} {s : State} {m : MethodId} {args : Array Value} {below : List Frame} {meth : Method} {c : Code} {h0 : am_H} {D : va_G} {ac : Nat → ClassId} {zc : Cell × Cell} {H : Heap} {locs : List Loc} {la : Array Slot} {index ci kf f a : Nat} {v : Value}
    (hC : am_Cx p l s m args meth c own nm cc nL ret h0 D ac zc) (hR : am_Rep D ac zc h H) (hE : am_Ext h0 h s.heap.size) (hS : va_S (am_W h0 s.heap.size) s.heap H locs)
    (hd : decode cc pc = .ok (.putfield index, 3)) (hf : am_fl own index ci kf f) (hfin : ∀ q, am_C[ci]? = some q → (q.2.1 kf).2.2.2 = false ∨ ((q.2.1 kf).2.2.2 = true ∧ nm = "<init>" ∧ (q.2.1 kf).1 = own)) (ha : am_K h a = ci + 1) (hn : narrow (am_ty ci kf) v = v) (hfit : fits (am_ty ci kf) v = true)
    (kk : ∀ (H' : Heap) (locs' : List Loc), H'.size = H.size → (∀ q : Nat, q ≠ a → H'[q]? = H[q]?) → (∀ q, am_C[ci]? = some q → t_OB a (D.1 ci) q.2.2 (D.2 ci) H' (updV (am_V h ci a) kf v)) → va_S (am_W h0 s.heap.size) s.heap H' locs' → W p l e R s m args below meth c H' locs' cells slots Q (F0 m (pc + 3) la st)) :
    W p l e R s m args below meth c H locs cells slots Q (F0 m pc la (v :: .ref a :: st)) := by
  obtain ⟨-, q, ref, hq, hk, hw, hty, hnm, hlk, hrf⟩ := hf
  obtain ⟨hx, hb, hml, hr, hlo, hown, hts, hK, -, -, hname, -⟩ := id hC
  have hap := va_apart (own := own) hts hw (am_ty ci) hty hnm hK hq
  obtain ⟨cell, q1, q2, q3, q4⟩ := (hR a).2.1 ci q ha hq
  obtain ⟨hSl, hfc, kC, hkC, hkind⟩ := hK.1 ci q hq
  obtain ⟨cf, kf', fi, fd, hi, hsl⟩ := hSl kf hk
  have hsame : s.fieldFound? ref (q.2.1 kf).2.1 (q.2.1 kf).2.2.1 = some (cf, kf', fi, fd) := by
    rcases hrf with rfl | z
    · exact hi
    · exact u_same (hts _ z) _ hi
  have hst := (u_facts hfc hkC (u_lays hts hw hk) hi).1
  have hlay := hts _ (hw _ (u_in_lay hk))
  unfold u_lay at hlay
  have fin : ∀ H' : Heap, H'[a]? = some (cell.setSlot fd.slot v) → H'.size = H.size → (∀ q : Nat, q ≠ a → H'[q]? = H[q]?) → W p l e R s m args below meth c H' (locs ++ [⟨a, fd.slot⟩]) cells slots Q (F0 m (pc + 3) la st) := by
    intro H' e1 e2 e3
    refine kk H' _ e2 e3 (fun q' hq' => ?_) (hS.put e2 e3 (hE.in (by rw [ha]; exact ⟨Nat.succ_ne_zero _, by have := am_lt7 hq; omega⟩)))
    cases hq.symm.trans hq'
    rw [hsl] at e1
    exact ⟨_, e1, q2, q3, t_set q4 hap hk v⟩
  rcases hfin q hq with hfin | ⟨hfin, hin2, hdecl⟩
  · rw [if_neg (by rw [hfin]; decide)] at hlay
    have h6 := u_store hfc hkC hkind hlay hi (hty kf hk) hn hfit
    exact W.putK hx hb (f := fd) ⟨hown, hts _ hlk, ⟨_, _, _, hsame⟩, hst⟩ (by rw [q2]; exact h6) q1 q3 (by rw [hsl]; exact k2_hasslot (q4 kf hk)) rfl rfl hd fin
  · rw [if_pos hfin] at hlay
    have hcf : m.cls = cf := by
      obtain ⟨_, _, c', _, _, _, -, -, hf', -, -, -, hown2, -⟩ := Cond.laysFinal_spec hlay
      have e1 : c' = cf := by have := hi.symm.trans hf'; simp at this; exact this.1.symm
      rw [hdecl] at hown2
      rw [← e1]; exact Option.some.inj (hown.symm.trans hown2)
    have h6 := u_fits hfc hkC hkind (Or.inr hlay) hi (hty kf hk) hn hfit
    exact W.putFinK hx hb hown (hts _ hlk) hsame hst hcf (by rw [hname]; exact hin2) (by rw [q2]; exact h6) q1 q3 (by rw [hsl]; exact k2_hasslot (q4 kf hk)) rfl rfl hd fin
theorem g_putI {index ci kf f a : Nat} {v : Int32} (hd : decode cc pc = .ok (.putfield index, 3)) (hf : am_fl own index ci kf f) (ht : am_isR (am_ty ci kf) = false) (hfin : ∀ q, am_C[ci]? = some q → (q.2.1 kf).2.2.2 = false ∨ ((q.2.1 kf).2.2.2 = true ∧ nm = "<init>" ∧ (q.2.1 kf).1 = own)) (ha : am_K h a = ci + 1) (hn : narrow (am_ty ci kf) (.int v) = .int v) (hfit : fits (am_ty ci kf) (.int v) = true)
    (kk : am_G k own nm cc nL ret cells slots Q (pc + 3) ls st (am_sI h f a v)) : am_G k own nm cc nL ret cells slots Q pc ls (.int v :: .ref a :: st) h := by
  obtain ⟨p, l, e, R, s, m, args, below, meth, c, h0, D, ac, zc⟩ := k
  intro hC H locs la hR hE hS hl
  have hff := hf.1
  refine am_put hC hR hE hS hd hf hfin ha hn hfit fun H' locs' z e3 ho hS' => kk hC H' locs' la (hR.upd a (fun b hb => am_same_sI hb) e3 z ?_) (hE.k rfl rfl) hS' hl
  obtain ⟨-, q, ref, hq, -⟩ := hf
  refine am_at_obj hq (by rw [am_K_sI]; exact ha) (by rw [z]; exact (hR a).1 (by rw [ha]; exact Nat.succ_ne_zero _)) ((ho q hq).to fun j _ => ?_)
  unfold updV am_V
  by_cases e : j = kf
  · subst e
    rw [if_pos rfl, ht]
    show _ = Value.int (am_I (am_sI h f a v) (100 * ci + j) a)
    rw [am_I_sI, if_pos ⟨hff.symm, rfl⟩]
  · rw [if_neg e]
    cases hj : am_isR (am_ty ci j) with
    | true => rfl
    | false =>
      simp only [am_I_sI]
      rw [if_neg (fun z => e (by have := z.1; omega))]
theorem g_putR {index ci kf f a : Nat} {v : Option Nat} (hd : decode cc pc = .ok (.putfield index, 3)) (hf : am_fl own index ci kf f) (ht : am_isR (am_ty ci kf) = true) (hfin : ∀ q, am_C[ci]? = some q → (q.2.1 kf).2.2.2 = false ∨ ((q.2.1 kf).2.2.2 = true ∧ nm = "<init>" ∧ (q.2.1 kf).1 = own)) (ha : am_K h a = ci + 1) (hn : narrow (am_ty ci kf) (va_rf v) = va_rf v) (hfit : fits (am_ty ci kf) (va_rf v) = true)
    (kk : am_G k own nm cc nL ret cells slots Q (pc + 3) ls st (am_sR h f a v)) : am_G k own nm cc nL ret cells slots Q pc ls (va_rf v :: .ref a :: st) h := by
  obtain ⟨p, l, e, R, s, m, args, below, meth, c, h0, D, ac, zc⟩ := k
  intro hC H locs la hR hE hS hl
  have hff := hf.1
  refine am_put hC hR hE hS hd hf hfin ha hn hfit fun H' locs' z e3 ho hS' => kk hC H' locs' la (hR.upd a (fun b hb => am_same_sR hb) e3 z ?_) (hE.k rfl rfl) hS' hl
  obtain ⟨-, q, ref, hq, -⟩ := hf
  refine am_at_obj hq (by rw [am_K_sR]; exact ha) (by rw [z]; exact (hR a).1 (by rw [ha]; exact Nat.succ_ne_zero _)) ((ho q hq).to fun j _ => ?_)
  unfold updV am_V
  by_cases e : j = kf
  · subst e
    rw [if_pos rfl, ht]
    show _ = va_rf (am_R (am_sR h f a v) (100 * ci + j) a)
    rw [am_R_sR, if_pos ⟨hff.symm, rfl⟩]
  · rw [if_neg e]
    cases hj : am_isR (am_ty ci j) with
    | false => rfl
    | true =>
      simp only [am_R_sR]
      rw [if_neg (fun z => e (by have := z.1; omega))]
theorem g_putRs {index ci kf f a b : Nat} (hd : decode cc pc = .ok (.putfield index, 3)) (hf : am_fl own index ci kf f) (ht : am_isR (am_ty ci kf) = true) (hfin : ∀ q, am_C[ci]? = some q → (q.2.1 kf).2.2.2 = false ∨ ((q.2.1 kf).2.2.2 = true ∧ nm = "<init>" ∧ (q.2.1 kf).1 = own)) (ha : am_K h a = ci + 1) (hn : narrow (am_ty ci kf) (.ref b) = .ref b) (hfit : fits (am_ty ci kf) (.ref b) = true)
    (kk : am_G k own nm cc nL ret cells slots Q (pc + 3) ls st (am_sR h f a (some b))) : am_G k own nm cc nL ret cells slots Q pc ls (.ref b :: .ref a :: st) h := g_putR (v := some b) hd hf ht hfin ha hn hfit kk
/-! rows of ints and of booleans -/
theorem g_iald {a : Nat} {i : Int32} (hd : decode cc pc = .ok (.iaload, 1)) (ha : am_K h a = 11) (hin : vp_in i (am_N h a)) (kk : am_G k own nm cc nL ret cells slots Q (pc + 1) ls (.int (am_A h a i.toNatClampNeg) :: st) h) : am_G k own nm cc nL ret cells slots Q pc ls (.int i :: .ref a :: st) h := by
  obtain ⟨p, l, e, R, s, m, args, below, meth, c, h0, D, ac, zc⟩ := k
  intro hC H locs la hR hE hS hl
  refine va_iald (D := D) (cl := am_C) (ws := [(a, .inl (ac 0, am_N h a, .inl (am_A h a)))]) (tys := am_tys ac) hC.1 hC.2.1 hC.2.2.2.2.2.2.2.1 ?_ 0 0 rfl rfl hin hd (kk hC H locs la hR hE hS hl)
  intro j q hq
  match j, hq with
  | 0, hq =>
    cases hq
    exact (hR a).2.2.1 ha
theorem g_zald {a : Nat} {i : Int32} (hd : decode cc pc = .ok (.baload, 1)) (ha : am_K h a = 12) (hin : vp_in i (am_N h a)) (kk : am_G k own nm cc nL ret cells slots Q (pc + 1) ls (.int (am_A h a i.toNatClampNeg) :: st) h) : am_G k own nm cc nL ret cells slots Q pc ls (.int i :: .ref a :: st) h := by
  obtain ⟨p, l, e, R, s, m, args, below, meth, c, h0, D, ac, zc⟩ := k
  intro hC H locs la hR hE hS hl
  refine va_zald (D := D) (cl := am_C) (ws := [(a, .inl (ac 1, am_N h a, .inl (am_A h a)))]) (tys := am_tys ac) hC.1 hC.2.1 hC.2.2.2.2.2.2.2.1 ?_ 0 1 rfl rfl hin hd (kk hC H locs la hR hE hS hl)
  intro j q hq
  match j, hq with
  | 0, hq =>
    cases hq
    exact (hR a).2.2.2.1 ha
theorem g_lald {a : Nat} {i : Int32} (hd : decode cc pc = .ok (.laload, 1)) (ha : am_K h a = 15) (hin : vp_in i (am_N h a)) (kk : am_G k own nm cc nL ret cells slots Q (pc + 1) ls (.long (am_L h a i.toNatClampNeg) :: st) h) : am_G k own nm cc nL ret cells slots Q pc ls (.int i :: .ref a :: st) h := by
  obtain ⟨p, l, e, R, s, m, args, below, meth, c, h0, D, ac, zc⟩ := k
  intro hC H locs la hR hE hS hl
  refine va_lald (D := D) (cl := am_C) (ws := [(a, .inl (ac 4, am_N h a, .inr (.inl (am_L h a))))]) (tys := am_tys ac) hC.1 hC.2.1 hC.2.2.2.2.2.2.2.1 ?_ 0 4 rfl rfl hin hd (kk hC H locs la hR hE hS hl)
  intro j q hq
  match j, hq with
  | 0, hq =>
    cases hq
    exact (hR a).2.2.2.2.2.2.1 ha
theorem g_oald {a : Nat} {i : Int32} (hd : decode cc pc = .ok (.aaload, 1)) (ha : am_K h a = 13) (hin : vp_in i (am_N h a)) (kk : am_G k own nm cc nL ret cells slots Q (pc + 1) ls (va_rf (am_B h a i.toNatClampNeg) :: st) h) : am_G k own nm cc nL ret cells slots Q pc ls (.int i :: .ref a :: st) h := by
  obtain ⟨p, l, e, R, s, m, args, below, meth, c, h0, D, ac, zc⟩ := k
  intro hC H locs la hR hE hS hl
  refine va_aldq (D := D) (cl := am_C) (ws := [(a, .inl (ac 2, am_N h a, .inr (.inr (.inr (.inr (am_B h a))))))]) (tys := am_tys ac) hC.1 hC.2.1 hC.2.2.2.2.2.2.2.1 ?_ 0 2 rfl rfl hin hd (kk hC H locs la hR hE hS hl)
  intro j q hq
  match j, hq with
  | 0, hq =>
    cases hq
    exact (hR a).2.2.2.2.1 ha
theorem g_rald {a : Nat} {i : Int32} (hd : decode cc pc = .ok (.aaload, 1)) (ha : am_K h a = 14) (hin : vp_in i (am_N h a)) (kk : am_G k own nm cc nL ret cells slots Q (pc + 1) ls (va_rf (am_B h a i.toNatClampNeg) :: st) h) : am_G k own nm cc nL ret cells slots Q pc ls (.int i :: .ref a :: st) h := by
  obtain ⟨p, l, e, R, s, m, args, below, meth, c, h0, D, ac, zc⟩ := k
  intro hC H locs la hR hE hS hl
  have hlt : i.toNatClampNeg < am_N h a := Nat.not_le.mp fun q => hin (Or.inr q)
  exact W.aald (v := va_rf (am_B h a i.toNatClampNeg)) (ty := .array .int) hC.1 hC.2.1 ((hR a).2.2.2.2.2.1 ha) ((hC.2.2.2.2.2.2.2.1.2 3 _ rfl).1 _ (fun j => va_rf (am_B h a j))) rfl (fun q => by cases q) (by show ¬ (i < 0 ∨ (arrV _ _ _).slots.size ≤ _); rw [arrV_size]; exact hin) (by show (arrV _ _ _).slots[_]? = _; rw [arrV_read _ _ hlt]) rfl rfl hd (kk hC H locs la hR hE hS hl)
theorem am_at_11 {D : va_G} {ac : Nat → ClassId} {zc : Cell × Cell} {h : am_H} {H : Heap} {a : Nat} (hk : am_K h a = 11) (hlt : a < H.size) (e : H[a]? = some (vp_cell (ac 0) (am_N h a, .inl (am_A h a)))) : am_at D ac zc h H a := by
  refine ⟨fun _ => hlt, fun ci' q' e1 e2 => ?_, fun _ => e, fun z => ?_, fun z => ?_, fun z => ?_, fun z => ?_, fun z => ?_, fun z => ?_⟩
  · have h7 := am_lt7 e2
    exfalso; omega
  all_goals (exfalso; omega)
theorem am_at_12 {D : va_G} {ac : Nat → ClassId} {zc : Cell × Cell} {h : am_H} {H : Heap} {a : Nat} (hk : am_K h a = 12) (hlt : a < H.size) (e : H[a]? = some (vp_cell (ac 1) (am_N h a, .inl (am_A h a)))) : am_at D ac zc h H a := by
  refine ⟨fun _ => hlt, fun ci' q' e1 e2 => ?_, fun z => ?_, fun _ => e, fun z => ?_, fun z => ?_, fun z => ?_, fun z => ?_, fun z => ?_⟩
  · have h7 := am_lt7 e2
    exfalso; omega
  all_goals (exfalso; omega)
theorem am_at_13 {D : va_G} {ac : Nat → ClassId} {zc : Cell × Cell} {h : am_H} {H : Heap} {a : Nat} (hk : am_K h a = 13) (hlt : a < H.size) (e : H[a]? = some (vp_cell (ac 2) (am_N h a, .inr (.inr (.inr (.inr (am_B h a))))))) : am_at D ac zc h H a := by
  refine ⟨fun _ => hlt, fun ci' q' e1 e2 => ?_, fun z => ?_, fun z => ?_, fun _ => e, fun z => ?_, fun z => ?_, fun z => ?_, fun z => ?_⟩
  · have h7 := am_lt7 e2
    exfalso; omega
  all_goals (exfalso; omega)
theorem am_at_14 {D : va_G} {ac : Nat → ClassId} {zc : Cell × Cell} {h : am_H} {H : Heap} {a : Nat} (hk : am_K h a = 14) (hlt : a < H.size) (e : H[a]? = some (vp_cell (ac 3) (am_N h a, .inr (.inr (.inr (.inr (am_B h a))))))) : am_at D ac zc h H a := by
  refine ⟨fun _ => hlt, fun ci' q' e1 e2 => ?_, fun z => ?_, fun z => ?_, fun z => ?_, fun _ => e, fun z => ?_, fun z => ?_, fun z => ?_⟩
  · have h7 := am_lt7 e2
    exfalso; omega
  all_goals (exfalso; omega)
theorem am_at_15 {D : va_G} {ac : Nat → ClassId} {zc : Cell × Cell} {h : am_H} {H : Heap} {a : Nat} (hk : am_K h a = 15) (hlt : a < H.size) (e : H[a]? = some (vp_cell (ac 4) (am_N h a, .inr (.inl (am_L h a))))) : am_at D ac zc h H a := by
  refine ⟨fun _ => hlt, fun ci' q' e1 e2 => ?_, fun z => ?_, fun z => ?_, fun z => ?_, fun z => ?_, fun _ => e, fun z => ?_, fun z => ?_⟩
  · have h7 := am_lt7 e2
    exfalso; omega
  all_goals (exfalso; omega)
theorem am_lt {D : va_G} {ac : Nat → ClassId} {zc : Cell × Cell} {h : am_H} {H H' : Heap} {a n : Nat} (hR : am_Rep D ac zc h H) (z : H'.size = H.size) (ha : am_K h a = n + 1) : a < H'.size := by rw [z]; exact (hR a).1 (by rw [ha]; exact Nat.succ_ne_zero _)
theorem g_iast {a : Nat} {i x : Int32} (hd : decode cc pc = .ok (.iastore, 1)) (ha : am_K h a = 11) (hin : vp_in i (am_N h a)) (kk : am_G k own nm cc nL ret cells slots Q (pc + 1) ls st (am_sA h a i.toNatClampNeg x)) : am_G k own nm cc nL ret cells slots Q pc ls (.int x :: .int i :: .ref a :: st) h := by
  obtain ⟨p, l, e, R, s, m, args, below, meth, c, h0, D, ac, zc⟩ := k
  intro hC H locs la hR hE hS hl
  refine W.iast hC.1 hC.2.1 ((hR a).2.2.1 ha) ((hC.2.2.2.2.2.2.2.1.2 0 _ rfl).1 _ (fun j => .int (am_A h a j))) (fun q => by cases q) (by show ¬ (i < 0 ∨ (arrV _ _ _).slots.size ≤ _); rw [arrV_size]; exact hin) rfl rfl hd fun H1 e1 z oq => ?_
  refine kk hC H1 _ la (hR.upd a (fun b hb => am_same_sA hb) oq z (am_at_11 (by rw [am_K_sA]; exact ha) (am_lt hR z ha) ?_)) (hE.k rfl rfl) (hS.put z oq (hE.in (by rw [ha]; exact ⟨by decide, by decide⟩))) hl
  rw [e1, am_N_sA, vp_cell_i, vp_cell_i, arrV_store]
  congr 2
  funext q
  unfold updV
  rw [am_A_sA]
  by_cases hq : q = i.toNatClampNeg
  · rw [if_pos hq, if_pos ⟨rfl, hq⟩]
  · rw [if_neg hq, if_neg (fun z => hq z.2)]
theorem g_zast {a : Nat} {i x : Int32} (hd : decode cc pc = .ok (.bastore, 1)) (ha : am_K h a = 12) (hin : vp_in i (am_N h a)) (hn : narrow .boolean (.int x) = .int x) (kk : am_G k own nm cc nL ret cells slots Q (pc + 1) ls st (am_sA h a i.toNatClampNeg x)) : am_G k own nm cc nL ret cells slots Q pc ls (.int x :: .int i :: .ref a :: st) h := by
  obtain ⟨p, l, e, R, s, m, args, below, meth, c, h0, D, ac, zc⟩ := k
  intro hC H locs la hR hE hS hl
  refine W.zast hC.1 hC.2.1 ((hR a).2.2.2.1 ha) ((hC.2.2.2.2.2.2.2.1.2 1 _ rfl).1 _ (fun j => .int (am_A h a j))) (fun q => by cases q) (by show ¬ (i < 0 ∨ (arrV _ _ _).slots.size ≤ _); rw [arrV_size]; exact hin) rfl rfl hd fun H1 e1 z oq => ?_
  refine kk hC H1 _ la (hR.upd a (fun b hb => am_same_sA hb) oq z (am_at_12 (by rw [am_K_sA]; exact ha) (am_lt hR z ha) ?_)) (hE.k rfl rfl) (hS.put z oq (hE.in (by rw [ha]; exact ⟨by decide, by decide⟩))) hl
  rw [e1, am_N_sA, vp_cell_i, vp_cell_i, arrV_store, hn]
  congr 2
  funext q
  unfold updV
  rw [am_A_sA]
  by_cases hq : q = i.toNatClampNeg
  · rw [if_pos hq, if_pos ⟨rfl, hq⟩]
  · rw [if_neg hq, if_neg (fun z => hq z.2)]
theorem g_last {a : Nat} {i : Int32} {x : Int64} (hd : decode cc pc = .ok (.lastore, 1)) (ha : am_K h a = 15) (hin : vp_in i (am_N h a)) (kk : am_G k own nm cc nL ret cells slots Q (pc + 1) ls st (am_sL h a i.toNatClampNeg x)) : am_G k own nm cc nL ret cells slots Q pc ls (.long x :: .int i :: .ref a :: st) h := by
  obtain ⟨p, l, e, R, s, m, args, below, meth, c, h0, D, ac, zc⟩ := k
  intro hC H locs la hR hE hS hl
  refine W.last hC.1 hC.2.1 ((hR a).2.2.2.2.2.2.1 ha) ((hC.2.2.2.2.2.2.2.1.2 4 _ rfl).1 _ (fun j => .long (am_L h a j))) (fun q => by cases q) (by show ¬ (i < 0 ∨ (arrV _ _ _).slots.size ≤ _); rw [arrV_size]; exact hin) rfl rfl hd fun H1 e1 z oq => ?_
  refine kk hC H1 _ la (hR.upd a (fun b hb => am_same_sL hb) oq z (am_at_15 (by rw [am_K_sL]; exact ha) (am_lt hR z ha) ?_)) (hE.k rfl rfl) (hS.put z oq (hE.in (by rw [ha]; exact ⟨by decide, by decide⟩))) hl
  rw [e1, am_N_sL, vp_cell_l, vp_cell_l, arrV_store]
  congr 2
  funext q
  unfold updV
  rw [am_L_sL]
  by_cases hq : q = i.toNatClampNeg
  · rw [if_pos hq, if_pos ⟨rfl, hq⟩]
  · rw [if_neg hq, if_neg (fun z => hq z.2)]
theorem g_alen {a : Nat} {v : Int32} (hd : decode cc pc = .ok (.arraylength, 1)) (ha : am_K h a = 11 ∨ am_K h a = 13) (hv : nI (am_N h a) = v) (kk : am_G k own nm cc nL ret cells slots Q (pc + 1) ls (.int v :: st) h) : am_G k own nm cc nL ret cells slots Q pc ls (.ref a :: st) h := by
  obtain ⟨p, l, e, R, s, m, args, below, meth, c, h0, D, ac, zc⟩ := k
  intro hC H locs la hR hE hS hl
  subst hv
  rcases ha with ha | ha
  · exact W.alen (n := nI (am_N h a)) hC.1 hC.2.1 ((hR a).2.2.1 ha) ((hC.2.2.2.2.2.2.2.1.2 0 _ rfl).1 _ (fun j => .int (am_A h a j))) (by rw [vp_cell_i, arrV_size] <;> rfl) rfl rfl hd (kk hC H locs la hR hE hS hl)
  · exact W.alen (n := nI (am_N h a)) hC.1 hC.2.1 ((hR a).2.2.2.2.1 ha) ((hC.2.2.2.2.2.2.2.1.2 2 _ rfl).1 _ (fun j => va_rf (am_B h a j))) (by rw [vp_cell_q, arrV_size] <;> rfl) rfl rfl hd (kk hC H locs la hR hE hS hl)
end AMH
end
section
/-! ===== contracts over the abstract heap, and their calls ===== -/
def am_kR (k : am_X) : Room := k.2.2.2.1
def am_kl (k : am_X) : Launch := k.2.1
def am_k0 (k : am_X) : am_H := k.2.2.2.2.2.2.2.2.2.2.1
/-- no handler stands in the method -/
def am_noX (k : am_X) : Prop := ∀ x ∈ (k.2.2.2.2.2.2.2.2.2.1).exceptionTable.toList, False
def am_Qc (Q : Option Value → am_H → Prop) (h : am_H) (sz : Nat) (D : va_G) (ac : Nat → ClassId) (zc : Cell × Cell) : Array Value → State → Outcome → State → Prop := fun _ st o t =>
  ∃ (v : Option Value) (h' : am_H), o = .returned v ∧ Q v h' ∧ am_Rep D ac zc h' t.heap ∧ am_Ext h h' sz ∧ va_F (am_W h sz) st t
def am_Qx (X : String → am_H → Prop) (h : am_H) (sz : Nat) (D : va_G) (ac : Nat → ClassId) (zc : Cell × Cell) : String → State → State → Prop := fun E st t =>
  ∃ h' : am_H, X E h' ∧ am_Rep D ac zc h' t.heap ∧ am_Ext h h' sz ∧ va_F (am_W h sz) st t
/-- how a state stands to an abstract heap -/
def am_Bg (D : va_G) (ac : Nat → ClassId) (zc : Cell × Cell) (h : am_H) (sz : Nat) (U : State) : Prop :=
  U.heap.size = sz ∧ am_Rep D ac zc h U.heap ∧ va_K D am_C (am_tys ac) U ∧ am_Z (am_W h sz) U U.heap ∧ am_T U ∧ U.isArrayOf zc.1 (.object "java/lang/Object") ∧ U.isArrayOf zc.2 .int ∧ zc.1.vm ≠ .unknown ∧ zc.2.vm ≠ .unknown
/-- THE CONTRACT of y, called with av over h: it returns v over h' with Q v h', or throws E over h' with X E h'; d levels of frames, mc cells of ms slots -/
def am_Con (l : Launch) (y : MethodName) (code : Cond) (d mc ms : Nat) (av : List Value) (h : am_H) (Q : Option Value → am_H → Prop) (X : String → am_H → Prop) : Prop :=
  ∀ (D : va_G) (ac : Nat → ClassId) (zc : Cell × Cell) (sz : Nat), vx_Met l y (code :: am_WS) { frames := d, cells := mc, slots := ms, locals := 40 * d } (va_Pc av (am_Bg D ac zc h sz)) (am_Qc Q h sz D ac zc) (am_Qx X h sz D ac zc) mc ms (am_W h sz)
def am_Q (k : am_X) (mc ms : Nat) (Q : Option Value → am_H → Prop) (X : String → am_H → Prop) : State → Prop :=
  match k with
  | (_, _, _, _, s, _, args, below, _, _, h0, D, ac, zc) => vx_MQ below (am_Qc Q h0 s.heap.size D ac zc) (am_Qx X h0 s.heap.size D ac zc) args s mc ms (am_W h0 s.heap.size)
theorem am_T.same {u U : State} (hv : U.vm = u.vm) (h : am_T u) : am_T U := by
  obtain ⟨h1, h2, h3, h4, h5, h6⟩ := h
  refine ⟨fun w hw => va_Nw.same ?_ hv.symm (h1 w hw), va_Nw.same rfl hv.symm h2, va_Nw.same rfl hv.symm h3, fun q hq => ?_, h5.moved (by rw [hv]; exact Vm.Alike.refl u.vm), ?_⟩
  · have := (List.mem_filter.mp hw).2
    rw [Bool.and_eq_true] at this
    exact this.1
  · obtain ⟨sa, hsa⟩ := h4 q hq
    exact ⟨sa, hsa.same hv⟩
  · show (Cond.arrayOver (.array .int)).before #[] U = true
    have h6' : (Cond.arrayOver (.array .int)).before #[] u = true := h6
    simp only [Cond.before, Cond.holds, Cond.value, hv] at h6' ⊢
    exact h6'
theorem va_AOA.moved {ty : FieldType} {u U : State} (hvm : u.vm.Alike U.vm) (h : va_AOA ty u) : va_AOA ty U := by
  unfold va_AOA Cond.before Cond.holds at h ⊢
  simp only [Cond.value, beq_iff_eq] at h ⊢
  cases hc : u.vm.findClass (FieldType.array ty).toString with
  | none => simp [hc] at h
  | some comp =>
    simp only [hc, Option.bind_some, Option.bind_eq_some_iff, Option.map_eq_some_iff] at h
    obtain ⟨c, hi, k, hk, hb⟩ := h
    obtain ⟨k', hk', he⟩ := hvm.2.2 _ _ hk
    have hi2 := (va_idx_bare u.vm comp).trans hi
    have hbr : U.vm.bare = u.vm.bare := by first | exact hvm.bare_eq | exact hvm.bare_eq.symm
    rw [← hbr] at hi2
    have hi' := (va_idx_bare U.vm comp).symm.trans hi2
    have hkind : k'.kind = k.kind := by rw [he]
    have f1 : U.vm.findClass (FieldType.array ty).toString = some comp := by rw [hvm.findClass]; exact hc
    rw [f1, Option.bind_some]
    simp only [Option.bind_eq_some_iff, Option.map_eq_some_iff]
    refine ⟨c, hi', k', hk', ?_⟩
    rw [hkind, hvm.findClass]
    exact hb
theorem am_T.warm {s U : State} (hW : s.WarmedH U.vm) (h : am_T s) : am_T U := by
  obtain ⟨h1, h2, h3, h4, h5, h6⟩ := h
  refine ⟨fun w hw => ?_, h2.warmM hW, h3.warmM hW, fun q hq => ?_, h5.moved hW.alike, h6.moved hW.alike⟩
  · have hg := (List.mem_filter.mp hw).2
    rw [Bool.and_eq_true] at hg
    have hk : w.before #[] (s.setVm U.vm) = true := Cond.before_shiftedFace (State.Shifted.of_warmed hW) w hg.2 (h1 w hw)
    exact va_tabs hg.1 (rfl : (s.setVm U.vm).vm = U.vm) hk
  · obtain ⟨sa, hsa⟩ := h4 q hq
    exact ⟨sa, hsa.warm hW⟩
theorem am_Z.moved {A : Nat → Prop} {u U : State} {H : Heap} (hvm : u.vm.Alike U.vm) (h : am_Z A u H) : am_Z A U H := ⟨vx_Zq.moved hvm h.1, vx_Zq.moved hvm h.2⟩
theorem am_Z.kept {A : Nat → Prop} {U : State} {H H1 : Heap} (h : am_Z A U H) (hq : ∀ a : Nat, a < H.size → ¬ A a → H1[a]? = H[a]?) : am_Z A U H1 := ⟨vx_Zq.kept h.1 hq, vx_Zq.kept h.2 hq⟩
theorem am_Z.narrow {A B : Nat → Prop} {U : State} {H : Heap} (h : am_Z A U H) (hAB : ∀ q, B q → A q) : am_Z B U H := ⟨vx_Zq.narrow h.1 hAB, vx_Zq.narrow h.2 hAB⟩
/-- what a callee may write, its caller may -/
theorem am_W.in {h0 h : am_H} {s : State} {H : Heap} {locs : List Loc} (hE : am_Ext h0 h s.heap.size) (hS : va_S (am_W h0 s.heap.size) s.heap H locs) : ∀ q, am_W h H.size q → am_W h0 s.heap.size q := by
  intro q hq
  rcases hq with h1 | h1
  · exact hE.in h1
  · exact Or.inr (Nat.le_trans hS.1 h1)
theorem am_blind {D : va_G} {ac : Nat → ClassId} {zc : Cell × Cell} {h : am_H} {sz : Nat} {av : List Value} : FrameBlind (va_Pc av (am_Bg D ac zc h sz)) := by
  intro a U g mk hp
  obtain ⟨h1, h2, h3, h4, h5, h6, h7, h8⟩ := hp
  exact ⟨h1, h2, h3, va_K.moved (u := U) (U := U.calling g mk a) (Vm.Alike.refl U.vm) h4, am_Z.moved (u := U) (U := U.calling g mk a) (Vm.Alike.refl U.vm) h5, am_T.same (u := U) (U := U.calling g mk a) rfl h6, State.isArrayOf_alike (Vm.Alike.refl U.vm) h7, State.isArrayOf_alike (Vm.Alike.refl U.vm) h8.1, h8.2⟩
/-- a caller's state, seen by the callee -/
theorem am_pre {p : Program} {l : Launch} {s : State} {m : MethodId} {args : Array Value} {meth : Method} {c : Code} {own nm : String} {cc : ByteArray} {nL : Nat} {ret : Option FieldType} {h0 h : am_H} {D : va_G} {ac : Nat → ClassId} {zc : Cell × Cell} {H : Heap} {locs : List Loc}
    (hC : am_Cx p l s m args meth c own nm cc nL ret h0 D ac zc) (hR : am_Rep D ac zc h H) (hE : am_Ext h0 h s.heap.size) (hS : va_S (am_W h0 s.heap.size) s.heap H locs) {U : State} (hU : U.heap = H) (hW : s.WarmedH U.vm) : am_Bg D ac zc h H.size U := by
  obtain ⟨-, -, -, -, -, -, -, hK, -, hZ, -, hT, h16, h17, hu⟩ := hC
  refine ⟨by rw [hU], by rw [hU]; exact hR, va_K.moved hW.alike hK, ?_, hT.warm hW, State.isArrayOf_alike hW.alike h16, State.isArrayOf_alike hW.alike h17, hu⟩
  rw [hU]
  exact am_Z.moved hW.alike ((hZ.kept hS.2.1).narrow (am_W.in hE hS))
section AMB
variable {l : Launch} {y : MethodName} {cc : ByteArray} {n : Nat} {ret : Option FieldType} {d mc ms : Nat} {av : List Value} {h : am_H} {Q : Option Value → am_H → Prop} {X : String → am_H → Prop}
/-- a contract out of the walk of the body -/
theorem am_body (hlt : l.stackTraces = false) (hy : plainName y.cls = true) (hn : (lg_sl av).length ≤ n)
    (body : ∀ k : am_X, am_kl k = l → am_kR k = { frames := d, cells := mc, slots := ms, locals := 40 * d } → am_k0 k = h → am_noX k → am_G k y.cls y.name cc n ret 0 0 (am_Q k mc ms Q X) 0 (lv_args 0 av) [] h) : am_Con l y (.code y cc n ret) d mc ms av h Q X := by
  intro D ac zc sz
  refine vx_ofW (cc := cc) (maxL := n) (ret := ret) hy rfl ?_
  intro p e s m args below meth c s₁ B hml hno hv
  obtain ⟨rfl, hsz, hR, hK, hZ, hT, h16, h17, hu⟩ := hv
  subst hsz
  have hl := lv_entry av hn
  rw [lg_entry_eq]
  have hts := atoms_spec (ws := Cond.code y cc n ret :: am_WS) B.pre
  exact body (p, l, e, _, s, m, _, below, meth, c, h, D, ac, zc) rfl rfl rfl hno ⟨B.exec, B.bytes, hml, B.returns, B.notSynchronized, findClass_of_methodNamed B.named, fun w hw => hts w (List.mem_cons_of_mem _ hw), hK, hlt, hZ, (name_of_methodNamed B.named B.method).1, hT, h16, h17, hu⟩ s.heap [] _ hR am_Ext.rf va_S.rf hl
end AMB
section AMC
variable {k : am_X} {own nm : String} {cc : ByteArray} {nL : Nat} {ret : Option FieldType} {cells slots : Nat} {Q : State → Prop} {pc : Nat} {ls : List (Nat × Value)} {st : List Value} {h : am_H} {mc ms : Nat} {Qr : Option Value → am_H → Prop} {X : String → am_H → Prop}
theorem g_iret {v : Int32} {ty : FieldType} (hd : decode cc pc = .ok (.ireturn, 1)) (hr : ret = some ty) (hn : narrow ty (.int v) = .int v) (hc : cells ≤ mc) (hs : slots ≤ ms) (hq : Qr (some (.int v)) h) : am_G k own nm cc nL ret cells slots (am_Q k mc ms Qr X) pc ls [.int v] h := by
  obtain ⟨p, l, e, R, s, m, args, below, meth, c, h0, D, ac, zc⟩ := k
  intro hC H locs la hR hE hS hl
  refine W.widen hc hs (vx_ret (W.zret (ty := ty) hC.1 hC.2.1 (hC.2.2.2.1.trans hr) hn (fun t ht hW => ⟨_, h, rfl, hq, by rw [ht]; exact hR, hE, hS.F ht⟩) hS.2.2 hd hC.2.2.2.2.1))
theorem g_vret (hd : decode cc pc = .ok (.return_, 1)) (hr : ret = none) (hc : cells ≤ mc) (hs : slots ≤ ms) (hq : Qr none h) : am_G k own nm cc nL ret cells slots (am_Q k mc ms Qr X) pc ls [] h := by
  obtain ⟨p, l, e, R, s, m, args, below, meth, c, h0, D, ac, zc⟩ := k
  intro hC H locs la hR hE hS hl
  refine W.widen hc hs (vx_ret (W.vret hC.1 hC.2.1 (hC.2.2.2.1.trans hr) (fun t ht hW => ⟨_, h, rfl, hq, by rw [ht]; exact hR, hE, hS.F ht⟩) hS.2.2 hd hC.2.2.2.2.1))
theorem g_aret {r : Option Nat} {ty : FieldType} (hd : decode cc pc = .ok (.areturn, 1)) (hr : ret = some ty) (hrt : (∃ n, ty = .object n) ∨ ∃ t, ty = .array t) (hc : cells ≤ mc) (hs : slots ≤ ms) (hq : Qr (some (va_rf r)) h) : am_G k own nm cc nL ret cells slots (am_Q k mc ms Qr X) pc ls [va_rf r] h := by
  obtain ⟨p, l, e, R, s, m, args, below, meth, c, h0, D, ac, zc⟩ := k
  intro hC H locs la hR hE hS hl
  refine W.widen hc hs (vx_ret (W.aret hC.1 hC.2.1 (hC.2.2.2.1.trans hr) hrt (by cases r with | none => exact Or.inl rfl | some a => exact Or.inr ⟨a, rfl⟩) (fun t ht hW => ⟨_, h, rfl, hq, by rw [ht]; exact hR, hE, hS.F ht⟩) hS.2.2 hd hC.2.2.2.2.1))
/-- what a call's words say: of a method y at 'index' of own, its code -/
def am_mc (own : String) (index : Nat) (y : MethodName) (bytes : ByteArray) (maxL : Nat) (r : Option FieldType) (n : Nat) : Prop :=
  Cond.methodLink own index y ∈ am_WS ∧ Cond.code y bytes maxL r ∈ am_WS ∧ Cond.initialized y.cls ∈ am_WS ∧ (y.cls ≠ "java/lang/invoke/MethodHandle" ∧ y.cls ≠ "java/lang/invoke/VarHandle") ∧ (parseMethodDescriptor y.desc).map (fun d => d.parameters.length) = some n
abbrev am_room (R : Room) (cells slots d mc maxL ms : Nat) : Prop := d + 1 ≤ R.frames ∧ 8 + (maxL + 11) + 40 * d ≤ R.locals ∧ cells + mc ≤ R.cells ∧ slots + ms ≤ R.slots
theorem am_rm {k : am_X} {R : Room} {c s d mc ml ms : Nat} (hR : am_kR k = R) (h : am_room R c s d mc ml ms) : am_room (am_kR k) c s d mc ml ms := by rw [hR]; exact h
theorem am_good {y : MethodName} {bytes : ByteArray} {maxL : Nat} {r : Option FieldType} (h : Cond.code y bytes maxL r ∈ am_WS) : GoodIn am_WS (Cond.code y bytes maxL r :: am_WS) := by
  intro w hw
  have hw' : w ∈ am_WS := by
    rcases List.mem_cons.mp hw with rfl | h1
    · exact h
    · exact h1
  exact ⟨hw', good_of_word (List.mem_filter.mp hw').2⟩
theorem am_callB {s : State} {args : Array Value} {R : Room} {own : String} {index : Nat} {y : MethodName} {bytes : ByteArray} {maxL : Nat} {r : Option FieldType} {n d mc1 ms1 c1 s1 : Nat} (hts : ∀ w ∈ am_WS, w.before args s = true) (hm : am_mc own index y bytes maxL r n) (hro : am_room R c1 s1 d mc1 maxL ms1) :
    CallB R s args own index y bytes maxL r (Cond.code y bytes maxL r :: am_WS) { frames := d, cells := mc1, slots := ms1, locals := 40 * d } mc1 ms1 n := by
  obtain ⟨h1, h2, h3, h4, h5⟩ := hm
  exact callB_of n hts (am_good h2) rfl rfl rfl (hts _ h3) (hts _ h1) ⟨h4.1, h4.2, h5⟩ ⟨hro.1, hro.2.1⟩
/-- behind a call -/
theorem am_back {p : Program} {l : Launch} {e : Env} {R : Room} {s : State} {m : MethodId} {args : Array Value} {below : List Frame} {meth : Method} {c : Code} {h0 : am_H} {D : va_G} {ac : Nat → ClassId} {zc : Cell × Cell} {H : Heap} {locs : List Loc} {la : Array Slot} {mc1 ms1 : Nat} {Q1 : Option Value → am_H → Prop} {X1 : String → am_H → Prop} {a : Array Value} {stk : List Value}
    (hC : am_Cx p l s m args meth c own nm cc nL ret h0 D ac zc) (hE : am_Ext h0 h s.heap.size) (hS : va_S (am_W h0 s.heap.size) s.heap H locs) (hl : lv_has la nL ls)
    (hr : vx_Run p l e R s m args below meth c H locs cells slots mc1 ms1 (F0 m pc la stk) st (am_Qc Q1 h H.size D ac zc a) (am_Qx X1 h H.size D ac zc) (am_W h H.size))
    (hx : ∀ E h', ¬ X1 E h')
    (kk : ∀ v h', Q1 v h' → am_Ext h h' H.size → am_G (p, l, e, R, s, m, args, below, meth, c, h0, D, ac, zc) own nm cc nL ret (cells + mc1) (slots + ms1) Q (pc + 3) ls (v.toList ++ st) h') : W p l e R s m args below meth c H locs cells slots Q (F0 m pc la stk) := by
  intro T hT X
  rcases hr T hT X with ⟨v, st₀, t, T', L, h0', X', hL, e1, e2, ⟨v', h', ev, hq, hR', hE', hF⟩, stp⟩ | ⟨q, st₀, t, T', L, E, ce, h0', X', hL, e1, e2, ⟨h', hx', -⟩, -⟩
  · cases ev
    obtain ⟨-, -, k3⟩ := vx_keep h0' e1 hS (fun q _ hq => am_W.in hE hS q hq) (am_W.in hE hS) hL hF
    obtain ⟨t2, a1, b1⟩ := kk _ h' hq hE' hC T'.heap (locs ++ L) la (by rw [e1]; exact hR') (hE.tr hE' hS.1) k3 hl T' rfl X'
    exact ⟨t2, stp t2 a1, b1⟩
  · exact absurd hx' (hx E h')
theorem am_recv {D : va_G} {ac : Nat → ClassId} {zc : Cell × Cell} {H : Heap} {s : State} {b ci : Nat} {q : vw_C} (hK : va_K D am_C (am_tys ac) s) (hR : am_Rep D ac zc h H) (hb : am_K h b = ci + 1) (hq : am_C[ci]? = some q) : ∃ cell : Cell, H[b]? = some cell ∧ cell.vm.isStatics = false ∧ s.vm.findClass q.1 = some cell.cls := by
  obtain ⟨cell, g1, g2, g3, -⟩ := (hR b).2.1 ci q hb hq
  exact ⟨cell, g1, by rw [g3]; rfl, by rw [g2]; exact (hK.1 ci q hq).2.1⟩
/-- invokevirtual (also of a private method of the class's own) -/
theorem g_callV {index ci maxL n d mc1 ms1 b : Nat} {q : vw_C} {y : MethodName} {bytes : ByteArray} {r : Option FieldType} {Q1 : Option Value → am_H → Prop} {X1 : String → am_H → Prop} (As : List Value) (hd : decode cc pc = .ok (.invokevirtual index, 3)) (hm : am_mc own index y bytes maxL r n) (hi : Cond.instanceMethod y ∈ am_WS) (hse : Cond.selects q.1 y y ∈ am_WS)
    (hcon : am_Con (am_kl k) y (.code y bytes maxL r) d mc1 ms1 (.ref b :: As) h Q1 X1) (hb : am_K h b = ci + 1) (hq : am_C[ci]? = some q) (hn : As.length = n) (hW : (st.map fun v => v.category).sum ≤ 8) (hro : am_room (am_kR k) cells slots d mc1 maxL ms1) (hx : ∀ E h', ¬ X1 E h')
    (kk : ∀ v h', Q1 v h' → am_Ext h h' 0 → am_G k own nm cc nL ret (cells + mc1) (slots + ms1) Q (pc + 3) ls (v.toList ++ st) h') : am_G k own nm cc nL ret cells slots Q pc ls (As.reverse ++ .ref b :: st) h := by
  obtain ⟨p, l, e, R, s, m, args, below, meth, c, h0, D, ac, zc⟩ := k
  intro hC H locs la hR hE hS hl
  have hC' := id hC
  obtain ⟨hx', hbb, hml, -, -, hown, hts, hK, -⟩ := hC'
  exact am_back hC hE hS hl (vx_runV ⟨hx', hbb, hml, hown, hts⟩ (hcon D ac zc H.size) ⟨am_callB hts hm hro, hts _ hi, hts _ hse⟩ ⟨am_blind, am_recv hK hR hb hq, fun U hU hW' => ⟨rfl, am_pre hC hR hE hS hU hW'⟩⟩ rfl hn hl.1 rfl (by simpa [JFrame.monitorRoom, F0] using hW) hd ⟨hro.2.2.1, hro.2.2.2⟩) hx (fun v h' hv hE' => kk v h' hv (fun a => ⟨(hE' a).1, fun _ _ => Nat.zero_le _⟩))
theorem g_callS {index maxL n d mc1 ms1 : Nat} {y : MethodName} {bytes : ByteArray} {r : Option FieldType} {Q1 : Option Value → am_H → Prop} {X1 : String → am_H → Prop} (As : List Value) (hd : decode cc pc = .ok (.invokestatic index, 3)) (hm : am_mc own index y bytes maxL r n) (hi : Cond.static y ∈ am_WS)
    (hcon : am_Con (am_kl k) y (.code y bytes maxL r) d mc1 ms1 As h Q1 X1) (hn : As.length = n) (hW : (st.map fun v => v.category).sum ≤ 8) (hro : am_room (am_kR k) cells slots d mc1 maxL ms1) (hx : ∀ E h', ¬ X1 E h')
    (kk : ∀ v h', Q1 v h' → am_Ext h h' 0 → am_G k own nm cc nL ret (cells + mc1) (slots + ms1) Q (pc + 3) ls (v.toList ++ st) h') : am_G k own nm cc nL ret cells slots Q pc ls (As.reverse ++ st) h := by
  obtain ⟨p, l, e, R, s, m, args, below, meth, c, h0, D, ac, zc⟩ := k
  intro hC H locs la hR hE hS hl
  have hC' := id hC
  obtain ⟨hx', hbb, hml, -, -, hown, hts, hK, -⟩ := hC'
  exact am_back hC hE hS hl (vx_runS ⟨hx', hbb, hml, hown, hts⟩ (hcon D ac zc H.size) ⟨am_callB hts hm hro, hts _ hi⟩ ⟨am_blind, fun U hU hW' => ⟨rfl, am_pre hC hR hE hS hU hW'⟩⟩ rfl hn hl.1 rfl (by simpa [JFrame.monitorRoom, F0] using hW) hd ⟨hro.2.2.1, hro.2.2.2⟩) hx (fun v h' hv hE' => kk v h' hv (fun a => ⟨(hE' a).1, fun _ _ => Nat.zero_le _⟩))
theorem g_callI {index maxL n d mc1 ms1 b : Nat} {y : MethodName} {bytes : ByteArray} {Q1 : Option Value → am_H → Prop} {X1 : String → am_H → Prop} (As : List Value) (hd : decode cc pc = .ok (.invokespecial index, 3)) (hm : am_mc own index y bytes maxL none n) (hi : Cond.instanceMethod y ∈ am_WS) (hy : y.name = "<init>")
    (hcon : am_Con (am_kl k) y (.code y bytes maxL none) d mc1 ms1 (.ref b :: As) h Q1 X1) (hn : As.length = n) (hW : (st.map fun v => v.category).sum ≤ 8) (hro : am_room (am_kR k) cells slots d mc1 maxL ms1) (hx : ∀ E h', ¬ X1 E h')
    (kk : ∀ v h', Q1 v h' → am_Ext h h' 0 → am_G k own nm cc nL ret (cells + mc1) (slots + ms1) Q (pc + 3) ls (v.toList ++ st) h') : am_G k own nm cc nL ret cells slots Q pc ls (As.reverse ++ .ref b :: st) h := by
  obtain ⟨p, l, e, R, s, m, args, below, meth, c, h0, D, ac, zc⟩ := k
  intro hC H locs la hR hE hS hl
  have hC' := id hC
  obtain ⟨hx', hbb, hml, -, -, hown, hts, hK, -⟩ := hC'
  exact am_back hC hE hS hl (vx_runI ⟨hx', hbb, hml, hown, hts⟩ (hcon D ac zc H.size) ⟨am_callB hts hm hro, hy, hts _ hi⟩ ⟨am_blind, fun U hU hW' => ⟨rfl, am_pre hC hR hE hS hU hW'⟩⟩ rfl hn hl.1 rfl (by simpa [JFrame.monitorRoom, F0] using hW) hd ⟨hro.2.2.1, hro.2.2.2⟩) hx (fun v h' hv hE' => kk v h' hv (fun a => ⟨(hE' a).1, fun _ _ => Nat.zero_le _⟩))
end AMC
end
section
/-! ===== making cells, casts, throws ===== -/
/-- a cell that is new in the machine's heap is new in the picture -/
theorem am_fresh {D : va_G} {ac : Nat → ClassId} {zc : Cell × Cell} {h : am_H} {H : Heap} (hR : am_Rep D ac zc h H) {a : Nat} (ha : H.size ≤ a) : am_K h a = 0 := by
  by_cases z : am_K h a = 0
  · exact z
  · exact absurd ((hR a).1 z) (Nat.not_lt.mpr ha)
theorem am_Rep.nw {D : va_G} {ac : Nat → ClassId} {zc : Cell × Cell} {h : am_H} {H H' : Heap} {k n : Nat} (hR : am_Rep D ac zc h H) (o1 : ∀ q : Nat, q < H.size → H'[q]? = H[q]?) (z : H'.size = H.size + 1) (ha : am_at D ac zc (am_nw h H.size k n) H' H.size) : am_Rep D ac zc (am_nw h H.size k n) H' := by
  intro b
  by_cases e : b = H.size
  · rw [e]; exact ha
  · by_cases hb : b < H.size
    · exact (hR b).kept (am_same_nw e) (o1 b hb) (by omega)
    · have hk : am_K (am_nw h H.size k n) b = 0 := by
        rw [am_K_nw, if_neg e]
        exact am_fresh hR (Nat.not_lt.mp hb)
      refine ⟨fun q => absurd hk q, fun ci q e1 _ => ?_, fun q => ?_, fun q => ?_, fun q => ?_, fun q => ?_, fun q => ?_, fun q => ?_, fun q => ?_⟩
      all_goals (exfalso; omega)
theorem am_Ext.nw {D : va_G} {ac : Nat → ClassId} {zc : Cell × Cell} {h0 h : am_H} {H : Heap} {sz k n : Nat} (hR : am_Rep D ac zc h H) (hE : am_Ext h0 h sz) (hz : sz ≤ H.size) : am_Ext h0 (am_nw h H.size k n) sz := by
  intro a
  by_cases e : a = H.size
  · have h1 : am_K h a = 0 := am_fresh hR (by omega)
    have h2 : am_K h0 a = 0 := by
      by_cases z : am_K h0 a = 0
      · exact z
      · exact absurd (((hE a).1 z).1.symm.trans h1) z
    exact ⟨fun z => absurd h2 z, fun _ _ => by omega⟩
  · rw [am_K_nw, am_N_nw, if_neg e, if_neg e]
    exact hE a
theorem am_S.nw {A : Nat → Prop} {H0 H H' : Heap} {locs : List Loc} (hS : va_S A H0 H locs) (o1 : ∀ q : Nat, q < H.size → H'[q]? = H[q]?) (z : H'.size = H.size + 1) : va_S A H0 H' locs := ⟨Nat.le_trans hS.1 (by omega), fun x h1 h2 => (o1 x (Nat.lt_of_lt_of_le h1 hS.1)).trans (hS.2.1 x h1 h2), hS.2.2⟩
/-- what the tables say of class ci: its number, name, table -/
def am_cl (ci : Nat) (q : vw_C) : Prop := am_C[ci]? = some q ∧ (∀ w ∈ u_ws q.1 q.2.1 q.2.2, w ∈ am_WS) ∧ (∀ k, k < q.2.2 → parseFieldDescriptor (q.2.1 k).2.2.1 = some (am_ty ci k)) ∧ (∀ k, k < q.2.2 → defaultValue (am_ty ci k) = (match am_isR (am_ty ci k) with | true => .null | false => .int 0)) ∧ Cond.instantiable q.1 q.2.2 ∈ am_WS ∧ Cond.initialized q.1 ∈ am_WS
section AMM
variable {k : am_X} {own nm : String} {cc : ByteArray} {nL : Nat} {ret : Option FieldType} {cells slots : Nat} {Q : State → Prop} {pc : Nat} {ls : List (Nat × Value)} {st : List Value} {h : am_H}
theorem g_new {index ci : Nat} {q : vw_C} (hd : decode cc pc = .ok (.new index, 3)) (hc : am_cl ci q) (hl : Cond.classLink own index q.1 ∈ am_WS) (h1 : cells + 1 ≤ (am_kR k).cells) (h2 : slots + q.2.2 ≤ (am_kR k).slots) (kk : ∀ a, am_K h a = 0 → am_G k own nm cc nL ret (cells + 1) (slots + q.2.2) Q (pc + 3) ls (.ref a :: st) (am_nw h a (ci + 1) 0)) : am_G k own nm cc nL ret cells slots Q pc ls st h := by
  obtain ⟨p, l, e, R, s, m, args, below, meth, c, h0, D, ac, zc⟩ := k
  intro hC H locs la hR hE hS hlv
  obtain ⟨hq, hw, hty, hdf, hin, hini⟩ := hc
  obtain ⟨hx, hb, -, -, -, hown, hts, hK, -⟩ := id hC
  have hKn := hK.1 ci q hq
  refine W.newcK hx hb hown (hts _ hl) (hts _ hin) (hts _ hini) rfl hd h1 h2 hKn.2.1 rfl fun H1 kC hkC e1 z1 o1 => ?_
  refine kk H.size (am_fresh hR (Nat.le_refl _)) hC H1 locs la (hR.nw o1 z1 ?_) (hE.nw hR hS.1) (am_S.nw hS o1 z1) hlv
  refine am_at_obj hq (by rw [am_K_nw, if_pos rfl]) (by omega) ((u_born (am_ty ci) hts hw hKn hkC e1 hty).to fun j hj => ?_)
  rw [hdf j hj]
  unfold am_V
  cases hr : am_isR (am_ty ci j) with
  | true => show Value.null = va_rf (am_R (am_nw h H.size (ci + 1) 0) (100 * ci + j) H.size); rw [am_R_nw, if_pos rfl]; rfl
  | false => show Value.int 0 = Value.int (am_I (am_nw h H.size (ci + 1) 0) (100 * ci + j) H.size); rw [am_I_nw, if_pos rfl]
theorem am_cid {s : State} {D : va_G} {ac : Nat → ClassId} {j : Nat} {t : FieldType} {cA : ClassId} (hK : va_K D am_C (am_tys ac) s) (hj : (am_tys ac)[j]? = some (ac j, t)) (hr : va_RA s (ac j) t → s.vm.findClass ("[" ++ t.toString) = some (ac j)) (hcA : s.vm.findClass ("[" ++ t.toString) = some cA) : cA = ac j := Option.some.inj (hcA.symm.trans (hr (hK.2 j _ hj).2))
theorem g_newI {n : Int32} {N : Nat} (hd : decode cc pc = .ok (.newarray .int, 2)) (hw : Cond.arrayClass .int ∈ am_WS) (hn : ¬ n < 0) (hN : n.toNatClampNeg = N) (hb1 : N * 4 ≤ 536870912) (h1 : cells + 1 ≤ (am_kR k).cells) (h2 : slots + N ≤ (am_kR k).slots) (kk : ∀ a, am_K h a = 0 → am_G k own nm cc nL ret (cells + 1) (slots + N) Q (pc + 2) ls (.ref a :: st) (am_nw h a 11 N)) : am_G k own nm cc nL ret cells slots Q pc ls (.int n :: st) h := by
  obtain ⟨p, l, e, R, s, m, args, below, meth, c, h0, D, ac, zc⟩ := k
  intro hC H locs la hR hE hS hlv
  obtain ⟨hx, hb, -, -, -, hown, hts, hK, -⟩ := id hC
  refine va_newaK (atype := .int) hx hb (hts _ hw) rfl hd rfl hn hN hb1 h1 h2 rfl fun H1 cA e1 z1 o1 _ hNm => ?_
  have ec : cA = ac 0 := am_cid (j := 0) (t := .int) hK rfl (fun h => h) hNm
  subst ec
  refine kk H.size (am_fresh hR (Nat.le_refl _)) hC H1 locs la (hR.nw o1 z1 (am_at_11 (by rw [am_K_nw, if_pos rfl]) (by omega) ?_)) (hE.nw hR hS.1) (am_S.nw hS o1 z1) hlv
  rw [e1, am_N_nw, if_pos rfl, vp_cell_i]
  congr 2
  funext j
  rw [am_A_nw, if_pos rfl]
  rfl
theorem g_newZ {n : Int32} {N : Nat} (hd : decode cc pc = .ok (.newarray .boolean, 2)) (hw : Cond.arrayClass .boolean ∈ am_WS) (hn : ¬ n < 0) (hN : n.toNatClampNeg = N) (hb1 : N * 1 ≤ 536870912) (h1 : cells + 1 ≤ (am_kR k).cells) (h2 : slots + N ≤ (am_kR k).slots) (kk : ∀ a, am_K h a = 0 → am_G k own nm cc nL ret (cells + 1) (slots + N) Q (pc + 2) ls (.ref a :: st) (am_nw h a 12 N)) : am_G k own nm cc nL ret cells slots Q pc ls (.int n :: st) h := by
  obtain ⟨p, l, e, R, s, m, args, below, meth, c, h0, D, ac, zc⟩ := k
  intro hC H locs la hR hE hS hlv
  obtain ⟨hx, hb, -, -, -, hown, hts, hK, -⟩ := id hC
  refine va_newaK (atype := .boolean) hx hb (hts _ hw) rfl hd rfl hn hN hb1 h1 h2 rfl fun H1 cA e1 z1 o1 _ hNm => ?_
  have ec : cA = ac 1 := am_cid (j := 1) (t := .boolean) hK rfl (fun h => h) hNm
  subst ec
  refine kk H.size (am_fresh hR (Nat.le_refl _)) hC H1 locs la (hR.nw o1 z1 (am_at_12 (by rw [am_K_nw, if_pos rfl]) (by omega) ?_)) (hE.nw hR hS.1) (am_S.nw hS o1 z1) hlv
  rw [e1, am_N_nw, if_pos rfl, vp_cell_i]
  congr 2
  funext j
  rw [am_A_nw, if_pos rfl]
  rfl
theorem g_newL {n : Int32} {N : Nat} (hd : decode cc pc = .ok (.newarray .long, 2)) (hw : Cond.arrayClass .long ∈ am_WS) (hn : ¬ n < 0) (hN : n.toNatClampNeg = N) (hb1 : N * 8 ≤ 536870912) (h1 : cells + 1 ≤ (am_kR k).cells) (h2 : slots + N ≤ (am_kR k).slots) (kk : ∀ a, am_K h a = 0 → am_G k own nm cc nL ret (cells + 1) (slots + N) Q (pc + 2) ls (.ref a :: st) (am_nw h a 15 N)) : am_G k own nm cc nL ret cells slots Q pc ls (.int n :: st) h := by
  obtain ⟨p, l, e, R, s, m, args, below, meth, c, h0, D, ac, zc⟩ := k
  intro hC H locs la hR hE hS hlv
  obtain ⟨hx, hb, -, -, -, hown, hts, hK, -⟩ := id hC
  refine va_newaK (atype := .long) hx hb (hts _ hw) rfl hd rfl hn hN hb1 h1 h2 rfl fun H1 cA e1 z1 o1 _ hNm => ?_
  have ec : cA = ac 4 := am_cid (j := 4) (t := .long) hK rfl (fun h => h) hNm
  subst ec
  refine kk H.size (am_fresh hR (Nat.le_refl _)) hC H1 locs la (hR.nw o1 z1 (am_at_15 (by rw [am_K_nw, if_pos rfl]) (by omega) ?_)) (hE.nw hR hS.1) (am_S.nw hS o1 z1) hlv
  rw [e1, am_N_nw, if_pos rfl, vp_cell_l]
  congr 2
  funext j
  rw [am_L_nw, if_pos rfl]
  rfl
theorem g_newO {index : Nat} {n : Int32} {N : Nat} (hd : decode cc pc = .ok (.anewarray index, 3)) (hw : Cond.classLink own index "java/lang/Object" ∈ am_WS) (hn : ¬ n < 0) (hN : n.toNatClampNeg = N) (hb1 : N * 4 ≤ 536870912) (h1 : cells + 1 ≤ (am_kR k).cells) (h2 : slots + N ≤ (am_kR k).slots) (kk : ∀ a, am_K h a = 0 → am_G k own nm cc nL ret (cells + 1) (slots + N) Q (pc + 3) ls (.ref a :: st) (am_nw h a 13 N)) : am_G k own nm cc nL ret cells slots Q pc ls (.int n :: st) h := by
  obtain ⟨p, l, e, R, s, m, args, below, meth, c, h0, D, ac, zc⟩ := k
  intro hC H locs la hR hE hS hlv
  obtain ⟨hx, hb, -, -, -, hown, hts, hK, -, -, -, hT, -⟩ := id hC
  subst hN
  refine W.anew hx hb hown (hts _ hw) (va_AO.use hT.2.2.2.2.1) rfl hd rfl hn hb1 h1 h2 fun cA kA comp f1 f2 f3 f4 => ?_
  generalize hH1 : H.push ({ cls := cA, slots := Array.replicate n.toNatClampNeg .null, vm := .none } : Cell) = H1
  have z1 : H1.size = H.size + 1 := by rw [← hH1, Array.size_push]
  have e1 : H1[H.size]? = some (arrV cA n.toNatClampNeg (fun _ => .null)) := by rw [← hH1, Array.getElem?_push_size, ← arrV_new]
  have o1 : ∀ q : Nat, q < H.size → H1[q]? = H[q]? := fun q hq => by rw [← hH1, Array.getElem?_push, if_neg (Nat.ne_of_lt hq)]
  have ec : cA = ac 2 := am_cid (j := 2) (t := .object "java/lang/Object") hK rfl (fun h => by obtain ⟨_, _, _, _, _, h9⟩ := h; exact h9) f1
  subst ec
  refine kk H.size (am_fresh hR (Nat.le_refl _)) hC H1 locs la (hR.nw o1 z1 (am_at_13 (by rw [am_K_nw, if_pos rfl]) (by omega) ?_)) (hE.nw hR hS.1) (am_S.nw hS o1 z1) hlv
  rw [e1, am_N_nw, if_pos rfl, vp_cell_q]
  congr 2
  funext j
  rw [am_B_nw, if_pos rfl]
  rfl
/-- a cast to the object's own class -/
theorem g_castS {index a ci : Nat} {q : vw_C} (hd : decode cc pc = .ok (.checkcast index, 3)) (hl : Cond.classLink own index q.1 ∈ am_WS) (ha : am_K h a = ci + 1) (hq : am_C[ci]? = some q) (kk : am_G k own nm cc nL ret cells slots Q (pc + 3) ls (.ref a :: st) h) : am_G k own nm cc nL ret cells slots Q pc ls (.ref a :: st) h := by
  obtain ⟨p, l, e, R, s, m, args, below, meth, c, h0, D, ac, zc⟩ := k
  intro hC H locs la hR hE hS hlv
  obtain ⟨hx, hb, -, -, -, hown, hts, hK, -⟩ := id hC
  exact va_castS hx hb hown (hts _ hl) (hK.1 ci q hq).2 (am_recv hK hR ha hq) hd (kk hC H locs la hR hE hS hlv)
theorem g_objInit {index a : Nat} (hd : decode cc pc = .ok (.invokespecial index, 3)) (hl : Cond.methodLink own index Lib.objectInit ∈ am_WS) (hi : Cond.instanceMethod Lib.objectInit ∈ am_WS) (hc : Cond.code Lib.objectInit ⟨#[0xb1]⟩ 1 none ∈ am_WS) (hf : 1 ≤ (am_kR k).frames) (hlo : (st.map fun v => v.category).sum + 12 ≤ (am_kR k).locals) (kk : am_G k own nm cc nL ret cells slots Q (pc + 3) ls st h) : am_G k own nm cc nL ret cells slots Q pc ls (.ref a :: st) h := by
  obtain ⟨p, l, e, R, s, m, args, below, meth, c, h0, D, ac, zc⟩ := k
  intro hC H locs la hR hE hS hlv
  obtain ⟨hx, hb, hml, -, -, hown, hts, hK, -⟩ := id hC
  exact W.objInit hx hb hown (hts _ hl) (hts _ hi) (hts _ hc) rfl (hlv.1.trans hml.symm) rfl hd hf (by have hlo' : (st.map fun v => v.category).sum + 12 ≤ R.locals := hlo; simpa [JFrame.monitorRoom, F0] using hlo') (kk hC H locs la hR hE hS hlv)
theorem g_min {index : Nat} {x y : Int32} (hd : decode cc pc = .ok (.invokestatic index, 3)) (hl : Cond.methodLink own index Lib.Math.min.name ∈ am_WS) (hs : Cond.static Lib.Math.min.name ∈ am_WS) (hi : Cond.initialized "java/lang/Math" ∈ am_WS) (hc : Cond.code Lib.Math.min.name Lib.Math.min.code 2 (some .int) ∈ am_WS) (hf : 1 ≤ (am_kR k).frames) (hlo : (st.map fun v => v.category).sum + 13 ≤ (am_kR k).locals) (h1 : cells ≤ (am_kR k).cells) (h2 : slots ≤ (am_kR k).slots) (kk : am_G k own nm cc nL ret cells slots Q (pc + 3) ls (.int (if y < x then y else x) :: st) h) : am_G k own nm cc nL ret cells slots Q pc ls (.int y :: .int x :: st) h := by
  obtain ⟨p, l, e, R, s, m, args, below, meth, c, h0, D, ac, zc⟩ := k
  intro hC H locs la hR hE hS hlv
  obtain ⟨hx, hb, hml, -, -, hown, hts, hK, -⟩ := id hC
  exact va_mmin hx hb (hml.trans hlv.1.symm) hown (hts _ hl) (hts _ hs) (hts _ hi) (hts _ hc) hf hlo h1 h2 hd (kk hC H locs la hR hE hS hlv)
theorem g_max {index : Nat} {x y : Int32} (hd : decode cc pc = .ok (.invokestatic index, 3)) (hl : Cond.methodLink own index Lib.Math.max.name ∈ am_WS) (hs : Cond.static Lib.Math.max.name ∈ am_WS) (hi : Cond.initialized "java/lang/Math" ∈ am_WS) (hc : Cond.code Lib.Math.max.name Lib.Math.max.code 2 (some .int) ∈ am_WS) (hf : 1 ≤ (am_kR k).frames) (hlo : (st.map fun v => v.category).sum + 13 ≤ (am_kR k).locals) (h1 : cells ≤ (am_kR k).cells) (h2 : slots ≤ (am_kR k).slots) (kk : am_G k own nm cc nL ret cells slots Q (pc + 3) ls (.int (if x < y then y else x) :: st) h) : am_G k own nm cc nL ret cells slots Q pc ls (.int y :: .int x :: st) h := by
  obtain ⟨p, l, e, R, s, m, args, below, meth, c, h0, D, ac, zc⟩ := k
  intro hC H locs la hR hE hS hlv
  obtain ⟨hx, hb, hml, -, -, hown, hts, hK, -⟩ := id hC
  exact va_mmax hx hb (hml.trans hlv.1.symm) hown (hts _ hl) (hts _ hs) (hts _ hi) (hts _ hc) hf hlo h1 h2 hd (kk hC H locs la hR hE hS hlv)
theorem g_null (hd : decode cc pc = .ok (.aconst_null, 1)) (kk : am_G k own nm cc nL ret cells slots Q (pc + 1) ls (.null :: st) h) : am_G k own nm cc nL ret cells slots Q pc ls st h := by
  obtain ⟨p, l, e, R, s, m, args, below, meth, c, h0, D, ac, zc⟩ := k
  intro hC H locs la hR hE hS hlv
  exact lv_null hC.1 hC.2.1 hd (kk hC H locs la hR hE hS hlv)
end AMM
/-- the words of 'throw new E(text)' -/
def am_tw (ik ic : Nat) (E : String) : Prop := Cond.classLink RX4 ik E ∈ am_WF ∧ Cond.initialized E ∈ am_WF ∧ (∀ w ∈ vx_atS RX4 ic E ["java/lang/RuntimeException", "java/lang/Exception"], w ∈ am_WF) ∧ Bundle.fit E = true
theorem am_fits : ∀ n ∈ ["java/lang/RuntimeException", "java/lang/Exception"], Bundle.fit n = true := by decide +kernel
section AMT
variable {k : am_X} {nm : String} {cc : ByteArray} {nL : Nat} {ret : Option FieldType} {cells slots : Nat} {pc : Nat} {ls : List (Nat × Value)} {st : List Value} {h : am_H} {mc ms : Nat} {Qr : Option Value → am_H → Prop} {X : String → am_H → Prop}
theorem g_throw {ik is ic : Nat} {E text : String} (d0 : decode cc pc = .ok (.new ik, 3)) (d3 : decode cc (pc + 3) = .ok (.dup, 1)) (d4 : decode cc (pc + 4) = .ok (.ldc is, 2)) (d6 : decode cc (pc + 6) = .ok (.invokespecial ic, 3)) (d9 : decode cc (pc + 9) = .ok (.athrow, 1)) (hw : am_tw ik ic E) (hs : (is, text) ∈ am_strs) (hno : am_noX k) (hf : 5 < (am_kR k).frames) (hlo : (st.map fun v => v.category).sum + 82 ≤ (am_kR k).locals) (h1 : cells + 1 ≤ (am_kR k).cells) (h2 : slots + 6 ≤ (am_kR k).slots) (h3 : cells + 1 ≤ mc) (h4 : slots + 6 ≤ ms) (hx : X E h) : am_G k RX4 nm cc nL ret cells slots (am_Q k mc ms Qr X) pc ls st h := by
  obtain ⟨p, l, e, R, s, m, args, below, meth, c, h0, D, ac, zc⟩ := k
  intro hC H locs la hR hE hS hlv
  obtain ⟨hxx, hb, hml, -, hlk, hown, hts, hK, hst, hZ, -, hT, -⟩ := id hC
  obtain ⟨w1, w2, w3, w4⟩ := hw
  obtain ⟨sa, hsa⟩ := hT.2.2.2.1 _ hs
  have hot : ∀ w ∈ am_WF, vx_ot w = true := fun w hw => by
    have := (List.mem_filter.mp hw).2
    rw [Bool.and_eq_true] at this
    unfold vx_ot
    rw [this.1]
    rfl
  have hbe : ∀ w ∈ am_WF, w.before args s = true := fun w hw => by
    have := (List.mem_filter.mp hw).2
    rw [Bool.and_eq_true] at this
    exact va_Nw.use this.1 (hT.1 w hw)
  refine vx_throwS hxx hb hst hown w4 am_fits (hbe _ w1) (hbe _ w2) hsa (fun w hw => hbe w (w3 w hw)) (fun w hw => ?_) hZ.1 hZ.2 hS (hlv.1.trans hml.symm) d0 d3 d4 d6 d9 (fun x hx => (hno x hx).elim) (by show 2 + 3 < _; exact hf) (by show _ + (13 * (2 + 1) + 43) ≤ _; exact hlo) h1 h2 hlk (fun t hvm hz hk => ?_) hS.2.2 h3 h4
  · rcases List.mem_cons.mp hw with rfl | hw
    · exact hot _ w1
    · rcases List.mem_cons.mp hw with rfl | hw
      · exact hot _ w2
      · exact hot w (w3 w hw)
  · refine ⟨h, hx, ?_, hE, Nat.le_trans hS.1 hz, fun q hq hA => (hk q (Nat.lt_of_lt_of_le hq hS.1)).trans (hS.2.1 q hq hA)⟩
    intro b
    by_cases z : am_K h b = 0
    · refine ⟨fun q => absurd z q, fun ci q e1 _ => ?_, fun q => ?_, fun q => ?_, fun q => ?_, fun q => ?_, fun q => ?_, fun q => ?_, fun q => ?_⟩
      all_goals (exfalso; omega)
    · exact (hR b).kept am_same.rf (hk b ((hR b).1 z)) hz
end AMT
theorem am_twt (ik ic : Nat) (E : String) (h1 : (Cond.classLink RX4 ik E :: Cond.initialized E :: vx_atS RX4 ic E ["java/lang/RuntimeException", "java/lang/Exception"]).all (fun w => decide (w ∈ lw_tbl) && (w.onTables && w.keepsFace)) = true) (h2 : Bundle.fit E = true) : am_tw ik ic E := by
  have h3 : ∀ w ∈ (Cond.classLink RX4 ik E :: Cond.initialized E :: vx_atS RX4 ic E ["java/lang/RuntimeException", "java/lang/Exception"]), w ∈ am_WF := fun w hw => by
    have := List.all_eq_true.mp h1 w hw
    rw [Bool.and_eq_true] at this
    exact List.mem_filter.mpr ⟨of_decide_eq_true this.1, this.2⟩
  exact ⟨h3 _ List.mem_cons_self, h3 _ (List.mem_cons_of_mem _ List.mem_cons_self), fun w hw => h3 w (List.mem_cons_of_mem _ (List.mem_cons_of_mem _ hw)), h2⟩
end
section
theorem am_in {ws : List Cond} (ps : List Nat) (h : ws.map some = ps.map (fun i => lw_tbl[i]?)) (g : ws.all goodWord = true) : ∀ w ∈ ws, w ∈ am_WS := by
  intro w hw
  refine List.mem_filter.mpr ⟨?_, List.all_eq_true.mp g w hw⟩
  obtain ⟨i, hi⟩ := List.getElem?_of_mem hw
  have h1 : (ws.map some)[i]? = some (some w) := by rw [List.getElem?_map, hi]; rfl
  rw [h, List.getElem?_map] at h1
  cases hp : ps[i]? with
  | none => rw [hp] at h1; cases h1
  | some j => rw [hp] at h1; exact List.mem_of_getElem? (Option.some.inj h1)
theorem uw_X0 : ∀ w ∈ u_ws RX0 TX0 4, w ∈ am_WS := am_in [293, 295, 297, 299] (by decide +kernel) (by decide +kernel)
theorem cl_X0 : am_cl 0 (RX0, TX0, 4) := ⟨rfl, uw_X0, tyX0_ok, by decide +kernel, am_ws (i := 277) (by decide +kernel) rfl, am_ws (i := 49) (by decide +kernel) rfl⟩
theorem uw_X1 : ∀ w ∈ u_ws RX1 TX1 14, w ∈ am_WS := am_in [328, 330, 332, 334, 336, 338, 340, 342, 344, 346, 348, 350, 352, 354] (by decide +kernel) (by decide +kernel)
theorem cl_X1 : am_cl 1 (RX1, TX1, 14) := ⟨rfl, uw_X1, tyX1_ok, by decide +kernel, am_ws (i := 271) (by decide +kernel) rfl, am_ws (i := 48) (by decide +kernel) rfl⟩
theorem uw_X2 : ∀ w ∈ u_ws RX2 TX2 7, w ∈ am_WS := am_in [118, 120, 122, 124, 126, 128, 130] (by decide +kernel) (by decide +kernel)
theorem cl_X2 : am_cl 2 (RX2, TX2, 7) := ⟨rfl, uw_X2, tyX2_ok, by decide +kernel, am_ws (i := 100) (by decide +kernel) rfl, am_ws (i := 41) (by decide +kernel) rfl⟩
theorem uw_X3 : ∀ w ∈ u_ws RX3 TX3 4, w ∈ am_WS := am_in [461, 463, 465, 467] (by decide +kernel) (by decide +kernel)
theorem cl_X3 : am_cl 3 (RX3, TX3, 4) := ⟨rfl, uw_X3, tyX3_ok, by decide +kernel, am_ws (i := 447) (by decide +kernel) rfl, am_ws (i := 55) (by decide +kernel) rfl⟩
theorem uw_X4 : ∀ w ∈ u_ws RX4 TX4 9, w ∈ am_WS := am_in [143, 145, 147, 149, 151, 153, 155, 157, 159] (by decide +kernel) (by decide +kernel)
theorem cl_X4 : am_cl 4 (RX4, TX4, 9) := ⟨rfl, uw_X4, tyX4_ok, by decide +kernel, am_ws (i := 66) (by decide +kernel) rfl, am_ws (i := 37) (by decide +kernel) rfl⟩
theorem uw_X5 : ∀ w ∈ u_ws RX5 TX5 35, w ∈ am_WS := am_in [969, 971, 973, 975, 977, 979, 981, 983, 985, 987, 989, 991, 993, 995, 997, 999, 1001, 1003, 1005, 1007, 1009, 1011, 1013, 1015, 1017, 1019, 1021, 1023, 1025, 1027, 1029, 1031, 1033, 1035, 1037] (by decide +kernel) (by decide +kernel)
theorem cl_X5 : am_cl 5 (RX5, TX5, 35) := ⟨rfl, uw_X5, tyX5_ok, by decide +kernel, am_ws (i := 929) (by decide +kernel) rfl, am_ws (i := 42) (by decide +kernel) rfl⟩
theorem uw_AL : ∀ w ∈ u_ws RJx4a65c TJx4a65c 3, w ∈ am_WS := am_in [96, 92, 94] (by decide +kernel) (by decide +kernel)
theorem cl_AL : am_cl 6 (RJx4a65c, TJx4a65c, 3) := ⟨rfl, uw_AL, tyJx4a65c_ok, by decide +kernel, am_ws (i := 74) (by decide +kernel) rfl, am_ws (i := 40) (by decide +kernel) rfl⟩
theorem fl_AL_9 : am_fl RJx4a65c 9 6 1 601 := ⟨rfl, (RJx4a65c, TJx4a65c, 3), "java/util/ArrayList", rfl, by decide, uw_AL, tyJx4a65c_ok, nmJx4a65c, am_ws (i := 87) (by decide +kernel) rfl, Or.inl rfl⟩
theorem fl_AL_48 : am_fl RJx4a65c 48 6 2 602 := ⟨rfl, (RJx4a65c, TJx4a65c, 3), "java/util/ArrayList", rfl, by decide, uw_AL, tyJx4a65c_ok, nmJx4a65c, am_ws (i := 88) (by decide +kernel) rfl, Or.inl rfl⟩
theorem fl_JL_7 : am_fl RJxc12de 7 6 0 600 := ⟨rfl, (RJx4a65c, TJx4a65c, 3), "java/util/AbstractList", rfl, by decide, uw_AL, tyJx4a65c_ok, nmJx4a65c, am_ws (i := 89) (by decide +kernel) rfl, Or.inl rfl⟩
theorem fl_AL_63 : am_fl RJx4a65c 63 6 0 600 := ⟨rfl, (RJx4a65c, TJx4a65c, 3), "java/util/ArrayList", rfl, by decide, uw_AL, tyJx4a65c_ok, nmJx4a65c, am_ws (i := 90) (by decide +kernel) rfl, Or.inr (am_ws (i := 91) (by decide +kernel) rfl)⟩
theorem fl_X2_12 : am_fl RX2 12 2 0 200 := ⟨rfl, (RX2, TX2, 7), "PipewrightExchange$Net", rfl, by decide, uw_X2, tyX2_ok, nmX2, am_ws (i := 109) (by decide +kernel) rfl, Or.inl rfl⟩
theorem fl_X4_86 : am_fl RX4 86 2 0 200 := ⟨rfl, (RX2, TX2, 7), "PipewrightExchange$Net", rfl, by decide, uw_X2, tyX2_ok, nmX2, am_ws (i := 110) (by decide +kernel) rfl, Or.inl rfl⟩
theorem fl_X2_18 : am_fl RX2 18 2 1 201 := ⟨rfl, (RX2, TX2, 7), "PipewrightExchange$Net", rfl, by decide, uw_X2, tyX2_ok, nmX2, am_ws (i := 111) (by decide +kernel) rfl, Or.inl rfl⟩
theorem fl_X4_98 : am_fl RX4 98 2 1 201 := ⟨rfl, (RX2, TX2, 7), "PipewrightExchange$Net", rfl, by decide, uw_X2, tyX2_ok, nmX2, am_ws (i := 112) (by decide +kernel) rfl, Or.inl rfl⟩
theorem fl_X2_22 : am_fl RX2 22 2 2 202 := ⟨rfl, (RX2, TX2, 7), "PipewrightExchange$Net", rfl, by decide, uw_X2, tyX2_ok, nmX2, am_ws (i := 113) (by decide +kernel) rfl, Or.inl rfl⟩
theorem fl_X2_27 : am_fl RX2 27 2 3 203 := ⟨rfl, (RX2, TX2, 7), "PipewrightExchange$Net", rfl, by decide, uw_X2, tyX2_ok, nmX2, am_ws (i := 114) (by decide +kernel) rfl, Or.inl rfl⟩
theorem fl_X2_30 : am_fl RX2 30 2 4 204 := ⟨rfl, (RX2, TX2, 7), "PipewrightExchange$Net", rfl, by decide, uw_X2, tyX2_ok, nmX2, am_ws (i := 115) (by decide +kernel) rfl, Or.inl rfl⟩
theorem fl_X2_34 : am_fl RX2 34 2 5 205 := ⟨rfl, (RX2, TX2, 7), "PipewrightExchange$Net", rfl, by decide, uw_X2, tyX2_ok, nmX2, am_ws (i := 116) (by decide +kernel) rfl, Or.inl rfl⟩
theorem fl_X2_37 : am_fl RX2 37 2 6 206 := ⟨rfl, (RX2, TX2, 7), "PipewrightExchange$Net", rfl, by decide, uw_X2, tyX2_ok, nmX2, am_ws (i := 117) (by decide +kernel) rfl, Or.inl rfl⟩
theorem fl_X4_12 : am_fl RX4 12 4 0 400 := ⟨rfl, (RX4, TX4, 9), "PipewrightExchange", rfl, by decide, uw_X4, tyX4_ok, nmX4, am_ws (i := 134) (by decide +kernel) rfl, Or.inl rfl⟩
theorem fl_X4_19 : am_fl RX4 19 4 1 401 := ⟨rfl, (RX4, TX4, 9), "PipewrightExchange", rfl, by decide, uw_X4, tyX4_ok, nmX4, am_ws (i := 135) (by decide +kernel) rfl, Or.inl rfl⟩
theorem fl_X4_23 : am_fl RX4 23 4 2 402 := ⟨rfl, (RX4, TX4, 9), "PipewrightExchange", rfl, by decide, uw_X4, tyX4_ok, nmX4, am_ws (i := 136) (by decide +kernel) rfl, Or.inl rfl⟩
theorem fl_X4_26 : am_fl RX4 26 4 3 403 := ⟨rfl, (RX4, TX4, 9), "PipewrightExchange", rfl, by decide, uw_X4, tyX4_ok, nmX4, am_ws (i := 137) (by decide +kernel) rfl, Or.inl rfl⟩
theorem fl_X4_30 : am_fl RX4 30 4 4 404 := ⟨rfl, (RX4, TX4, 9), "PipewrightExchange", rfl, by decide, uw_X4, tyX4_ok, nmX4, am_ws (i := 138) (by decide +kernel) rfl, Or.inl rfl⟩
theorem fl_X4_33 : am_fl RX4 33 4 5 405 := ⟨rfl, (RX4, TX4, 9), "PipewrightExchange", rfl, by decide, uw_X4, tyX4_ok, nmX4, am_ws (i := 139) (by decide +kernel) rfl, Or.inl rfl⟩
theorem fl_X4_37 : am_fl RX4 37 4 6 406 := ⟨rfl, (RX4, TX4, 9), "PipewrightExchange", rfl, by decide, uw_X4, tyX4_ok, nmX4, am_ws (i := 140) (by decide +kernel) rfl, Or.inl rfl⟩
theorem fl_X4_40 : am_fl RX4 40 4 7 407 := ⟨rfl, (RX4, TX4, 9), "PipewrightExchange", rfl, by decide, uw_X4, tyX4_ok, nmX4, am_ws (i := 141) (by decide +kernel) rfl, Or.inl rfl⟩
theorem fl_X4_43 : am_fl RX4 43 4 8 408 := ⟨rfl, (RX4, TX4, 9), "PipewrightExchange", rfl, by decide, uw_X4, tyX4_ok, nmX4, am_ws (i := 142) (by decide +kernel) rfl, Or.inl rfl⟩
theorem fl_X0_7 : am_fl RX0 7 0 0 0 := ⟨rfl, (RX0, TX0, 4), "PipewrightExchange$Bid", rfl, by decide, uw_X0, tyX0_ok, nmX0, am_ws (i := 282) (by decide +kernel) rfl, Or.inl rfl⟩
theorem fl_X1_57 : am_fl RX1 57 0 0 0 := ⟨rfl, (RX0, TX0, 4), "PipewrightExchange$Bid", rfl, by decide, uw_X0, tyX0_ok, nmX0, am_ws (i := 283) (by decide +kernel) rfl, Or.inl rfl⟩
theorem fl_X4_116 : am_fl RX4 116 0 0 0 := ⟨rfl, (RX0, TX0, 4), "PipewrightExchange$Bid", rfl, by decide, uw_X0, tyX0_ok, nmX0, am_ws (i := 284) (by decide +kernel) rfl, Or.inl rfl⟩
theorem fl_X0_13 : am_fl RX0 13 0 1 1 := ⟨rfl, (RX0, TX0, 4), "PipewrightExchange$Bid", rfl, by decide, uw_X0, tyX0_ok, nmX0, am_ws (i := 285) (by decide +kernel) rfl, Or.inl rfl⟩
theorem fl_X1_60 : am_fl RX1 60 0 1 1 := ⟨rfl, (RX0, TX0, 4), "PipewrightExchange$Bid", rfl, by decide, uw_X0, tyX0_ok, nmX0, am_ws (i := 286) (by decide +kernel) rfl, Or.inl rfl⟩
theorem fl_X4_121 : am_fl RX4 121 0 1 1 := ⟨rfl, (RX0, TX0, 4), "PipewrightExchange$Bid", rfl, by decide, uw_X0, tyX0_ok, nmX0, am_ws (i := 287) (by decide +kernel) rfl, Or.inl rfl⟩
theorem fl_X0_17 : am_fl RX0 17 0 2 2 := ⟨rfl, (RX0, TX0, 4), "PipewrightExchange$Bid", rfl, by decide, uw_X0, tyX0_ok, nmX0, am_ws (i := 288) (by decide +kernel) rfl, Or.inl rfl⟩
theorem fl_X1_63 : am_fl RX1 63 0 2 2 := ⟨rfl, (RX0, TX0, 4), "PipewrightExchange$Bid", rfl, by decide, uw_X0, tyX0_ok, nmX0, am_ws (i := 289) (by decide +kernel) rfl, Or.inl rfl⟩
theorem fl_X4_178 : am_fl RX4 178 0 2 2 := ⟨rfl, (RX0, TX0, 4), "PipewrightExchange$Bid", rfl, by decide, uw_X0, tyX0_ok, nmX0, am_ws (i := 290) (by decide +kernel) rfl, Or.inl rfl⟩
theorem fl_X0_20 : am_fl RX0 20 0 3 3 := ⟨rfl, (RX0, TX0, 4), "PipewrightExchange$Bid", rfl, by decide, uw_X0, tyX0_ok, nmX0, am_ws (i := 291) (by decide +kernel) rfl, Or.inl rfl⟩
theorem fl_X1_66 : am_fl RX1 66 0 3 3 := ⟨rfl, (RX0, TX0, 4), "PipewrightExchange$Bid", rfl, by decide, uw_X0, tyX0_ok, nmX0, am_ws (i := 292) (by decide +kernel) rfl, Or.inl rfl⟩
theorem fl_X1_48 : am_fl RX1 48 1 0 100 := ⟨rfl, (RX1, TX1, 14), "PipewrightExchange$District", rfl, by decide, uw_X1, tyX1_ok, nmX1, am_ws (i := 302) (by decide +kernel) rfl, Or.inl rfl⟩
theorem fl_X4_211 : am_fl RX4 211 1 0 100 := ⟨rfl, (RX1, TX1, 14), "PipewrightExchange$District", rfl, by decide, uw_X1, tyX1_ok, nmX1, am_ws (i := 303) (by decide +kernel) rfl, Or.inl rfl⟩
theorem fl_X1_51 : am_fl RX1 51 1 1 101 := ⟨rfl, (RX1, TX1, 14), "PipewrightExchange$District", rfl, by decide, uw_X1, tyX1_ok, nmX1, am_ws (i := 304) (by decide +kernel) rfl, Or.inl rfl⟩
theorem fl_X1_54 : am_fl RX1 54 1 2 102 := ⟨rfl, (RX1, TX1, 14), "PipewrightExchange$District", rfl, by decide, uw_X1, tyX1_ok, nmX1, am_ws (i := 305) (by decide +kernel) rfl, Or.inl rfl⟩
theorem fl_X4_107 : am_fl RX4 107 1 2 102 := ⟨rfl, (RX1, TX1, 14), "PipewrightExchange$District", rfl, by decide, uw_X1, tyX1_ok, nmX1, am_ws (i := 306) (by decide +kernel) rfl, Or.inl rfl⟩
theorem fl_X1_7 : am_fl RX1 7 1 3 103 := ⟨rfl, (RX1, TX1, 14), "PipewrightExchange$District", rfl, by decide, uw_X1, tyX1_ok, nmX1, am_ws (i := 307) (by decide +kernel) rfl, Or.inl rfl⟩
theorem fl_X4_175 : am_fl RX4 175 1 3 103 := ⟨rfl, (RX1, TX1, 14), "PipewrightExchange$District", rfl, by decide, uw_X1, tyX1_ok, nmX1, am_ws (i := 308) (by decide +kernel) rfl, Or.inl rfl⟩
theorem fl_X1_16 : am_fl RX1 16 1 4 104 := ⟨rfl, (RX1, TX1, 14), "PipewrightExchange$District", rfl, by decide, uw_X1, tyX1_ok, nmX1, am_ws (i := 309) (by decide +kernel) rfl, Or.inl rfl⟩
theorem fl_X4_112 : am_fl RX4 112 1 4 104 := ⟨rfl, (RX1, TX1, 14), "PipewrightExchange$District", rfl, by decide, uw_X1, tyX1_ok, nmX1, am_ws (i := 310) (by decide +kernel) rfl, Or.inl rfl⟩
theorem fl_X1_20 : am_fl RX1 20 1 5 105 := ⟨rfl, (RX1, TX1, 14), "PipewrightExchange$District", rfl, by decide, uw_X1, tyX1_ok, nmX1, am_ws (i := 311) (by decide +kernel) rfl, Or.inl rfl⟩
theorem fl_X4_126 : am_fl RX4 126 1 5 105 := ⟨rfl, (RX1, TX1, 14), "PipewrightExchange$District", rfl, by decide, uw_X1, tyX1_ok, nmX1, am_ws (i := 312) (by decide +kernel) rfl, Or.inl rfl⟩
theorem fl_X1_23 : am_fl RX1 23 1 6 106 := ⟨rfl, (RX1, TX1, 14), "PipewrightExchange$District", rfl, by decide, uw_X1, tyX1_ok, nmX1, am_ws (i := 313) (by decide +kernel) rfl, Or.inl rfl⟩
theorem fl_X1_27 : am_fl RX1 27 1 7 107 := ⟨rfl, (RX1, TX1, 14), "PipewrightExchange$District", rfl, by decide, uw_X1, tyX1_ok, nmX1, am_ws (i := 314) (by decide +kernel) rfl, Or.inl rfl⟩
theorem fl_X4_237 : am_fl RX4 237 1 7 107 := ⟨rfl, (RX1, TX1, 14), "PipewrightExchange$District", rfl, by decide, uw_X1, tyX1_ok, nmX1, am_ws (i := 315) (by decide +kernel) rfl, Or.inl rfl⟩
theorem fl_X1_30 : am_fl RX1 30 1 8 108 := ⟨rfl, (RX1, TX1, 14), "PipewrightExchange$District", rfl, by decide, uw_X1, tyX1_ok, nmX1, am_ws (i := 316) (by decide +kernel) rfl, Or.inl rfl⟩
theorem fl_X4_160 : am_fl RX4 160 1 8 108 := ⟨rfl, (RX1, TX1, 14), "PipewrightExchange$District", rfl, by decide, uw_X1, tyX1_ok, nmX1, am_ws (i := 317) (by decide +kernel) rfl, Or.inl rfl⟩
theorem fl_X1_33 : am_fl RX1 33 1 9 109 := ⟨rfl, (RX1, TX1, 14), "PipewrightExchange$District", rfl, by decide, uw_X1, tyX1_ok, nmX1, am_ws (i := 318) (by decide +kernel) rfl, Or.inl rfl⟩
theorem fl_X4_181 : am_fl RX4 181 1 9 109 := ⟨rfl, (RX1, TX1, 14), "PipewrightExchange$District", rfl, by decide, uw_X1, tyX1_ok, nmX1, am_ws (i := 319) (by decide +kernel) rfl, Or.inl rfl⟩
theorem fl_X1_36 : am_fl RX1 36 1 10 110 := ⟨rfl, (RX1, TX1, 14), "PipewrightExchange$District", rfl, by decide, uw_X1, tyX1_ok, nmX1, am_ws (i := 320) (by decide +kernel) rfl, Or.inl rfl⟩
theorem fl_X4_184 : am_fl RX4 184 1 10 110 := ⟨rfl, (RX1, TX1, 14), "PipewrightExchange$District", rfl, by decide, uw_X1, tyX1_ok, nmX1, am_ws (i := 321) (by decide +kernel) rfl, Or.inl rfl⟩
theorem fl_X1_39 : am_fl RX1 39 1 11 111 := ⟨rfl, (RX1, TX1, 14), "PipewrightExchange$District", rfl, by decide, uw_X1, tyX1_ok, nmX1, am_ws (i := 322) (by decide +kernel) rfl, Or.inl rfl⟩
theorem fl_X4_187 : am_fl RX4 187 1 11 111 := ⟨rfl, (RX1, TX1, 14), "PipewrightExchange$District", rfl, by decide, uw_X1, tyX1_ok, nmX1, am_ws (i := 323) (by decide +kernel) rfl, Or.inl rfl⟩
theorem fl_X1_42 : am_fl RX1 42 1 12 112 := ⟨rfl, (RX1, TX1, 14), "PipewrightExchange$District", rfl, by decide, uw_X1, tyX1_ok, nmX1, am_ws (i := 324) (by decide +kernel) rfl, Or.inl rfl⟩
theorem fl_X4_190 : am_fl RX4 190 1 12 112 := ⟨rfl, (RX1, TX1, 14), "PipewrightExchange$District", rfl, by decide, uw_X1, tyX1_ok, nmX1, am_ws (i := 325) (by decide +kernel) rfl, Or.inl rfl⟩
theorem fl_X1_45 : am_fl RX1 45 1 13 113 := ⟨rfl, (RX1, TX1, 14), "PipewrightExchange$District", rfl, by decide, uw_X1, tyX1_ok, nmX1, am_ws (i := 326) (by decide +kernel) rfl, Or.inl rfl⟩
theorem fl_X4_193 : am_fl RX4 193 1 13 113 := ⟨rfl, (RX1, TX1, 14), "PipewrightExchange$District", rfl, by decide, uw_X1, tyX1_ok, nmX1, am_ws (i := 327) (by decide +kernel) rfl, Or.inl rfl⟩
theorem fl_X3_13 : am_fl RX3 13 3 0 300 := ⟨rfl, (RX3, TX3, 4), "PipewrightExchange$Pipe", rfl, by decide, uw_X3, tyX3_ok, nmX3, am_ws (i := 452) (by decide +kernel) rfl, Or.inl rfl⟩
theorem fl_X2_54 : am_fl RX2 54 3 0 300 := ⟨rfl, (RX3, TX3, 4), "PipewrightExchange$Pipe", rfl, by decide, uw_X3, tyX3_ok, nmX3, am_ws (i := 453) (by decide +kernel) rfl, Or.inl rfl⟩
theorem fl_X3_17 : am_fl RX3 17 3 1 301 := ⟨rfl, (RX3, TX3, 4), "PipewrightExchange$Pipe", rfl, by decide, uw_X3, tyX3_ok, nmX3, am_ws (i := 454) (by decide +kernel) rfl, Or.inl rfl⟩
theorem fl_X2_57 : am_fl RX2 57 3 1 301 := ⟨rfl, (RX3, TX3, 4), "PipewrightExchange$Pipe", rfl, by decide, uw_X3, tyX3_ok, nmX3, am_ws (i := 455) (by decide +kernel) rfl, Or.inl rfl⟩
theorem fl_X3_20 : am_fl RX3 20 3 2 302 := ⟨rfl, (RX3, TX3, 4), "PipewrightExchange$Pipe", rfl, by decide, uw_X3, tyX3_ok, nmX3, am_ws (i := 456) (by decide +kernel) rfl, Or.inl rfl⟩
theorem fl_X2_60 : am_fl RX2 60 3 2 302 := ⟨rfl, (RX3, TX3, 4), "PipewrightExchange$Pipe", rfl, by decide, uw_X3, tyX3_ok, nmX3, am_ws (i := 457) (by decide +kernel) rfl, Or.inl rfl⟩
theorem fl_X3_7 : am_fl RX3 7 3 3 303 := ⟨rfl, (RX3, TX3, 4), "PipewrightExchange$Pipe", rfl, by decide, uw_X3, tyX3_ok, nmX3, am_ws (i := 458) (by decide +kernel) rfl, Or.inl rfl⟩
theorem fl_X2_50 : am_fl RX2 50 3 3 303 := ⟨rfl, (RX3, TX3, 4), "PipewrightExchange$Pipe", rfl, by decide, uw_X3, tyX3_ok, nmX3, am_ws (i := 459) (by decide +kernel) rfl, Or.inl rfl⟩
theorem fl_X4_148 : am_fl RX4 148 3 3 303 := ⟨rfl, (RX3, TX3, 4), "PipewrightExchange$Pipe", rfl, by decide, uw_X3, tyX3_ok, nmX3, am_ws (i := 460) (by decide +kernel) rfl, Or.inl rfl⟩
theorem fl_X5_169 : am_fl RX5 169 5 0 500 := ⟨rfl, (RX5, TX5, 35), "PipewrightExchangeModel", rfl, by decide, uw_X5, tyX5_ok, nmX5, am_ws (i := 934) (by decide +kernel) rfl, Or.inl rfl⟩
theorem fl_X5_110 : am_fl RX5 110 5 1 501 := ⟨rfl, (RX5, TX5, 35), "PipewrightExchangeModel", rfl, by decide, uw_X5, tyX5_ok, nmX5, am_ws (i := 935) (by decide +kernel) rfl, Or.inl rfl⟩
theorem fl_X5_113 : am_fl RX5 113 5 2 502 := ⟨rfl, (RX5, TX5, 35), "PipewrightExchangeModel", rfl, by decide, uw_X5, tyX5_ok, nmX5, am_ws (i := 936) (by decide +kernel) rfl, Or.inl rfl⟩
theorem fl_X5_93 : am_fl RX5 93 5 3 503 := ⟨rfl, (RX5, TX5, 35), "PipewrightExchangeModel", rfl, by decide, uw_X5, tyX5_ok, nmX5, am_ws (i := 937) (by decide +kernel) rfl, Or.inl rfl⟩
theorem fl_X5_7 : am_fl RX5 7 5 4 504 := ⟨rfl, (RX5, TX5, 35), "PipewrightExchangeModel", rfl, by decide, uw_X5, tyX5_ok, nmX5, am_ws (i := 938) (by decide +kernel) rfl, Or.inl rfl⟩
theorem fl_X5_13 : am_fl RX5 13 5 5 505 := ⟨rfl, (RX5, TX5, 35), "PipewrightExchangeModel", rfl, by decide, uw_X5, tyX5_ok, nmX5, am_ws (i := 939) (by decide +kernel) rfl, Or.inl rfl⟩
theorem fl_X5_16 : am_fl RX5 16 5 6 506 := ⟨rfl, (RX5, TX5, 35), "PipewrightExchangeModel", rfl, by decide, uw_X5, tyX5_ok, nmX5, am_ws (i := 940) (by decide +kernel) rfl, Or.inl rfl⟩
theorem fl_X5_19 : am_fl RX5 19 5 7 507 := ⟨rfl, (RX5, TX5, 35), "PipewrightExchangeModel", rfl, by decide, uw_X5, tyX5_ok, nmX5, am_ws (i := 941) (by decide +kernel) rfl, Or.inl rfl⟩
theorem fl_X5_22 : am_fl RX5 22 5 8 508 := ⟨rfl, (RX5, TX5, 35), "PipewrightExchangeModel", rfl, by decide, uw_X5, tyX5_ok, nmX5, am_ws (i := 942) (by decide +kernel) rfl, Or.inl rfl⟩
theorem fl_X5_25 : am_fl RX5 25 5 9 509 := ⟨rfl, (RX5, TX5, 35), "PipewrightExchangeModel", rfl, by decide, uw_X5, tyX5_ok, nmX5, am_ws (i := 943) (by decide +kernel) rfl, Or.inl rfl⟩
theorem fl_X5_28 : am_fl RX5 28 5 10 510 := ⟨rfl, (RX5, TX5, 35), "PipewrightExchangeModel", rfl, by decide, uw_X5, tyX5_ok, nmX5, am_ws (i := 944) (by decide +kernel) rfl, Or.inl rfl⟩
theorem fl_X5_32 : am_fl RX5 32 5 11 511 := ⟨rfl, (RX5, TX5, 35), "PipewrightExchangeModel", rfl, by decide, uw_X5, tyX5_ok, nmX5, am_ws (i := 945) (by decide +kernel) rfl, Or.inl rfl⟩
theorem fl_X5_35 : am_fl RX5 35 5 12 512 := ⟨rfl, (RX5, TX5, 35), "PipewrightExchangeModel", rfl, by decide, uw_X5, tyX5_ok, nmX5, am_ws (i := 946) (by decide +kernel) rfl, Or.inl rfl⟩
theorem fl_X5_38 : am_fl RX5 38 5 13 513 := ⟨rfl, (RX5, TX5, 35), "PipewrightExchangeModel", rfl, by decide, uw_X5, tyX5_ok, nmX5, am_ws (i := 947) (by decide +kernel) rfl, Or.inl rfl⟩
theorem fl_X5_41 : am_fl RX5 41 5 14 514 := ⟨rfl, (RX5, TX5, 35), "PipewrightExchangeModel", rfl, by decide, uw_X5, tyX5_ok, nmX5, am_ws (i := 948) (by decide +kernel) rfl, Or.inl rfl⟩
theorem fl_X5_44 : am_fl RX5 44 5 15 515 := ⟨rfl, (RX5, TX5, 35), "PipewrightExchangeModel", rfl, by decide, uw_X5, tyX5_ok, nmX5, am_ws (i := 949) (by decide +kernel) rfl, Or.inl rfl⟩
theorem fl_X5_154 : am_fl RX5 154 5 16 516 := ⟨rfl, (RX5, TX5, 35), "PipewrightExchangeModel", rfl, by decide, uw_X5, tyX5_ok, nmX5, am_ws (i := 950) (by decide +kernel) rfl, Or.inl rfl⟩
theorem fl_X5_47 : am_fl RX5 47 5 17 517 := ⟨rfl, (RX5, TX5, 35), "PipewrightExchangeModel", rfl, by decide, uw_X5, tyX5_ok, nmX5, am_ws (i := 951) (by decide +kernel) rfl, Or.inl rfl⟩
theorem fl_X5_50 : am_fl RX5 50 5 18 518 := ⟨rfl, (RX5, TX5, 35), "PipewrightExchangeModel", rfl, by decide, uw_X5, tyX5_ok, nmX5, am_ws (i := 952) (by decide +kernel) rfl, Or.inl rfl⟩
theorem fl_X5_53 : am_fl RX5 53 5 19 519 := ⟨rfl, (RX5, TX5, 35), "PipewrightExchangeModel", rfl, by decide, uw_X5, tyX5_ok, nmX5, am_ws (i := 953) (by decide +kernel) rfl, Or.inl rfl⟩
theorem fl_X5_56 : am_fl RX5 56 5 20 520 := ⟨rfl, (RX5, TX5, 35), "PipewrightExchangeModel", rfl, by decide, uw_X5, tyX5_ok, nmX5, am_ws (i := 954) (by decide +kernel) rfl, Or.inl rfl⟩
theorem fl_X5_59 : am_fl RX5 59 5 21 521 := ⟨rfl, (RX5, TX5, 35), "PipewrightExchangeModel", rfl, by decide, uw_X5, tyX5_ok, nmX5, am_ws (i := 955) (by decide +kernel) rfl, Or.inl rfl⟩
theorem fl_X5_62 : am_fl RX5 62 5 22 522 := ⟨rfl, (RX5, TX5, 35), "PipewrightExchangeModel", rfl, by decide, uw_X5, tyX5_ok, nmX5, am_ws (i := 956) (by decide +kernel) rfl, Or.inl rfl⟩
theorem fl_X5_172 : am_fl RX5 172 5 23 523 := ⟨rfl, (RX5, TX5, 35), "PipewrightExchangeModel", rfl, by decide, uw_X5, tyX5_ok, nmX5, am_ws (i := 957) (by decide +kernel) rfl, Or.inl rfl⟩
theorem fl_X5_100 : am_fl RX5 100 5 24 524 := ⟨rfl, (RX5, TX5, 35), "PipewrightExchangeModel", rfl, by decide, uw_X5, tyX5_ok, nmX5, am_ws (i := 958) (by decide +kernel) rfl, Or.inl rfl⟩
theorem fl_X5_65 : am_fl RX5 65 5 25 525 := ⟨rfl, (RX5, TX5, 35), "PipewrightExchangeModel", rfl, by decide, uw_X5, tyX5_ok, nmX5, am_ws (i := 959) (by decide +kernel) rfl, Or.inl rfl⟩
theorem fl_X5_68 : am_fl RX5 68 5 26 526 := ⟨rfl, (RX5, TX5, 35), "PipewrightExchangeModel", rfl, by decide, uw_X5, tyX5_ok, nmX5, am_ws (i := 960) (by decide +kernel) rfl, Or.inl rfl⟩
theorem fl_X5_71 : am_fl RX5 71 5 27 527 := ⟨rfl, (RX5, TX5, 35), "PipewrightExchangeModel", rfl, by decide, uw_X5, tyX5_ok, nmX5, am_ws (i := 961) (by decide +kernel) rfl, Or.inl rfl⟩
theorem fl_X5_74 : am_fl RX5 74 5 28 528 := ⟨rfl, (RX5, TX5, 35), "PipewrightExchangeModel", rfl, by decide, uw_X5, tyX5_ok, nmX5, am_ws (i := 962) (by decide +kernel) rfl, Or.inl rfl⟩
theorem fl_X5_77 : am_fl RX5 77 5 29 529 := ⟨rfl, (RX5, TX5, 35), "PipewrightExchangeModel", rfl, by decide, uw_X5, tyX5_ok, nmX5, am_ws (i := 963) (by decide +kernel) rfl, Or.inl rfl⟩
theorem fl_X5_116 : am_fl RX5 116 5 30 530 := ⟨rfl, (RX5, TX5, 35), "PipewrightExchangeModel", rfl, by decide, uw_X5, tyX5_ok, nmX5, am_ws (i := 964) (by decide +kernel) rfl, Or.inl rfl⟩
theorem fl_X5_80 : am_fl RX5 80 5 31 531 := ⟨rfl, (RX5, TX5, 35), "PipewrightExchangeModel", rfl, by decide, uw_X5, tyX5_ok, nmX5, am_ws (i := 965) (by decide +kernel) rfl, Or.inl rfl⟩
theorem fl_X5_83 : am_fl RX5 83 5 32 532 := ⟨rfl, (RX5, TX5, 35), "PipewrightExchangeModel", rfl, by decide, uw_X5, tyX5_ok, nmX5, am_ws (i := 966) (by decide +kernel) rfl, Or.inl rfl⟩
theorem fl_X5_86 : am_fl RX5 86 5 33 533 := ⟨rfl, (RX5, TX5, 35), "PipewrightExchangeModel", rfl, by decide, uw_X5, tyX5_ok, nmX5, am_ws (i := 967) (by decide +kernel) rfl, Or.inl rfl⟩
theorem fl_X5_89 : am_fl RX5 89 5 34 534 := ⟨rfl, (RX5, TX5, 35), "PipewrightExchangeModel", rfl, by decide, uw_X5, tyX5_ok, nmX5, am_ws (i := 968) (by decide +kernel) rfl, Or.inl rfl⟩
theorem mc_L_63 : am_mc RL 63 yX4_init cX4_init 1 none 0 := ⟨am_ws (i := 67) (by decide +kernel) rfl, am_ws (i := 69) (by decide +kernel) rfl, am_ws (i := 37) (by decide +kernel) rfl, ⟨by decide +kernel, by decide +kernel⟩, by decide +kernel⟩
theorem mc_X4_11 : am_mc RX4 11 yJx4a65c_init_da8c8 cJx4a65c_init_da8c8 1 none 0 := ⟨am_ws (i := 75) (by decide +kernel) rfl, am_ws (i := 77) (by decide +kernel) rfl, am_ws (i := 40) (by decide +kernel) rfl, ⟨by decide +kernel, by decide +kernel⟩, by decide +kernel⟩
theorem mc_AL_1 : am_mc RJx4a65c 1 yJxc12de_init_da8c8 cJxc12de_init_da8c8 1 none 0 := ⟨am_ws (i := 78) (by decide +kernel) rfl, am_ws (i := 80) (by decide +kernel) rfl, am_ws (i := 39) (by decide +kernel) rfl, ⟨by decide +kernel, by decide +kernel⟩, by decide +kernel⟩
theorem mc_JL_1 : am_mc RJxc12de 1 yJxa1e45_init_da8c8 cJxa1e45_init_da8c8 1 none 0 := ⟨am_ws (i := 81) (by decide +kernel) rfl, am_ws (i := 83) (by decide +kernel) rfl, am_ws (i := 38) (by decide +kernel) rfl, ⟨by decide +kernel, by decide +kernel⟩, by decide +kernel⟩
theorem mc_X2_11 : am_mc RX2 11 yJx4a65c_init_da8c8 cJx4a65c_init_da8c8 1 none 0 := ⟨am_ws (i := 106) (by decide +kernel) rfl, am_ws (i := 77) (by decide +kernel) rfl, am_ws (i := 40) (by decide +kernel) rfl, ⟨by decide +kernel, by decide +kernel⟩, by decide +kernel⟩
theorem mc_L_104 : am_mc RL 104 yX4_hour cX4_hour 1 (some .int) 0 := ⟨am_ws (i := 162) (by decide +kernel) rfl, am_ws (i := 165) (by decide +kernel) rfl, am_ws (i := 37) (by decide +kernel) rfl, ⟨by decide +kernel, by decide +kernel⟩, by decide +kernel⟩
theorem mc_L_108 : am_mc RL 108 yX4_round cX4_round 1 (some .int) 0 := ⟨am_ws (i := 166) (by decide +kernel) rfl, am_ws (i := 169) (by decide +kernel) rfl, am_ws (i := 37) (by decide +kernel) rfl, ⟨by decide +kernel, by decide +kernel⟩, by decide +kernel⟩
theorem mc_L_7 : am_mc RL 7 yX4_district cX4_district 4 (some .int) 2 := ⟨am_ws (i := 175) (by decide +kernel) rfl, am_ws (i := 178) (by decide +kernel) rfl, am_ws (i := 37) (by decide +kernel) rfl, ⟨by decide +kernel, by decide +kernel⟩, by decide +kernel⟩
theorem mc_X4_46 : am_mc RX4 46 yX4_isOutside cX4_isOutside 3 (some .boolean) 3 := ⟨am_ws (i := 179) (by decide +kernel) rfl, am_ws (i := 181) (by decide +kernel) rfl, am_ws (i := 37) (by decide +kernel) rfl, ⟨by decide +kernel, by decide +kernel⟩, by decide +kernel⟩
theorem mc_X4_57 : am_mc RX4 57 yJx4a65c_size_8abf5 cJx4a65c_size_8abf5 1 (some .int) 0 := ⟨am_ws (i := 250) (by decide +kernel) rfl, am_ws (i := 253) (by decide +kernel) rfl, am_ws (i := 40) (by decide +kernel) rfl, ⟨by decide +kernel, by decide +kernel⟩, by decide +kernel⟩
theorem mc_X4_68 : am_mc RX4 68 yX1_init cX1_init 4 none 3 := ⟨am_ws (i := 272) (by decide +kernel) rfl, am_ws (i := 274) (by decide +kernel) rfl, am_ws (i := 48) (by decide +kernel) rfl, ⟨by decide +kernel, by decide +kernel⟩, by decide +kernel⟩
theorem mc_X4_71 : am_mc RX4 71 yJx4a65c_add_9ea2d cJx4a65c_add_9ea2d 2 (some .boolean) 1 := ⟨am_ws (i := 357) (by decide +kernel) rfl, am_ws (i := 360) (by decide +kernel) rfl, am_ws (i := 40) (by decide +kernel) rfl, ⟨by decide +kernel, by decide +kernel⟩, by decide +kernel⟩
theorem mc_AL_131 : am_mc RJx4a65c 131 yJx4a65c_add_72be8 cJx4a65c_add_72be8 4 none 3 := ⟨am_ws (i := 361) (by decide +kernel) rfl, am_ws (i := 364) (by decide +kernel) rfl, am_ws (i := 40) (by decide +kernel) rfl, ⟨by decide +kernel, by decide +kernel⟩, by decide +kernel⟩
theorem mc_AL_129 : am_mc RJx4a65c 129 yJx4a65c_grow_d5877 cJx4a65c_grow_d5877 1 (some (.array (.object "java/lang/Object"))) 0 := ⟨am_ws (i := 365) (by decide +kernel) rfl, am_ws (i := 368) (by decide +kernel) rfl, am_ws (i := 40) (by decide +kernel) rfl, ⟨by decide +kernel, by decide +kernel⟩, by decide +kernel⟩
theorem mc_AL_69 : am_mc RJx4a65c 69 yJx4a65c_grow_92f84 cJx4a65c_grow_92f84 4 (some (.array (.object "java/lang/Object"))) 1 := ⟨am_ws (i := 369) (by decide +kernel) rfl, am_ws (i := 372) (by decide +kernel) rfl, am_ws (i := 40) (by decide +kernel) rfl, ⟨by decide +kernel, by decide +kernel⟩, by decide +kernel⟩
theorem mc_AL_73 : am_mc RJx4a65c 73 yJ8_newLength_cabcc cJ8_newLength_cabcc 4 (some .int) 3 := ⟨am_ws (i := 373) (by decide +kernel) rfl, am_ws (i := 375) (by decide +kernel) rfl, am_ws (i := 50) (by decide +kernel) rfl, ⟨by decide +kernel, by decide +kernel⟩, by decide +kernel⟩
theorem mc_JS_194 : am_mc RJ8 194 yJ9_max_7cf53 cJ9_max_7cf53 2 (some .int) 2 := ⟨am_ws (i := 376) (by decide +kernel) rfl, am_ws (i := 378) (by decide +kernel) rfl, am_ws (i := 51) (by decide +kernel) rfl, ⟨by decide +kernel, by decide +kernel⟩, by decide +kernel⟩
theorem mc_JS_201 : am_mc RJ8 201 yJ8_hugeLength_7cf53 cJ8_hugeLength_7cf53 3 (some .int) 2 := ⟨am_ws (i := 380) (by decide +kernel) rfl, am_ws (i := 382) (by decide +kernel) rfl, am_ws (i := 50) (by decide +kernel) rfl, ⟨by decide +kernel, by decide +kernel⟩, by decide +kernel⟩
theorem mc_AL_66 : am_mc RJx4a65c 66 yJ7_copyOf_1904c cJ7_copyOf_1904c 2 (some (.array (.object "java/lang/Object"))) 2 := ⟨am_ws (i := 383) (by decide +kernel) rfl, am_ws (i := 385) (by decide +kernel) rfl, am_ws (i := 52) (by decide +kernel) rfl, ⟨by decide +kernel, by decide +kernel⟩, by decide +kernel⟩
theorem mc_JA_300 : am_mc RJ7 300 yJ7_copyOf_6403c cJ7_copyOf_6403c 4 (some (.array (.object "java/lang/Object"))) 3 := ⟨am_ws (i := 402) (by decide +kernel) rfl, am_ws (i := 404) (by decide +kernel) rfl, am_ws (i := 52) (by decide +kernel) rfl, ⟨by decide +kernel, by decide +kernel⟩, by decide +kernel⟩
theorem mc_JA_304 : am_mc RJ7 304 yJ9_min_7cf53 cJ9_min_7cf53 2 (some .int) 2 := ⟨am_ws (i := 408) (by decide +kernel) rfl, am_ws (i := 410) (by decide +kernel) rfl, am_ws (i := 51) (by decide +kernel) rfl, ⟨by decide +kernel, by decide +kernel⟩, by decide +kernel⟩
theorem mc_AL_79 : am_mc RJx4a65c 79 yJ9_max_7cf53 cJ9_max_7cf53 2 (some .int) 2 := ⟨am_ws (i := 414) (by decide +kernel) rfl, am_ws (i := 378) (by decide +kernel) rfl, am_ws (i := 51) (by decide +kernel) rfl, ⟨by decide +kernel, by decide +kernel⟩, by decide +kernel⟩
theorem mc_L_17 : am_mc RL 17 yX4_pipe cX4_pipe 5 (some .int) 3 := ⟨am_ws (i := 420) (by decide +kernel) rfl, am_ws (i := 423) (by decide +kernel) rfl, am_ws (i := 37) (by decide +kernel) rfl, ⟨by decide +kernel, by decide +kernel⟩, by decide +kernel⟩
theorem mc_X4_75 : am_mc RX4 75 yX4_isNoDistrict cX4_isNoDistrict 2 (some .boolean) 1 := ⟨am_ws (i := 424) (by decide +kernel) rfl, am_ws (i := 427) (by decide +kernel) rfl, am_ws (i := 37) (by decide +kernel) rfl, ⟨by decide +kernel, by decide +kernel⟩, by decide +kernel⟩
theorem mc_X4_93 : am_mc RX4 93 yX3_init cX3_init 4 none 3 := ⟨am_ws (i := 448) (by decide +kernel) rfl, am_ws (i := 450) (by decide +kernel) rfl, am_ws (i := 55) (by decide +kernel) rfl, ⟨by decide +kernel, by decide +kernel⟩, by decide +kernel⟩
theorem mc_L_23 : am_mc RL 23 yX4_source cX4_source 3 (some .int) 1 := ⟨am_ws (i := 473) (by decide +kernel) rfl, am_ws (i := 476) (by decide +kernel) rfl, am_ws (i := 37) (by decide +kernel) rfl, ⟨by decide +kernel, by decide +kernel⟩, by decide +kernel⟩
theorem mc_L_27 : am_mc RL 27 yX4_need cX4_need 5 (some .int) 2 := ⟨am_ws (i := 482) (by decide +kernel) rfl, am_ws (i := 485) (by decide +kernel) rfl, am_ws (i := 37) (by decide +kernel) rfl, ⟨by decide +kernel, by decide +kernel⟩, by decide +kernel⟩
theorem mc_X4_103 : am_mc RX4 103 yJx4a65c_get_915e3 cJx4a65c_get_915e3 2 (some (.object "java/lang/Object")) 1 := ⟨am_ws (i := 487) (by decide +kernel) rfl, am_ws (i := 490) (by decide +kernel) rfl, am_ws (i := 40) (by decide +kernel) rfl, ⟨by decide +kernel, by decide +kernel⟩, by decide +kernel⟩
theorem mc_AL_118 : am_mc RJx4a65c 118 yJ15_checkIndex_7cf53 cJ15_checkIndex_7cf53 2 (some .int) 2 := ⟨am_ws (i := 491) (by decide +kernel) rfl, am_ws (i := 493) (by decide +kernel) rfl, am_ws (i := 56) (by decide +kernel) rfl, ⟨by decide +kernel, by decide +kernel⟩, by decide +kernel⟩
theorem mc_JO_105 : am_mc RJ15 105 yJ3_checkIndex_8e157 cJ3_checkIndex_8e157 3 (some .int) 3 := ⟨am_ws (i := 494) (by decide +kernel) rfl, am_ws (i := 496) (by decide +kernel) rfl, am_ws (i := 57) (by decide +kernel) rfl, ⟨by decide +kernel, by decide +kernel⟩, by decide +kernel⟩
theorem mc_AL_123 : am_mc RJx4a65c 123 yJx4a65c_elementData_915e3 cJx4a65c_elementData_915e3 2 (some (.object "java/lang/Object")) 1 := ⟨am_ws (i := 497) (by decide +kernel) rfl, am_ws (i := 500) (by decide +kernel) rfl, am_ws (i := 40) (by decide +kernel) rfl, ⟨by decide +kernel, by decide +kernel⟩, by decide +kernel⟩
theorem mc_L_30 : am_mc RL 30 yX4_bid cX4_bid 5 (some .int) 3 := ⟨am_ws (i := 504) (by decide +kernel) rfl, am_ws (i := 507) (by decide +kernel) rfl, am_ws (i := 37) (by decide +kernel) rfl, ⟨by decide +kernel, by decide +kernel⟩, by decide +kernel⟩
theorem mc_X4_129 : am_mc RX4 129 yX0_set cX0_set 4 none 3 := ⟨am_ws (i := 510) (by decide +kernel) rfl, am_ws (i := 513) (by decide +kernel) rfl, am_ws (i := 49) (by decide +kernel) rfl, ⟨by decide +kernel, by decide +kernel⟩, by decide +kernel⟩
theorem mc_L_33 : am_mc RL 33 yX4_close cX4_close 3 (some .boolean) 0 := ⟨am_ws (i := 517) (by decide +kernel) rfl, am_ws (i := 520) (by decide +kernel) rfl, am_ws (i := 37) (by decide +kernel) rfl, ⟨by decide +kernel, by decide +kernel⟩, by decide +kernel⟩
theorem mc_X4_134 : am_mc RX4 134 yX1_settleRound cX1_settleRound 1 none 0 := ⟨am_ws (i := 522) (by decide +kernel) rfl, am_ws (i := 525) (by decide +kernel) rfl, am_ws (i := 48) (by decide +kernel) rfl, ⟨by decide +kernel, by decide +kernel⟩, by decide +kernel⟩
theorem mc_X1_69 : am_mc RX1 69 yX0_set cX0_set 4 none 3 := ⟨am_ws (i := 526) (by decide +kernel) rfl, am_ws (i := 513) (by decide +kernel) rfl, am_ws (i := 49) (by decide +kernel) rfl, ⟨by decide +kernel, by decide +kernel⟩, by decide +kernel⟩
theorem mc_X4_137 : am_mc RX4 137 yX4_orderBids cX4_orderBids 3 none 0 := ⟨am_ws (i := 527) (by decide +kernel) rfl, am_ws (i := 530) (by decide +kernel) rfl, am_ws (i := 37) (by decide +kernel) rfl, ⟨by decide +kernel, by decide +kernel⟩, by decide +kernel⟩
theorem mc_X4_172 : am_mc RX4 172 yJx4a65c_clear_da8c8 cJx4a65c_clear_da8c8 4 none 0 := ⟨am_ws (i := 531) (by decide +kernel) rfl, am_ws (i := 534) (by decide +kernel) rfl, am_ws (i := 40) (by decide +kernel) rfl, ⟨by decide +kernel, by decide +kernel⟩, by decide +kernel⟩
theorem mc_X4_198 : am_mc RX4 198 yX4_bidsAheadOf cX4_bidsAheadOf 4 (some .int) 1 := ⟨am_ws (i := 535) (by decide +kernel) rfl, am_ws (i := 538) (by decide +kernel) rfl, am_ws (i := 37) (by decide +kernel) rfl, ⟨by decide +kernel, by decide +kernel⟩, by decide +kernel⟩
theorem mc_X4_233 : am_mc RX4 233 yX0_isAheadOf cX0_isAheadOf 2 (some .boolean) 1 := ⟨am_ws (i := 539) (by decide +kernel) rfl, am_ws (i := 542) (by decide +kernel) rfl, am_ws (i := 49) (by decide +kernel) rfl, ⟨by decide +kernel, by decide +kernel⟩, by decide +kernel⟩
theorem mc_X4_230 : am_mc RX4 230 yJx4a65c_add_7a177 cJx4a65c_add_7a177 5 none 2 := ⟨am_ws (i := 543) (by decide +kernel) rfl, am_ws (i := 546) (by decide +kernel) rfl, am_ws (i := 40) (by decide +kernel) rfl, ⟨by decide +kernel, by decide +kernel⟩, by decide +kernel⟩
theorem mc_AL_135 : am_mc RJx4a65c 135 yJx4a65c_rangeCheckForAdd_d00df cJx4a65c_rangeCheckForAdd_d00df 2 none 1 := ⟨am_ws (i := 547) (by decide +kernel) rfl, am_ws (i := 550) (by decide +kernel) rfl, am_ws (i := 40) (by decide +kernel) rfl, ⟨by decide +kernel, by decide +kernel⟩, by decide +kernel⟩
theorem mc_AL_198 : am_mc RJx4a65c 198 yJx4a65c_outOfBoundsMsg_b52d3 cJx4a65c_outOfBoundsMsg_b52d3 2 (some (.object "java/lang/String")) 1 := ⟨am_ws (i := 552) (by decide +kernel) rfl, am_ws (i := 555) (by decide +kernel) rfl, am_ws (i := 40) (by decide +kernel) rfl, ⟨by decide +kernel, by decide +kernel⟩, by decide +kernel⟩
theorem mc_AL_22 : am_mc RJx4a65c 22 yJ4_init_da8c8 cJ4_init_da8c8 1 none 0 := ⟨am_ws (i := 558) (by decide +kernel) rfl, am_ws (i := 560) (by decide +kernel) rfl, am_ws (i := 59) (by decide +kernel) rfl, ⟨by decide +kernel, by decide +kernel⟩, by decide +kernel⟩
theorem mc_AL_25 : am_mc RJx4a65c 25 yJ4_append_15ec4 cJ4_append_15ec4 2 (some (.object "java/lang/StringBuilder")) 1 := ⟨am_ws (i := 588) (by decide +kernel) rfl, am_ws (i := 591) (by decide +kernel) rfl, am_ws (i := 59) (by decide +kernel) rfl, ⟨by decide +kernel, by decide +kernel⟩, by decide +kernel⟩
theorem mc_AL_29 : am_mc RJx4a65c 29 yJ4_append_bf812 cJ4_append_bf812 2 (some (.object "java/lang/StringBuilder")) 1 := ⟨am_ws (i := 693) (by decide +kernel) rfl, am_ws (i := 696) (by decide +kernel) rfl, am_ws (i := 59) (by decide +kernel) rfl, ⟨by decide +kernel, by decide +kernel⟩, by decide +kernel⟩
theorem mc_AL_32 : am_mc RJx4a65c 32 yJ4_toString_0e30d cJ4_toString_0e30d 1 (some (.object "java/lang/String")) 0 := ⟨am_ws (i := 719) (by decide +kernel) rfl, am_ws (i := 722) (by decide +kernel) rfl, am_ws (i := 59) (by decide +kernel) rfl, ⟨by decide +kernel, by decide +kernel⟩, by decide +kernel⟩
theorem mc_JA_339 : am_mc RJ7 339 yJ7_copyOfRangeByte_39247 cJ7_copyOfRangeByte_39247 5 (some (.array .byte)) 3 := ⟨am_ws (i := 749) (by decide +kernel) rfl, am_ws (i := 751) (by decide +kernel) rfl, am_ws (i := 52) (by decide +kernel) rfl, ⟨by decide +kernel, by decide +kernel⟩, by decide +kernel⟩
theorem mc_JA_343 : am_mc RJ7 343 yJ7_checkLength_df160 cJ7_checkLength_df160 2 none 2 := ⟨am_ws (i := 752) (by decide +kernel) rfl, am_ws (i := 754) (by decide +kernel) rfl, am_ws (i := 52) (by decide +kernel) rfl, ⟨by decide +kernel, by decide +kernel⟩, by decide +kernel⟩
theorem mc_JA_47 : am_mc RJ7 47 yJ4_init_da8c8 cJ4_init_da8c8 1 none 0 := ⟨am_ws (i := 757) (by decide +kernel) rfl, am_ws (i := 560) (by decide +kernel) rfl, am_ws (i := 59) (by decide +kernel) rfl, ⟨by decide +kernel, by decide +kernel⟩, by decide +kernel⟩
theorem mc_JA_54 : am_mc RJ7 54 yJ4_append_bf812 cJ4_append_bf812 2 (some (.object "java/lang/StringBuilder")) 1 := ⟨am_ws (i := 758) (by decide +kernel) rfl, am_ws (i := 696) (by decide +kernel) rfl, am_ws (i := 59) (by decide +kernel) rfl, ⟨by decide +kernel, by decide +kernel⟩, by decide +kernel⟩
theorem mc_JA_50 : am_mc RJ7 50 yJ4_append_15ec4 cJ4_append_15ec4 2 (some (.object "java/lang/StringBuilder")) 1 := ⟨am_ws (i := 760) (by decide +kernel) rfl, am_ws (i := 591) (by decide +kernel) rfl, am_ws (i := 59) (by decide +kernel) rfl, ⟨by decide +kernel, by decide +kernel⟩, by decide +kernel⟩
theorem mc_JA_61 : am_mc RJ7 61 yJ4_toString_0e30d cJ4_toString_0e30d 1 (some (.object "java/lang/String")) 0 := ⟨am_ws (i := 761) (by decide +kernel) rfl, am_ws (i := 722) (by decide +kernel) rfl, am_ws (i := 59) (by decide +kernel) rfl, ⟨by decide +kernel, by decide +kernel⟩, by decide +kernel⟩
theorem mc_X4_140 : am_mc RX4 140 yX4_beginFlowing cX4_beginFlowing 3 none 0 := ⟨am_ws (i := 789) (by decide +kernel) rfl, am_ws (i := 792) (by decide +kernel) rfl, am_ws (i := 37) (by decide +kernel) rfl, ⟨by decide +kernel, by decide +kernel⟩, by decide +kernel⟩
theorem mc_X4_240 : am_mc RX4 240 yX4_findFlows cX4_findFlows 3 none 0 := ⟨am_ws (i := 793) (by decide +kernel) rfl, am_ws (i := 796) (by decide +kernel) rfl, am_ws (i := 37) (by decide +kernel) rfl, ⟨by decide +kernel, by decide +kernel⟩, by decide +kernel⟩
theorem mc_X4_208 : am_mc RX4 208 yX2_empty cX2_empty 3 none 0 := ⟨am_ws (i := 797) (by decide +kernel) rfl, am_ws (i := 800) (by decide +kernel) rfl, am_ws (i := 41) (by decide +kernel) rfl, ⟨by decide +kernel, by decide +kernel⟩, by decide +kernel⟩
theorem mc_X2_40 : am_mc RX2 40 yJx4a65c_size_8abf5 cJx4a65c_size_8abf5 1 (some .int) 0 := ⟨am_ws (i := 801) (by decide +kernel) rfl, am_ws (i := 253) (by decide +kernel) rfl, am_ws (i := 40) (by decide +kernel) rfl, ⟨by decide +kernel, by decide +kernel⟩, by decide +kernel⟩
theorem mc_X2_44 : am_mc RX2 44 yJx4a65c_get_915e3 cJx4a65c_get_915e3 2 (some (.object "java/lang/Object")) 1 := ⟨am_ws (i := 802) (by decide +kernel) rfl, am_ws (i := 490) (by decide +kernel) rfl, am_ws (i := 40) (by decide +kernel) rfl, ⟨by decide +kernel, by decide +kernel⟩, by decide +kernel⟩
theorem mc_X4_214 : am_mc RX4 214 yX2_pour cX2_pour 7 (some .int) 2 := ⟨am_ws (i := 804) (by decide +kernel) rfl, am_ws (i := 807) (by decide +kernel) rfl, am_ws (i := 41) (by decide +kernel) rfl, ⟨by decide +kernel, by decide +kernel⟩, by decide +kernel⟩
theorem mc_X2_63 : am_mc RX2 63 yJ9_min_7cf53 cJ9_min_7cf53 2 (some .int) 2 := ⟨am_ws (i := 808) (by decide +kernel) rfl, am_ws (i := 410) (by decide +kernel) rfl, am_ws (i := 51) (by decide +kernel) rfl, ⟨by decide +kernel, by decide +kernel⟩, by decide +kernel⟩
theorem mc_X2_69 : am_mc RX2 69 yX2_findWay cX2_findWay 7 (some .int) 2 := ⟨am_ws (i := 809) (by decide +kernel) rfl, am_ws (i := 812) (by decide +kernel) rfl, am_ws (i := 41) (by decide +kernel) rfl, ⟨by decide +kernel, by decide +kernel⟩, by decide +kernel⟩
theorem mc_X2_72 : am_mc RX2 72 yX2_flowOnWay cX2_flowOnWay 6 none 2 := ⟨am_ws (i := 813) (by decide +kernel) rfl, am_ws (i := 816) (by decide +kernel) rfl, am_ws (i := 41) (by decide +kernel) rfl, ⟨by decide +kernel, by decide +kernel⟩, by decide +kernel⟩
theorem mc_X4_243 : am_mc RX4 243 yX1_pay cX1_pay 1 none 0 := ⟨am_ws (i := 817) (by decide +kernel) rfl, am_ws (i := 820) (by decide +kernel) rfl, am_ws (i := 48) (by decide +kernel) rfl, ⟨by decide +kernel, by decide +kernel⟩, by decide +kernel⟩
theorem mc_L_37 : am_mc RL 37 yX4_burst cX4_burst 3 (some .int) 1 := ⟨am_ws (i := 824) (by decide +kernel) rfl, am_ws (i := 827) (by decide +kernel) rfl, am_ws (i := 37) (by decide +kernel) rfl, ⟨by decide +kernel, by decide +kernel⟩, by decide +kernel⟩
theorem mc_X4_143 : am_mc RX4 143 yX4_isNoPipe cX4_isNoPipe 2 (some .boolean) 1 := ⟨am_ws (i := 828) (by decide +kernel) rfl, am_ws (i := 831) (by decide +kernel) rfl, am_ws (i := 37) (by decide +kernel) rfl, ⟨by decide +kernel, by decide +kernel⟩, by decide +kernel⟩
theorem mc_X4_153 : am_mc RX4 153 yX4_flowLess cX4_flowLess 3 (some .int) 0 := ⟨am_ws (i := 834) (by decide +kernel) rfl, am_ws (i := 837) (by decide +kernel) rfl, am_ws (i := 37) (by decide +kernel) rfl, ⟨by decide +kernel, by decide +kernel⟩, by decide +kernel⟩
theorem mc_X4_246 : am_mc RX4 246 yX1_takeBackPay cX1_takeBackPay 3 (some .int) 0 := ⟨am_ws (i := 838) (by decide +kernel) rfl, am_ws (i := 841) (by decide +kernel) rfl, am_ws (i := 48) (by decide +kernel) rfl, ⟨by decide +kernel, by decide +kernel⟩, by decide +kernel⟩
theorem mc_L_40 : am_mc RL 40 yX4_repair cX4_repair 3 none 1 := ⟨am_ws (i := 845) (by decide +kernel) rfl, am_ws (i := 848) (by decide +kernel) rfl, am_ws (i := 37) (by decide +kernel) rfl, ⟨by decide +kernel, by decide +kernel⟩, by decide +kernel⟩
theorem mc_L_44 : am_mc RL 44 yX4_end cX4_end 4 (some .int) 0 := ⟨am_ws (i := 853) (by decide +kernel) rfl, am_ws (i := 856) (by decide +kernel) rfl, am_ws (i := 37) (by decide +kernel) rfl, ⟨by decide +kernel, by decide +kernel⟩, by decide +kernel⟩
theorem mc_X4_163 : am_mc RX4 163 yX1_store cX1_store 2 none 0 := ⟨am_ws (i := 858) (by decide +kernel) rfl, am_ws (i := 861) (by decide +kernel) rfl, am_ws (i := 48) (by decide +kernel) rfl, ⟨by decide +kernel, by decide +kernel⟩, by decide +kernel⟩
theorem mc_X1_73 : am_mc RX1 73 yJ9_min_7cf53 cJ9_min_7cf53 2 (some .int) 2 := ⟨am_ws (i := 862) (by decide +kernel) rfl, am_ws (i := 410) (by decide +kernel) rfl, am_ws (i := 51) (by decide +kernel) rfl, ⟨by decide +kernel, by decide +kernel⟩, by decide +kernel⟩
theorem mc_X4_166 : am_mc RX4 166 yX1_takeNeed cX1_takeNeed 3 (some .int) 0 := ⟨am_ws (i := 863) (by decide +kernel) rfl, am_ws (i := 866) (by decide +kernel) rfl, am_ws (i := 48) (by decide +kernel) rfl, ⟨by decide +kernel, by decide +kernel⟩, by decide +kernel⟩
theorem mc_X4_169 : am_mc RX4 169 yX1_beginHour cX1_beginHour 1 none 0 := ⟨am_ws (i := 867) (by decide +kernel) rfl, am_ws (i := 870) (by decide +kernel) rfl, am_ws (i := 48) (by decide +kernel) rfl, ⟨by decide +kernel, by decide +kernel⟩, by decide +kernel⟩
theorem mc_L_48 : am_mc RL 48 yX4_ofDistrict cX4_ofDistrict 4 (some .int) 2 := ⟨am_ws (i := 874) (by decide +kernel) rfl, am_ws (i := 877) (by decide +kernel) rfl, am_ws (i := 37) (by decide +kernel) rfl, ⟨by decide +kernel, by decide +kernel⟩, by decide +kernel⟩
theorem mc_L_51 : am_mc RL 51 yX4_flowAnew cX4_flowAnew 4 (some .int) 1 := ⟨am_ws (i := 882) (by decide +kernel) rfl, am_ws (i := 885) (by decide +kernel) rfl, am_ws (i := 37) (by decide +kernel) rfl, ⟨by decide +kernel, by decide +kernel⟩, by decide +kernel⟩
theorem mc_X4_202 : am_mc RX4 202 yX4_together cX4_together 5 (some .int) 1 := ⟨am_ws (i := 886) (by decide +kernel) rfl, am_ws (i := 889) (by decide +kernel) rfl, am_ws (i := 37) (by decide +kernel) rfl, ⟨by decide +kernel, by decide +kernel⟩, by decide +kernel⟩
theorem mc_L_54 : am_mc RL 54 yX4_most cX4_most 4 (some .int) 1 := ⟨am_ws (i := 893) (by decide +kernel) rfl, am_ws (i := 896) (by decide +kernel) rfl, am_ws (i := 37) (by decide +kernel) rfl, ⟨by decide +kernel, by decide +kernel⟩, by decide +kernel⟩
theorem mc_L_57 : am_mc RL 57 yX4_place cX4_place 3 (some .int) 1 := ⟨am_ws (i := 901) (by decide +kernel) rfl, am_ws (i := 904) (by decide +kernel) rfl, am_ws (i := 37) (by decide +kernel) rfl, ⟨by decide +kernel, by decide +kernel⟩, by decide +kernel⟩
theorem mc_L_60 : am_mc RL 60 yX4_count cX4_count 2 (some .int) 1 := ⟨am_ws (i := 908) (by decide +kernel) rfl, am_ws (i := 911) (by decide +kernel) rfl, am_ws (i := 37) (by decide +kernel) rfl, ⟨by decide +kernel, by decide +kernel⟩, by decide +kernel⟩
theorem mc_X4_218 : am_mc RX4 218 yX2_countBurst cX2_countBurst 3 (some .int) 0 := ⟨am_ws (i := 912) (by decide +kernel) rfl, am_ws (i := 915) (by decide +kernel) rfl, am_ws (i := 41) (by decide +kernel) rfl, ⟨by decide +kernel, by decide +kernel⟩, by decide +kernel⟩
theorem mc_X4_221 : am_mc RX4 221 yX4_sumGot cX4_sumGot 3 (some .int) 0 := ⟨am_ws (i := 916) (by decide +kernel) rfl, am_ws (i := 919) (by decide +kernel) rfl, am_ws (i := 37) (by decide +kernel) rfl, ⟨by decide +kernel, by decide +kernel⟩, by decide +kernel⟩
theorem mc_X4_224 : am_mc RX4 224 yX4_sumWater cX4_sumWater 3 (some .int) 0 := ⟨am_ws (i := 920) (by decide +kernel) rfl, am_ws (i := 923) (by decide +kernel) rfl, am_ws (i := 37) (by decide +kernel) rfl, ⟨by decide +kernel, by decide +kernel⟩, by decide +kernel⟩
theorem mc_X4_227 : am_mc RX4 227 yX4_sumPaidLessPaidBack cX4_sumPaidLessPaidBack 4 (some .int) 0 := ⟨am_ws (i := 924) (by decide +kernel) rfl, am_ws (i := 927) (by decide +kernel) rfl, am_ws (i := 37) (by decide +kernel) rfl, ⟨by decide +kernel, by decide +kernel⟩, by decide +kernel⟩
theorem mc_L_66 : am_mc RL 66 yX5_init cX5_init 1 none 0 := ⟨am_ws (i := 930) (by decide +kernel) rfl, am_ws (i := 932) (by decide +kernel) rfl, am_ws (i := 42) (by decide +kernel) rfl, ⟨by decide +kernel, by decide +kernel⟩, by decide +kernel⟩
theorem mc_L_73 : am_mc RL 73 yX5_thrown cX5_thrown 1 (some .int) 0 := ⟨am_ws (i := 1041) (by decide +kernel) rfl, am_ws (i := 1044) (by decide +kernel) rfl, am_ws (i := 42) (by decide +kernel) rfl, ⟨by decide +kernel, by decide +kernel⟩, by decide +kernel⟩
theorem mc_L_72 : am_mc RL 72 yX5_district cX5_district 4 (some .int) 2 := ⟨am_ws (i := 1045) (by decide +kernel) rfl, am_ws (i := 1048) (by decide +kernel) rfl, am_ws (i := 42) (by decide +kernel) rfl, ⟨by decide +kernel, by decide +kernel⟩, by decide +kernel⟩
theorem mc_X5_96 : am_mc RX5 96 yX5_isIn cX5_isIn 3 (some .boolean) 3 := ⟨am_ws (i := 1049) (by decide +kernel) rfl, am_ws (i := 1051) (by decide +kernel) rfl, am_ws (i := 42) (by decide +kernel) rfl, ⟨by decide +kernel, by decide +kernel⟩, by decide +kernel⟩
theorem mc_X5_103 : am_mc RX5 103 yX5_can cX5_can 2 (some .boolean) 1 := ⟨am_ws (i := 1052) (by decide +kernel) rfl, am_ws (i := 1055) (by decide +kernel) rfl, am_ws (i := 42) (by decide +kernel) rfl, ⟨by decide +kernel, by decide +kernel⟩, by decide +kernel⟩
theorem mc_L_79 : am_mc RL 79 yX5_pipe cX5_pipe 6 (some .int) 3 := ⟨am_ws (i := 1056) (by decide +kernel) rfl, am_ws (i := 1059) (by decide +kernel) rfl, am_ws (i := 42) (by decide +kernel) rfl, ⟨by decide +kernel, by decide +kernel⟩, by decide +kernel⟩
theorem mc_X5_107 : am_mc RX5 107 yX5_isDistrict cX5_isDistrict 2 (some .boolean) 1 := ⟨am_ws (i := 1060) (by decide +kernel) rfl, am_ws (i := 1063) (by decide +kernel) rfl, am_ws (i := 42) (by decide +kernel) rfl, ⟨by decide +kernel, by decide +kernel⟩, by decide +kernel⟩
theorem mc_L_83 : am_mc RL 83 yX5_source cX5_source 3 (some .int) 1 := ⟨am_ws (i := 1064) (by decide +kernel) rfl, am_ws (i := 1067) (by decide +kernel) rfl, am_ws (i := 42) (by decide +kernel) rfl, ⟨by decide +kernel, by decide +kernel⟩, by decide +kernel⟩
theorem mc_L_86 : am_mc RL 86 yX5_need cX5_need 4 (some .int) 2 := ⟨am_ws (i := 1068) (by decide +kernel) rfl, am_ws (i := 1071) (by decide +kernel) rfl, am_ws (i := 42) (by decide +kernel) rfl, ⟨by decide +kernel, by decide +kernel⟩, by decide +kernel⟩
theorem mc_L_89 : am_mc RL 89 yX5_bid cX5_bid 7 (some .int) 3 := ⟨am_ws (i := 1072) (by decide +kernel) rfl, am_ws (i := 1075) (by decide +kernel) rfl, am_ws (i := 42) (by decide +kernel) rfl, ⟨by decide +kernel, by decide +kernel⟩, by decide +kernel⟩
theorem mc_X5_157 : am_mc RX5 157 yX5_toldNow cX5_toldNow 3 (some .int) 0 := ⟨am_ws (i := 1076) (by decide +kernel) rfl, am_ws (i := 1079) (by decide +kernel) rfl, am_ws (i := 42) (by decide +kernel) rfl, ⟨by decide +kernel, by decide +kernel⟩, by decide +kernel⟩
theorem mc_L_93 : am_mc RL 93 yX5_close cX5_close 3 (some .boolean) 0 := ⟨am_ws (i := 1080) (by decide +kernel) rfl, am_ws (i := 1083) (by decide +kernel) rfl, am_ws (i := 42) (by decide +kernel) rfl, ⟨by decide +kernel, by decide +kernel⟩, by decide +kernel⟩
theorem mc_X5_163 : am_mc RX5 163 yX5_begins cX5_begins 2 none 0 := ⟨am_ws (i := 1084) (by decide +kernel) rfl, am_ws (i := 1087) (by decide +kernel) rfl, am_ws (i := 42) (by decide +kernel) rfl, ⟨by decide +kernel, by decide +kernel⟩, by decide +kernel⟩
theorem mc_X5_160 : am_mc RX5 160 yX5_settles cX5_settles 4 none 0 := ⟨am_ws (i := 1088) (by decide +kernel) rfl, am_ws (i := 1091) (by decide +kernel) rfl, am_ws (i := 42) (by decide +kernel) rfl, ⟨by decide +kernel, by decide +kernel⟩, by decide +kernel⟩
theorem mc_X5_141 : am_mc RX5 141 yX5_dries cX5_dries 2 none 0 := ⟨am_ws (i := 1092) (by decide +kernel) rfl, am_ws (i := 1095) (by decide +kernel) rfl, am_ws (i := 42) (by decide +kernel) rfl, ⟨by decide +kernel, by decide +kernel⟩, by decide +kernel⟩
theorem mc_X5_144 : am_mc RX5 144 yX5_standing cX5_standing 3 (some .int) 0 := ⟨am_ws (i := 1096) (by decide +kernel) rfl, am_ws (i := 1099) (by decide +kernel) rfl, am_ws (i := 42) (by decide +kernel) rfl, ⟨by decide +kernel, by decide +kernel⟩, by decide +kernel⟩
theorem mc_X5_148 : am_mc RX5 148 yX5_at cX5_at 4 (some .int) 1 := ⟨am_ws (i := 1100) (by decide +kernel) rfl, am_ws (i := 1103) (by decide +kernel) rfl, am_ws (i := 42) (by decide +kernel) rfl, ⟨by decide +kernel, by decide +kernel⟩, by decide +kernel⟩
theorem mc_X5_138 : am_mc RX5 138 yX5_placeOf cX5_placeOf 4 (some .int) 1 := ⟨am_ws (i := 1104) (by decide +kernel) rfl, am_ws (i := 1107) (by decide +kernel) rfl, am_ws (i := 42) (by decide +kernel) rfl, ⟨by decide +kernel, by decide +kernel⟩, by decide +kernel⟩
theorem mc_X5_134 : am_mc RX5 134 yX5_isAhead cX5_isAhead 3 (some .boolean) 2 := ⟨am_ws (i := 1108) (by decide +kernel) rfl, am_ws (i := 1111) (by decide +kernel) rfl, am_ws (i := 42) (by decide +kernel) rfl, ⟨by decide +kernel, by decide +kernel⟩, by decide +kernel⟩
theorem mc_X5_151 : am_mc RX5 151 yX5_flows cX5_flows 6 (some .int) 2 := ⟨am_ws (i := 1112) (by decide +kernel) rfl, am_ws (i := 1115) (by decide +kernel) rfl, am_ws (i := 42) (by decide +kernel) rfl, ⟨by decide +kernel, by decide +kernel⟩, by decide +kernel⟩
theorem mc_X5_123 : am_mc RX5 123 yX5_finds cX5_finds 9 (some .boolean) 1 := ⟨am_ws (i := 1116) (by decide +kernel) rfl, am_ws (i := 1119) (by decide +kernel) rfl, am_ws (i := 42) (by decide +kernel) rfl, ⟨by decide +kernel, by decide +kernel⟩, by decide +kernel⟩
theorem mc_X5_119 : am_mc RX5 119 yX5_room cX5_room 3 (some .int) 2 := ⟨am_ws (i := 1120) (by decide +kernel) rfl, am_ws (i := 1123) (by decide +kernel) rfl, am_ws (i := 42) (by decide +kernel) rfl, ⟨by decide +kernel, by decide +kernel⟩, by decide +kernel⟩
theorem mc_X5_126 : am_mc RX5 126 yX5_lesser cX5_lesser 2 (some .int) 2 := ⟨am_ws (i := 1124) (by decide +kernel) rfl, am_ws (i := 1126) (by decide +kernel) rfl, am_ws (i := 42) (by decide +kernel) rfl, ⟨by decide +kernel, by decide +kernel⟩, by decide +kernel⟩
theorem mc_X5_130 : am_mc RX5 130 yX5_before cX5_before 2 (some .int) 1 := ⟨am_ws (i := 1127) (by decide +kernel) rfl, am_ws (i := 1130) (by decide +kernel) rfl, am_ws (i := 42) (by decide +kernel) rfl, ⟨by decide +kernel, by decide +kernel⟩, by decide +kernel⟩
theorem mc_L_96 : am_mc RL 96 yX5_burst cX5_burst 6 (some .int) 1 := ⟨am_ws (i := 1131) (by decide +kernel) rfl, am_ws (i := 1134) (by decide +kernel) rfl, am_ws (i := 42) (by decide +kernel) rfl, ⟨by decide +kernel, by decide +kernel⟩, by decide +kernel⟩
theorem mc_X5_166 : am_mc RX5 166 yX5_isPipe cX5_isPipe 2 (some .boolean) 1 := ⟨am_ws (i := 1135) (by decide +kernel) rfl, am_ws (i := 1138) (by decide +kernel) rfl, am_ws (i := 42) (by decide +kernel) rfl, ⟨by decide +kernel, by decide +kernel⟩, by decide +kernel⟩
theorem mc_L_100 : am_mc RL 100 yX5_repair cX5_repair 3 none 1 := ⟨am_ws (i := 1139) (by decide +kernel) rfl, am_ws (i := 1142) (by decide +kernel) rfl, am_ws (i := 42) (by decide +kernel) rfl, ⟨by decide +kernel, by decide +kernel⟩, by decide +kernel⟩
theorem mc_L_103 : am_mc RL 103 yX5_end cX5_end 5 (some .int) 0 := ⟨am_ws (i := 1143) (by decide +kernel) rfl, am_ws (i := 1146) (by decide +kernel) rfl, am_ws (i := 42) (by decide +kernel) rfl, ⟨by decide +kernel, by decide +kernel⟩, by decide +kernel⟩
theorem mc_L_107 : am_mc RL 107 yX5_hour cX5_hour 1 (some .int) 0 := ⟨am_ws (i := 1147) (by decide +kernel) rfl, am_ws (i := 1150) (by decide +kernel) rfl, am_ws (i := 42) (by decide +kernel) rfl, ⟨by decide +kernel, by decide +kernel⟩, by decide +kernel⟩
theorem mc_L_111 : am_mc RL 111 yX5_round cX5_round 1 (some .int) 0 := ⟨am_ws (i := 1151) (by decide +kernel) rfl, am_ws (i := 1154) (by decide +kernel) rfl, am_ws (i := 42) (by decide +kernel) rfl, ⟨by decide +kernel, by decide +kernel⟩, by decide +kernel⟩
theorem mc_L_114 : am_mc RL 114 yX5_ofDistrict cX5_ofDistrict 3 (some .int) 2 := ⟨am_ws (i := 1155) (by decide +kernel) rfl, am_ws (i := 1158) (by decide +kernel) rfl, am_ws (i := 42) (by decide +kernel) rfl, ⟨by decide +kernel, by decide +kernel⟩, by decide +kernel⟩
theorem mc_L_117 : am_mc RL 117 yX5_flowAnew cX5_flowAnew 2 (some .int) 1 := ⟨am_ws (i := 1159) (by decide +kernel) rfl, am_ws (i := 1162) (by decide +kernel) rfl, am_ws (i := 42) (by decide +kernel) rfl, ⟨by decide +kernel, by decide +kernel⟩, by decide +kernel⟩
theorem mc_L_120 : am_mc RL 120 yX5_most cX5_most 4 (some .int) 1 := ⟨am_ws (i := 1163) (by decide +kernel) rfl, am_ws (i := 1166) (by decide +kernel) rfl, am_ws (i := 42) (by decide +kernel) rfl, ⟨by decide +kernel, by decide +kernel⟩, by decide +kernel⟩
theorem mc_L_123 : am_mc RL 123 yX5_place cX5_place 2 (some .int) 1 := ⟨am_ws (i := 1167) (by decide +kernel) rfl, am_ws (i := 1170) (by decide +kernel) rfl, am_ws (i := 42) (by decide +kernel) rfl, ⟨by decide +kernel, by decide +kernel⟩, by decide +kernel⟩
theorem mc_L_126 : am_mc RL 126 yX5_count cX5_count 2 (some .int) 1 := ⟨am_ws (i := 1171) (by decide +kernel) rfl, am_ws (i := 1174) (by decide +kernel) rfl, am_ws (i := 42) (by decide +kernel) rfl, ⟨by decide +kernel, by decide +kernel⟩, by decide +kernel⟩
theorem mc_X5_175 : am_mc RX5 175 yX5_burstPipes cX5_burstPipes 3 (some .int) 0 := ⟨am_ws (i := 1175) (by decide +kernel) rfl, am_ws (i := 1178) (by decide +kernel) rfl, am_ws (i := 42) (by decide +kernel) rfl, ⟨by decide +kernel, by decide +kernel⟩, by decide +kernel⟩
theorem mc_X5_178 : am_mc RX5 178 yX5_sum cX5_sum 4 (some .int) 1 := ⟨am_ws (i := 1179) (by decide +kernel) rfl, am_ws (i := 1182) (by decide +kernel) rfl, am_ws (i := 42) (by decide +kernel) rfl, ⟨by decide +kernel, by decide +kernel⟩, by decide +kernel⟩
theorem mi_X0_set : Cond.instanceMethod yX0_set ∈ am_WS := am_ws (i := 511) (by decide +kernel) rfl
theorem se_X0_set : Cond.selects RX0 yX0_set yX0_set ∈ am_WS := am_ws (i := 512) (by decide +kernel) rfl
theorem mi_X0_isAheadOf : Cond.instanceMethod yX0_isAheadOf ∈ am_WS := am_ws (i := 540) (by decide +kernel) rfl
theorem se_X0_isAheadOf : Cond.selects RX0 yX0_isAheadOf yX0_isAheadOf ∈ am_WS := am_ws (i := 541) (by decide +kernel) rfl
theorem mi_X1_init : Cond.instanceMethod yX1_init ∈ am_WS := am_ws (i := 273) (by decide +kernel) rfl
theorem mi_X1_settleRound : Cond.instanceMethod yX1_settleRound ∈ am_WS := am_ws (i := 523) (by decide +kernel) rfl
theorem se_X1_settleRound : Cond.selects RX1 yX1_settleRound yX1_settleRound ∈ am_WS := am_ws (i := 524) (by decide +kernel) rfl
theorem mi_X1_pay : Cond.instanceMethod yX1_pay ∈ am_WS := am_ws (i := 818) (by decide +kernel) rfl
theorem se_X1_pay : Cond.selects RX1 yX1_pay yX1_pay ∈ am_WS := am_ws (i := 819) (by decide +kernel) rfl
theorem mi_X1_takeBackPay : Cond.instanceMethod yX1_takeBackPay ∈ am_WS := am_ws (i := 839) (by decide +kernel) rfl
theorem se_X1_takeBackPay : Cond.selects RX1 yX1_takeBackPay yX1_takeBackPay ∈ am_WS := am_ws (i := 840) (by decide +kernel) rfl
theorem mi_X1_store : Cond.instanceMethod yX1_store ∈ am_WS := am_ws (i := 859) (by decide +kernel) rfl
theorem se_X1_store : Cond.selects RX1 yX1_store yX1_store ∈ am_WS := am_ws (i := 860) (by decide +kernel) rfl
theorem mi_X1_takeNeed : Cond.instanceMethod yX1_takeNeed ∈ am_WS := am_ws (i := 864) (by decide +kernel) rfl
theorem se_X1_takeNeed : Cond.selects RX1 yX1_takeNeed yX1_takeNeed ∈ am_WS := am_ws (i := 865) (by decide +kernel) rfl
theorem mi_X1_beginHour : Cond.instanceMethod yX1_beginHour ∈ am_WS := am_ws (i := 868) (by decide +kernel) rfl
theorem se_X1_beginHour : Cond.selects RX1 yX1_beginHour yX1_beginHour ∈ am_WS := am_ws (i := 869) (by decide +kernel) rfl
theorem mi_X2_countBurst : Cond.instanceMethod yX2_countBurst ∈ am_WS := am_ws (i := 913) (by decide +kernel) rfl
theorem se_X2_countBurst : Cond.selects RX2 yX2_countBurst yX2_countBurst ∈ am_WS := am_ws (i := 914) (by decide +kernel) rfl
theorem mi_X2_empty : Cond.instanceMethod yX2_empty ∈ am_WS := am_ws (i := 798) (by decide +kernel) rfl
theorem se_X2_empty : Cond.selects RX2 yX2_empty yX2_empty ∈ am_WS := am_ws (i := 799) (by decide +kernel) rfl
theorem mi_X2_pour : Cond.instanceMethod yX2_pour ∈ am_WS := am_ws (i := 805) (by decide +kernel) rfl
theorem se_X2_pour : Cond.selects RX2 yX2_pour yX2_pour ∈ am_WS := am_ws (i := 806) (by decide +kernel) rfl
theorem mi_X2_findWay : Cond.instanceMethod yX2_findWay ∈ am_WS := am_ws (i := 811) (by decide +kernel) rfl
theorem se_X2_findWay : Cond.selects RX2 yX2_findWay yX2_findWay ∈ am_WS := am_ws (i := 11) (by decide +kernel) rfl
theorem mi_X2_flowOnWay : Cond.instanceMethod yX2_flowOnWay ∈ am_WS := am_ws (i := 815) (by decide +kernel) rfl
theorem se_X2_flowOnWay : Cond.selects RX2 yX2_flowOnWay yX2_flowOnWay ∈ am_WS := am_ws (i := 12) (by decide +kernel) rfl
theorem mi_X3_init : Cond.instanceMethod yX3_init ∈ am_WS := am_ws (i := 449) (by decide +kernel) rfl
theorem mi_X4_init : Cond.instanceMethod yX4_init ∈ am_WS := am_ws (i := 68) (by decide +kernel) rfl
theorem mi_X4_district : Cond.instanceMethod yX4_district ∈ am_WS := am_ws (i := 176) (by decide +kernel) rfl
theorem se_X4_district : Cond.selects RX4 yX4_district yX4_district ∈ am_WS := am_ws (i := 177) (by decide +kernel) rfl
theorem mi_X4_pipe : Cond.instanceMethod yX4_pipe ∈ am_WS := am_ws (i := 421) (by decide +kernel) rfl
theorem se_X4_pipe : Cond.selects RX4 yX4_pipe yX4_pipe ∈ am_WS := am_ws (i := 422) (by decide +kernel) rfl
theorem mi_X4_source : Cond.instanceMethod yX4_source ∈ am_WS := am_ws (i := 474) (by decide +kernel) rfl
theorem se_X4_source : Cond.selects RX4 yX4_source yX4_source ∈ am_WS := am_ws (i := 475) (by decide +kernel) rfl
theorem mi_X4_need : Cond.instanceMethod yX4_need ∈ am_WS := am_ws (i := 483) (by decide +kernel) rfl
theorem se_X4_need : Cond.selects RX4 yX4_need yX4_need ∈ am_WS := am_ws (i := 484) (by decide +kernel) rfl
theorem mi_X4_bid : Cond.instanceMethod yX4_bid ∈ am_WS := am_ws (i := 505) (by decide +kernel) rfl
theorem se_X4_bid : Cond.selects RX4 yX4_bid yX4_bid ∈ am_WS := am_ws (i := 506) (by decide +kernel) rfl
theorem mi_X4_close : Cond.instanceMethod yX4_close ∈ am_WS := am_ws (i := 518) (by decide +kernel) rfl
theorem se_X4_close : Cond.selects RX4 yX4_close yX4_close ∈ am_WS := am_ws (i := 519) (by decide +kernel) rfl
theorem mi_X4_burst : Cond.instanceMethod yX4_burst ∈ am_WS := am_ws (i := 825) (by decide +kernel) rfl
theorem se_X4_burst : Cond.selects RX4 yX4_burst yX4_burst ∈ am_WS := am_ws (i := 826) (by decide +kernel) rfl
theorem mi_X4_repair : Cond.instanceMethod yX4_repair ∈ am_WS := am_ws (i := 846) (by decide +kernel) rfl
theorem se_X4_repair : Cond.selects RX4 yX4_repair yX4_repair ∈ am_WS := am_ws (i := 847) (by decide +kernel) rfl
theorem mi_X4_end : Cond.instanceMethod yX4_end ∈ am_WS := am_ws (i := 854) (by decide +kernel) rfl
theorem se_X4_end : Cond.selects RX4 yX4_end yX4_end ∈ am_WS := am_ws (i := 855) (by decide +kernel) rfl
theorem mi_X4_hour : Cond.instanceMethod yX4_hour ∈ am_WS := am_ws (i := 163) (by decide +kernel) rfl
theorem se_X4_hour : Cond.selects RX4 yX4_hour yX4_hour ∈ am_WS := am_ws (i := 164) (by decide +kernel) rfl
theorem mi_X4_round : Cond.instanceMethod yX4_round ∈ am_WS := am_ws (i := 167) (by decide +kernel) rfl
theorem se_X4_round : Cond.selects RX4 yX4_round yX4_round ∈ am_WS := am_ws (i := 168) (by decide +kernel) rfl
theorem mi_X4_ofDistrict : Cond.instanceMethod yX4_ofDistrict ∈ am_WS := am_ws (i := 875) (by decide +kernel) rfl
theorem se_X4_ofDistrict : Cond.selects RX4 yX4_ofDistrict yX4_ofDistrict ∈ am_WS := am_ws (i := 876) (by decide +kernel) rfl
theorem mi_X4_flowAnew : Cond.instanceMethod yX4_flowAnew ∈ am_WS := am_ws (i := 883) (by decide +kernel) rfl
theorem se_X4_flowAnew : Cond.selects RX4 yX4_flowAnew yX4_flowAnew ∈ am_WS := am_ws (i := 884) (by decide +kernel) rfl
theorem mi_X4_most : Cond.instanceMethod yX4_most ∈ am_WS := am_ws (i := 894) (by decide +kernel) rfl
theorem se_X4_most : Cond.selects RX4 yX4_most yX4_most ∈ am_WS := am_ws (i := 895) (by decide +kernel) rfl
theorem mi_X4_place : Cond.instanceMethod yX4_place ∈ am_WS := am_ws (i := 902) (by decide +kernel) rfl
theorem se_X4_place : Cond.selects RX4 yX4_place yX4_place ∈ am_WS := am_ws (i := 903) (by decide +kernel) rfl
theorem mi_X4_count : Cond.instanceMethod yX4_count ∈ am_WS := am_ws (i := 909) (by decide +kernel) rfl
theorem se_X4_count : Cond.selects RX4 yX4_count yX4_count ∈ am_WS := am_ws (i := 910) (by decide +kernel) rfl
theorem ms_X4_isOutside : Cond.static yX4_isOutside ∈ am_WS := am_ws (i := 180) (by decide +kernel) rfl
theorem mi_X4_isNoDistrict : Cond.instanceMethod yX4_isNoDistrict ∈ am_WS := am_ws (i := 426) (by decide +kernel) rfl
theorem se_X4_isNoDistrict : Cond.selects RX4 yX4_isNoDistrict yX4_isNoDistrict ∈ am_WS := am_ws (i := 4) (by decide +kernel) rfl
theorem mi_X4_isNoPipe : Cond.instanceMethod yX4_isNoPipe ∈ am_WS := am_ws (i := 830) (by decide +kernel) rfl
theorem se_X4_isNoPipe : Cond.selects RX4 yX4_isNoPipe yX4_isNoPipe ∈ am_WS := am_ws (i := 13) (by decide +kernel) rfl
theorem mi_X4_orderBids : Cond.instanceMethod yX4_orderBids ∈ am_WS := am_ws (i := 529) (by decide +kernel) rfl
theorem se_X4_orderBids : Cond.selects RX4 yX4_orderBids yX4_orderBids ∈ am_WS := am_ws (i := 5) (by decide +kernel) rfl
theorem mi_X4_bidsAheadOf : Cond.instanceMethod yX4_bidsAheadOf ∈ am_WS := am_ws (i := 537) (by decide +kernel) rfl
theorem se_X4_bidsAheadOf : Cond.selects RX4 yX4_bidsAheadOf yX4_bidsAheadOf ∈ am_WS := am_ws (i := 6) (by decide +kernel) rfl
theorem mi_X4_beginFlowing : Cond.instanceMethod yX4_beginFlowing ∈ am_WS := am_ws (i := 791) (by decide +kernel) rfl
theorem se_X4_beginFlowing : Cond.selects RX4 yX4_beginFlowing yX4_beginFlowing ∈ am_WS := am_ws (i := 9) (by decide +kernel) rfl
theorem mi_X4_flowLess : Cond.instanceMethod yX4_flowLess ∈ am_WS := am_ws (i := 836) (by decide +kernel) rfl
theorem se_X4_flowLess : Cond.selects RX4 yX4_flowLess yX4_flowLess ∈ am_WS := am_ws (i := 14) (by decide +kernel) rfl
theorem mi_X4_findFlows : Cond.instanceMethod yX4_findFlows ∈ am_WS := am_ws (i := 795) (by decide +kernel) rfl
theorem se_X4_findFlows : Cond.selects RX4 yX4_findFlows yX4_findFlows ∈ am_WS := am_ws (i := 10) (by decide +kernel) rfl
theorem mi_X4_together : Cond.instanceMethod yX4_together ∈ am_WS := am_ws (i := 888) (by decide +kernel) rfl
theorem se_X4_together : Cond.selects RX4 yX4_together yX4_together ∈ am_WS := am_ws (i := 15) (by decide +kernel) rfl
theorem mi_X4_sumGot : Cond.instanceMethod yX4_sumGot ∈ am_WS := am_ws (i := 918) (by decide +kernel) rfl
theorem se_X4_sumGot : Cond.selects RX4 yX4_sumGot yX4_sumGot ∈ am_WS := am_ws (i := 16) (by decide +kernel) rfl
theorem mi_X4_sumWater : Cond.instanceMethod yX4_sumWater ∈ am_WS := am_ws (i := 922) (by decide +kernel) rfl
theorem se_X4_sumWater : Cond.selects RX4 yX4_sumWater yX4_sumWater ∈ am_WS := am_ws (i := 17) (by decide +kernel) rfl
theorem mi_X4_sumPaidLessPaidBack : Cond.instanceMethod yX4_sumPaidLessPaidBack ∈ am_WS := am_ws (i := 926) (by decide +kernel) rfl
theorem se_X4_sumPaidLessPaidBack : Cond.selects RX4 yX4_sumPaidLessPaidBack yX4_sumPaidLessPaidBack ∈ am_WS := am_ws (i := 18) (by decide +kernel) rfl
theorem mi_X5_init : Cond.instanceMethod yX5_init ∈ am_WS := am_ws (i := 931) (by decide +kernel) rfl
theorem mi_X5_thrown : Cond.instanceMethod yX5_thrown ∈ am_WS := am_ws (i := 1042) (by decide +kernel) rfl
theorem se_X5_thrown : Cond.selects RX5 yX5_thrown yX5_thrown ∈ am_WS := am_ws (i := 1043) (by decide +kernel) rfl
theorem mi_X5_can : Cond.instanceMethod yX5_can ∈ am_WS := am_ws (i := 1054) (by decide +kernel) rfl
theorem se_X5_can : Cond.selects RX5 yX5_can yX5_can ∈ am_WS := am_ws (i := 19) (by decide +kernel) rfl
theorem ms_X5_isIn : Cond.static yX5_isIn ∈ am_WS := am_ws (i := 1050) (by decide +kernel) rfl
theorem mi_X5_isDistrict : Cond.instanceMethod yX5_isDistrict ∈ am_WS := am_ws (i := 1062) (by decide +kernel) rfl
theorem se_X5_isDistrict : Cond.selects RX5 yX5_isDistrict yX5_isDistrict ∈ am_WS := am_ws (i := 20) (by decide +kernel) rfl
theorem mi_X5_isPipe : Cond.instanceMethod yX5_isPipe ∈ am_WS := am_ws (i := 1137) (by decide +kernel) rfl
theorem se_X5_isPipe : Cond.selects RX5 yX5_isPipe yX5_isPipe ∈ am_WS := am_ws (i := 33) (by decide +kernel) rfl
theorem ms_X5_lesser : Cond.static yX5_lesser ∈ am_WS := am_ws (i := 1125) (by decide +kernel) rfl
theorem mi_X5_district : Cond.instanceMethod yX5_district ∈ am_WS := am_ws (i := 1046) (by decide +kernel) rfl
theorem se_X5_district : Cond.selects RX5 yX5_district yX5_district ∈ am_WS := am_ws (i := 1047) (by decide +kernel) rfl
theorem mi_X5_pipe : Cond.instanceMethod yX5_pipe ∈ am_WS := am_ws (i := 1057) (by decide +kernel) rfl
theorem se_X5_pipe : Cond.selects RX5 yX5_pipe yX5_pipe ∈ am_WS := am_ws (i := 1058) (by decide +kernel) rfl
theorem mi_X5_source : Cond.instanceMethod yX5_source ∈ am_WS := am_ws (i := 1065) (by decide +kernel) rfl
theorem se_X5_source : Cond.selects RX5 yX5_source yX5_source ∈ am_WS := am_ws (i := 1066) (by decide +kernel) rfl
theorem mi_X5_need : Cond.instanceMethod yX5_need ∈ am_WS := am_ws (i := 1069) (by decide +kernel) rfl
theorem se_X5_need : Cond.selects RX5 yX5_need yX5_need ∈ am_WS := am_ws (i := 1070) (by decide +kernel) rfl
theorem mi_X5_dries : Cond.instanceMethod yX5_dries ∈ am_WS := am_ws (i := 1094) (by decide +kernel) rfl
theorem se_X5_dries : Cond.selects RX5 yX5_dries yX5_dries ∈ am_WS := am_ws (i := 24) (by decide +kernel) rfl
theorem mi_X5_room : Cond.instanceMethod yX5_room ∈ am_WS := am_ws (i := 1122) (by decide +kernel) rfl
theorem se_X5_room : Cond.selects RX5 yX5_room yX5_room ∈ am_WS := am_ws (i := 31) (by decide +kernel) rfl
theorem mi_X5_finds : Cond.instanceMethod yX5_finds ∈ am_WS := am_ws (i := 1118) (by decide +kernel) rfl
theorem se_X5_finds : Cond.selects RX5 yX5_finds yX5_finds ∈ am_WS := am_ws (i := 30) (by decide +kernel) rfl
theorem mi_X5_flows : Cond.instanceMethod yX5_flows ∈ am_WS := am_ws (i := 1114) (by decide +kernel) rfl
theorem se_X5_flows : Cond.selects RX5 yX5_flows yX5_flows ∈ am_WS := am_ws (i := 29) (by decide +kernel) rfl
theorem mi_X5_before : Cond.instanceMethod yX5_before ∈ am_WS := am_ws (i := 1129) (by decide +kernel) rfl
theorem se_X5_before : Cond.selects RX5 yX5_before yX5_before ∈ am_WS := am_ws (i := 32) (by decide +kernel) rfl
theorem mi_X5_isAhead : Cond.instanceMethod yX5_isAhead ∈ am_WS := am_ws (i := 1110) (by decide +kernel) rfl
theorem se_X5_isAhead : Cond.selects RX5 yX5_isAhead yX5_isAhead ∈ am_WS := am_ws (i := 28) (by decide +kernel) rfl
theorem mi_X5_placeOf : Cond.instanceMethod yX5_placeOf ∈ am_WS := am_ws (i := 1106) (by decide +kernel) rfl
theorem se_X5_placeOf : Cond.selects RX5 yX5_placeOf yX5_placeOf ∈ am_WS := am_ws (i := 27) (by decide +kernel) rfl
theorem mi_X5_at : Cond.instanceMethod yX5_at ∈ am_WS := am_ws (i := 1102) (by decide +kernel) rfl
theorem se_X5_at : Cond.selects RX5 yX5_at yX5_at ∈ am_WS := am_ws (i := 26) (by decide +kernel) rfl
theorem mi_X5_standing : Cond.instanceMethod yX5_standing ∈ am_WS := am_ws (i := 1098) (by decide +kernel) rfl
theorem se_X5_standing : Cond.selects RX5 yX5_standing yX5_standing ∈ am_WS := am_ws (i := 25) (by decide +kernel) rfl
theorem mi_X5_settles : Cond.instanceMethod yX5_settles ∈ am_WS := am_ws (i := 1090) (by decide +kernel) rfl
theorem se_X5_settles : Cond.selects RX5 yX5_settles yX5_settles ∈ am_WS := am_ws (i := 23) (by decide +kernel) rfl
theorem mi_X5_toldNow : Cond.instanceMethod yX5_toldNow ∈ am_WS := am_ws (i := 1078) (by decide +kernel) rfl
theorem se_X5_toldNow : Cond.selects RX5 yX5_toldNow yX5_toldNow ∈ am_WS := am_ws (i := 21) (by decide +kernel) rfl
theorem mi_X5_bid : Cond.instanceMethod yX5_bid ∈ am_WS := am_ws (i := 1073) (by decide +kernel) rfl
theorem se_X5_bid : Cond.selects RX5 yX5_bid yX5_bid ∈ am_WS := am_ws (i := 1074) (by decide +kernel) rfl
theorem mi_X5_begins : Cond.instanceMethod yX5_begins ∈ am_WS := am_ws (i := 1086) (by decide +kernel) rfl
theorem se_X5_begins : Cond.selects RX5 yX5_begins yX5_begins ∈ am_WS := am_ws (i := 22) (by decide +kernel) rfl
theorem mi_X5_close : Cond.instanceMethod yX5_close ∈ am_WS := am_ws (i := 1081) (by decide +kernel) rfl
theorem se_X5_close : Cond.selects RX5 yX5_close yX5_close ∈ am_WS := am_ws (i := 1082) (by decide +kernel) rfl
theorem mi_X5_burst : Cond.instanceMethod yX5_burst ∈ am_WS := am_ws (i := 1132) (by decide +kernel) rfl
theorem se_X5_burst : Cond.selects RX5 yX5_burst yX5_burst ∈ am_WS := am_ws (i := 1133) (by decide +kernel) rfl
theorem mi_X5_repair : Cond.instanceMethod yX5_repair ∈ am_WS := am_ws (i := 1140) (by decide +kernel) rfl
theorem se_X5_repair : Cond.selects RX5 yX5_repair yX5_repair ∈ am_WS := am_ws (i := 1141) (by decide +kernel) rfl
theorem mi_X5_end : Cond.instanceMethod yX5_end ∈ am_WS := am_ws (i := 1144) (by decide +kernel) rfl
theorem se_X5_end : Cond.selects RX5 yX5_end yX5_end ∈ am_WS := am_ws (i := 1145) (by decide +kernel) rfl
theorem mi_X5_hour : Cond.instanceMethod yX5_hour ∈ am_WS := am_ws (i := 1148) (by decide +kernel) rfl
theorem se_X5_hour : Cond.selects RX5 yX5_hour yX5_hour ∈ am_WS := am_ws (i := 1149) (by decide +kernel) rfl
theorem mi_X5_round : Cond.instanceMethod yX5_round ∈ am_WS := am_ws (i := 1152) (by decide +kernel) rfl
theorem se_X5_round : Cond.selects RX5 yX5_round yX5_round ∈ am_WS := am_ws (i := 1153) (by decide +kernel) rfl
theorem mi_X5_ofDistrict : Cond.instanceMethod yX5_ofDistrict ∈ am_WS := am_ws (i := 1156) (by decide +kernel) rfl
theorem se_X5_ofDistrict : Cond.selects RX5 yX5_ofDistrict yX5_ofDistrict ∈ am_WS := am_ws (i := 1157) (by decide +kernel) rfl
theorem mi_X5_flowAnew : Cond.instanceMethod yX5_flowAnew ∈ am_WS := am_ws (i := 1160) (by decide +kernel) rfl
theorem se_X5_flowAnew : Cond.selects RX5 yX5_flowAnew yX5_flowAnew ∈ am_WS := am_ws (i := 1161) (by decide +kernel) rfl
theorem mi_X5_most : Cond.instanceMethod yX5_most ∈ am_WS := am_ws (i := 1164) (by decide +kernel) rfl
theorem se_X5_most : Cond.selects RX5 yX5_most yX5_most ∈ am_WS := am_ws (i := 1165) (by decide +kernel) rfl
theorem mi_X5_place : Cond.instanceMethod yX5_place ∈ am_WS := am_ws (i := 1168) (by decide +kernel) rfl
theorem se_X5_place : Cond.selects RX5 yX5_place yX5_place ∈ am_WS := am_ws (i := 1169) (by decide +kernel) rfl
theorem mi_X5_sum : Cond.instanceMethod yX5_sum ∈ am_WS := am_ws (i := 1181) (by decide +kernel) rfl
theorem se_X5_sum : Cond.selects RX5 yX5_sum yX5_sum ∈ am_WS := am_ws (i := 35) (by decide +kernel) rfl
theorem mi_X5_burstPipes : Cond.instanceMethod yX5_burstPipes ∈ am_WS := am_ws (i := 1177) (by decide +kernel) rfl
theorem se_X5_burstPipes : Cond.selects RX5 yX5_burstPipes yX5_burstPipes ∈ am_WS := am_ws (i := 34) (by decide +kernel) rfl
theorem mi_X5_count : Cond.instanceMethod yX5_count ∈ am_WS := am_ws (i := 1172) (by decide +kernel) rfl
theorem se_X5_count : Cond.selects RX5 yX5_count yX5_count ∈ am_WS := am_ws (i := 1173) (by decide +kernel) rfl
theorem ms_J9_max_7cf53 : Cond.static yJ9_max_7cf53 ∈ am_WS := am_ws (i := 377) (by decide +kernel) rfl
theorem ms_J9_min_7cf53 : Cond.static yJ9_min_7cf53 ∈ am_WS := am_ws (i := 409) (by decide +kernel) rfl
theorem mi_J4_init_da8c8 : Cond.instanceMethod yJ4_init_da8c8 ∈ am_WS := am_ws (i := 559) (by decide +kernel) rfl
theorem mi_J4_append_15ec4 : Cond.instanceMethod yJ4_append_15ec4 ∈ am_WS := am_ws (i := 589) (by decide +kernel) rfl
theorem se_J4_append_15ec4 : Cond.selects RJ4 yJ4_append_15ec4 yJ4_append_15ec4 ∈ am_WS := am_ws (i := 590) (by decide +kernel) rfl
theorem mi_J4_append_bf812 : Cond.instanceMethod yJ4_append_bf812 ∈ am_WS := am_ws (i := 694) (by decide +kernel) rfl
theorem se_J4_append_bf812 : Cond.selects RJ4 yJ4_append_bf812 yJ4_append_bf812 ∈ am_WS := am_ws (i := 695) (by decide +kernel) rfl
theorem mi_J4_toString_0e30d : Cond.instanceMethod yJ4_toString_0e30d ∈ am_WS := am_ws (i := 720) (by decide +kernel) rfl
theorem se_J4_toString_0e30d : Cond.selects RJ4 yJ4_toString_0e30d yJ4_toString_0e30d ∈ am_WS := am_ws (i := 721) (by decide +kernel) rfl
theorem mi_Jxa1e45_init_da8c8 : Cond.instanceMethod yJxa1e45_init_da8c8 ∈ am_WS := am_ws (i := 82) (by decide +kernel) rfl
theorem mi_Jxc12de_init_da8c8 : Cond.instanceMethod yJxc12de_init_da8c8 ∈ am_WS := am_ws (i := 79) (by decide +kernel) rfl
theorem mi_Jx4a65c_init_da8c8 : Cond.instanceMethod yJx4a65c_init_da8c8 ∈ am_WS := am_ws (i := 76) (by decide +kernel) rfl
theorem mi_Jx4a65c_grow_92f84 : Cond.instanceMethod yJx4a65c_grow_92f84 ∈ am_WS := am_ws (i := 371) (by decide +kernel) rfl
theorem se_Jx4a65c_grow_92f84 : Cond.selects RJx4a65c yJx4a65c_grow_92f84 yJx4a65c_grow_92f84 ∈ am_WS := am_ws (i := 3) (by decide +kernel) rfl
theorem mi_Jx4a65c_grow_d5877 : Cond.instanceMethod yJx4a65c_grow_d5877 ∈ am_WS := am_ws (i := 367) (by decide +kernel) rfl
theorem se_Jx4a65c_grow_d5877 : Cond.selects RJx4a65c yJx4a65c_grow_d5877 yJx4a65c_grow_d5877 ∈ am_WS := am_ws (i := 2) (by decide +kernel) rfl
theorem mi_Jx4a65c_size_8abf5 : Cond.instanceMethod yJx4a65c_size_8abf5 ∈ am_WS := am_ws (i := 251) (by decide +kernel) rfl
theorem se_Jx4a65c_size_8abf5 : Cond.selects RJx4a65c yJx4a65c_size_8abf5 yJx4a65c_size_8abf5 ∈ am_WS := am_ws (i := 252) (by decide +kernel) rfl
theorem mi_Jx4a65c_elementData_915e3 : Cond.instanceMethod yJx4a65c_elementData_915e3 ∈ am_WS := am_ws (i := 498) (by decide +kernel) rfl
theorem se_Jx4a65c_elementData_915e3 : Cond.selects RJx4a65c yJx4a65c_elementData_915e3 yJx4a65c_elementData_915e3 ∈ am_WS := am_ws (i := 499) (by decide +kernel) rfl
theorem mi_Jx4a65c_get_915e3 : Cond.instanceMethod yJx4a65c_get_915e3 ∈ am_WS := am_ws (i := 488) (by decide +kernel) rfl
theorem se_Jx4a65c_get_915e3 : Cond.selects RJx4a65c yJx4a65c_get_915e3 yJx4a65c_get_915e3 ∈ am_WS := am_ws (i := 489) (by decide +kernel) rfl
theorem mi_Jx4a65c_add_72be8 : Cond.instanceMethod yJx4a65c_add_72be8 ∈ am_WS := am_ws (i := 363) (by decide +kernel) rfl
theorem se_Jx4a65c_add_72be8 : Cond.selects RJx4a65c yJx4a65c_add_72be8 yJx4a65c_add_72be8 ∈ am_WS := am_ws (i := 1) (by decide +kernel) rfl
theorem mi_Jx4a65c_add_9ea2d : Cond.instanceMethod yJx4a65c_add_9ea2d ∈ am_WS := am_ws (i := 358) (by decide +kernel) rfl
theorem se_Jx4a65c_add_9ea2d : Cond.selects RJx4a65c yJx4a65c_add_9ea2d yJx4a65c_add_9ea2d ∈ am_WS := am_ws (i := 359) (by decide +kernel) rfl
theorem mi_Jx4a65c_add_7a177 : Cond.instanceMethod yJx4a65c_add_7a177 ∈ am_WS := am_ws (i := 544) (by decide +kernel) rfl
theorem se_Jx4a65c_add_7a177 : Cond.selects RJx4a65c yJx4a65c_add_7a177 yJx4a65c_add_7a177 ∈ am_WS := am_ws (i := 545) (by decide +kernel) rfl
theorem mi_Jx4a65c_clear_da8c8 : Cond.instanceMethod yJx4a65c_clear_da8c8 ∈ am_WS := am_ws (i := 532) (by decide +kernel) rfl
theorem se_Jx4a65c_clear_da8c8 : Cond.selects RJx4a65c yJx4a65c_clear_da8c8 yJx4a65c_clear_da8c8 ∈ am_WS := am_ws (i := 533) (by decide +kernel) rfl
theorem mi_Jx4a65c_rangeCheckForAdd_d00df : Cond.instanceMethod yJx4a65c_rangeCheckForAdd_d00df ∈ am_WS := am_ws (i := 549) (by decide +kernel) rfl
theorem se_Jx4a65c_rangeCheckForAdd_d00df : Cond.selects RJx4a65c yJx4a65c_rangeCheckForAdd_d00df yJx4a65c_rangeCheckForAdd_d00df ∈ am_WS := am_ws (i := 7) (by decide +kernel) rfl
theorem mi_Jx4a65c_outOfBoundsMsg_b52d3 : Cond.instanceMethod yJx4a65c_outOfBoundsMsg_b52d3 ∈ am_WS := am_ws (i := 554) (by decide +kernel) rfl
theorem se_Jx4a65c_outOfBoundsMsg_b52d3 : Cond.selects RJx4a65c yJx4a65c_outOfBoundsMsg_b52d3 yJx4a65c_outOfBoundsMsg_b52d3 ∈ am_WS := am_ws (i := 8) (by decide +kernel) rfl
theorem ms_J7_copyOf_1904c : Cond.static yJ7_copyOf_1904c ∈ am_WS := am_ws (i := 384) (by decide +kernel) rfl
theorem ms_J7_copyOf_6403c : Cond.static yJ7_copyOf_6403c ∈ am_WS := am_ws (i := 403) (by decide +kernel) rfl
theorem ms_J7_checkLength_df160 : Cond.static yJ7_checkLength_df160 ∈ am_WS := am_ws (i := 753) (by decide +kernel) rfl
theorem ms_J7_copyOfRangeByte_39247 : Cond.static yJ7_copyOfRangeByte_39247 ∈ am_WS := am_ws (i := 750) (by decide +kernel) rfl
theorem ms_J15_checkIndex_7cf53 : Cond.static yJ15_checkIndex_7cf53 ∈ am_WS := am_ws (i := 492) (by decide +kernel) rfl
theorem ms_J8_newLength_cabcc : Cond.static yJ8_newLength_cabcc ∈ am_WS := am_ws (i := 374) (by decide +kernel) rfl
theorem ms_J8_hugeLength_7cf53 : Cond.static yJ8_hugeLength_7cf53 ∈ am_WS := am_ws (i := 381) (by decide +kernel) rfl
theorem ms_J3_checkIndex_8e157 : Cond.static yJ3_checkIndex_8e157 ∈ am_WS := am_ws (i := 495) (by decide +kernel) rfl
theorem kl_L_8 : Cond.classLink RL 8 "PipewrightExchange" ∈ am_WS := am_ws (i := 65) (by decide +kernel) rfl
theorem kl_X4_9 : Cond.classLink RX4 9 "java/util/ArrayList" ∈ am_WS := am_ws (i := 73) (by decide +kernel) rfl
theorem kl_X4_16 : Cond.classLink RX4 16 "PipewrightExchange$Net" ∈ am_WS := am_ws (i := 99) (by decide +kernel) rfl
theorem kl_X2_9 : Cond.classLink RX2 9 "java/util/ArrayList" ∈ am_WS := am_ws (i := 105) (by decide +kernel) rfl
theorem kl_X2_25 : Cond.classLink RX2 25 "[[I" ∈ am_WS := am_ws (i := 107) (by decide +kernel) rfl
theorem kl_L_13 : Cond.classLink RL 13 "java/lang/IllegalArgumentException" ∈ am_WS := am_ws (i := 173) (by decide +kernel) rfl
theorem kl_L_15 : Cond.classLink RL 15 "java/lang/IllegalStateException" ∈ am_WS := am_ws (i := 174) (by decide +kernel) rfl
theorem kl_X4_50 : Cond.classLink RX4 50 "java/lang/IllegalArgumentException" ∈ am_WS := am_ws (i := 182) (by decide +kernel) rfl
theorem kl_X4_61 : Cond.classLink RX4 61 "java/lang/IllegalStateException" ∈ am_WS := am_ws (i := 254) (by decide +kernel) rfl
theorem kl_X4_66 : Cond.classLink RX4 66 "PipewrightExchange$District" ∈ am_WS := am_ws (i := 270) (by decide +kernel) rfl
theorem kl_X1_13 : Cond.classLink RX1 13 "PipewrightExchange$Bid" ∈ am_WS := am_ws (i := 276) (by decide +kernel) rfl
theorem kl_JA_110 : Cond.classLink RJ7 110 "[Ljava/lang/Object;" ∈ am_WS := am_ws (i := 405) (by decide +kernel) rfl
theorem kl_JA_2 : Cond.classLink RJ7 2 "java/lang/Object" ∈ am_WS := am_ws (i := 407) (by decide +kernel) rfl
theorem kl_AL_7 : Cond.classLink RJx4a65c 7 "java/lang/Object" ∈ am_WS := am_ws (i := 415) (by decide +kernel) rfl
theorem kl_L_21 : Cond.classLink RL 21 "java/lang/IndexOutOfBoundsException" ∈ am_WS := am_ws (i := 419) (by decide +kernel) rfl
theorem kl_X4_79 : Cond.classLink RX4 79 "java/lang/IndexOutOfBoundsException" ∈ am_WS := am_ws (i := 428) (by decide +kernel) rfl
theorem kl_X4_91 : Cond.classLink RX4 91 "PipewrightExchange$Pipe" ∈ am_WS := am_ws (i := 446) (by decide +kernel) rfl
theorem kl_AL_187 : Cond.classLink RJx4a65c 187 "java/lang/IndexOutOfBoundsException" ∈ am_WS := am_ws (i := 551) (by decide +kernel) rfl
theorem kl_AL_20 : Cond.classLink RJx4a65c 20 "java/lang/StringBuilder" ∈ am_WS := am_ws (i := 556) (by decide +kernel) rfl
theorem kl_JA_311 : Cond.classLink RJ7 311 "[B" ∈ am_WS := am_ws (i := 618) (by decide +kernel) rfl
theorem kl_JA_43 : Cond.classLink RJ7 43 "java/lang/IllegalArgumentException" ∈ am_WS := am_ws (i := 755) (by decide +kernel) rfl
theorem kl_JA_45 : Cond.classLink RJ7 45 "java/lang/StringBuilder" ∈ am_WS := am_ws (i := 756) (by decide +kernel) rfl
theorem kl_X2_48 : Cond.classLink RX2 48 "PipewrightExchange$Pipe" ∈ am_WS := am_ws (i := 803) (by decide +kernel) rfl
theorem kl_L_64 : Cond.classLink RL 64 "PipewrightExchangeModel" ∈ am_WS := am_ws (i := 928) (by decide +kernel) rfl
theorem oi_i : Cond.instanceMethod Lib.objectInit ∈ am_WS := am_ws (i := 71) (by decide +kernel) rfl
theorem oi_c : Cond.code Lib.objectInit ⟨#[0xb1]⟩ 1 none ∈ am_WS := am_ws (i := 72) (by decide +kernel) rfl
theorem oi_X4 : Cond.methodLink RX4 3 Lib.objectInit ∈ am_WS := am_ws (i := 70) (by decide +kernel) rfl
theorem oi_JC : Cond.methodLink RJxa1e45 1 Lib.objectInit ∈ am_WS := am_ws (i := 84) (by decide +kernel) rfl
theorem oi_X2 : Cond.methodLink RX2 3 Lib.objectInit ∈ am_WS := am_ws (i := 104) (by decide +kernel) rfl
theorem oi_X1 : Cond.methodLink RX1 1 Lib.objectInit ∈ am_WS := am_ws (i := 275) (by decide +kernel) rfl
theorem oi_X0 : Cond.methodLink RX0 1 Lib.objectInit ∈ am_WS := am_ws (i := 281) (by decide +kernel) rfl
theorem ml_JS_194 : Cond.methodLink RJ8 194 Lib.Math.max.name ∈ am_WS := am_ws (i := 376) (by decide +kernel) rfl
theorem ml_JA_304 : Cond.methodLink RJ7 304 Lib.Math.min.name ∈ am_WS := am_ws (i := 408) (by decide +kernel) rfl
theorem ml_AL_79 : Cond.methodLink RJx4a65c 79 Lib.Math.max.name ∈ am_WS := am_ws (i := 414) (by decide +kernel) rfl
theorem oi_X3 : Cond.methodLink RX3 1 Lib.objectInit ∈ am_WS := am_ws (i := 451) (by decide +kernel) rfl
theorem ml_X2_63 : Cond.methodLink RX2 63 Lib.Math.min.name ∈ am_WS := am_ws (i := 808) (by decide +kernel) rfl
theorem ml_X1_73 : Cond.methodLink RX1 73 Lib.Math.min.name ∈ am_WS := am_ws (i := 862) (by decide +kernel) rfl
theorem oi_X5 : Cond.methodLink RX5 1 Lib.objectInit ∈ am_WS := am_ws (i := 933) (by decide +kernel) rfl
theorem ms_min : Cond.static Lib.Math.min.name ∈ am_WS := am_ws (i := 409) (by decide +kernel) rfl
theorem mcode_min : Cond.code Lib.Math.min.name Lib.Math.min.code 2 (some .int) ∈ am_WS := am_ws (i := 410) (by decide +kernel) rfl
theorem ms_max : Cond.static Lib.Math.max.name ∈ am_WS := am_ws (i := 377) (by decide +kernel) rfl
theorem mcode_max : Cond.code Lib.Math.max.name Lib.Math.max.code 2 (some .int) ∈ am_WS := am_ws (i := 378) (by decide +kernel) rfl
theorem ini_Math : Cond.initialized "java/lang/Math" ∈ am_WS := am_ws (i := 51) (by decide +kernel) rfl
theorem aw_int : Cond.arrayClass .int ∈ am_WS := am_ws (i := 133) (by decide +kernel) rfl
theorem aw_boolean : Cond.arrayClass .boolean ∈ am_WS := am_ws (i := 1040) (by decide +kernel) rfl
theorem aw_long : Cond.arrayClass .long ∈ am_WS := am_ws (i := 1183) (by decide +kernel) rfl
end
section
theorem tw_50 : am_tw 50 54 "java/lang/IllegalArgumentException" := am_twt 50 54 _ (by decide +kernel) (by decide +kernel)
theorem tw_61 : am_tw 61 65 "java/lang/IllegalStateException" := am_twt 61 65 _ (by decide +kernel) (by decide +kernel)
theorem tw_79 : am_tw 79 83 "java/lang/IndexOutOfBoundsException" := am_twt 79 83 _ (by decide +kernel) (by decide +kernel)
end
section
/-! ===== the world: objects by labels (code, index); Γ c i j = field or element j of (c, i) ===== -/
def u3 (Γ : Nat → Nat → Nat → Int32) (c i j : Nat) (v : Int32) : Nat → Nat → Nat → Int32 := fun c' i' j' => if c' = c ∧ i' = i ∧ j' = j then v else Γ c' i' j'
theorem u3_ap (Γ : Nat → Nat → Nat → Int32) (c i j : Nat) (v : Int32) (c' i' j' : Nat) : u3 Γ c i j v c' i' j' = if c' = c ∧ i' = i ∧ j' = j then v else Γ c' i' j' := rfl
theorem u3_s {Γ : Nat → Nat → Nat → Int32} {c i j : Nat} {v : Int32} : u3 Γ c i j v c i j = v := if_pos ⟨rfl, rfl, rfl⟩
theorem u3_n {Γ : Nat → Nat → Nat → Int32} {c i j c' i' j' : Nat} {v : Int32} (h : ¬ (c' = c ∧ i' = i ∧ j' = j)) : u3 Γ c i j v c' i' j' = Γ c' i' j' := if_neg h
/-- the kind of a code -/
def wk : Nat → Nat := fun c => match c with
  | 0 => 1
  | 1 => 1
  | 2 => 2
  | 3 => 3
  | 4 => 4
  | 5 => 5
  | 6 => 7
  | 8 => 14
  | 9 => 11
  | 10 => 11
  | 11 => 6
  | 12 => 11
  | 13 => 12
  | 14 => 15
  | 15 => 17
  | _ => 0
/-- the class of a code of objects with int fields -/
def wcl : Nat → Option Nat := fun c => match c with
  | 0 => some 0
  | 1 => some 0
  | 2 => some 1
  | 3 => some 2
  | 4 => some 3
  | 5 => some 4
  | 11 => some 5
  | _ => none
/-- which labels there are, with n districts and p pipes -/
def wdm (n p : Nat) : Nat → Nat → Bool := fun c i => match c with
  | 0 => decide (i < n)
  | 1 => decide (i < n)
  | 2 => decide (i < n)
  | 3 => decide (i = 0)
  | 4 => decide (i < p)
  | 5 => decide (i = 0)
  | 6 => decide (i < 3)
  | 8 => decide (i = 0)
  | 9 => decide (i < 9)
  | 10 => decide (i < 3)
  | 11 => decide (i = 0)
  | 12 => [4, 5, 6, 7, 8, 9, 11, 12, 13, 17, 18, 19, 20, 21, 22, 25, 26, 27, 29, 31, 32, 33].contains i
  | 13 => [10, 14, 15, 28].contains i
  | 14 => decide (i = 0)
  | 15 => decide (i = 0)
  | _ => false
def wln : Nat → Nat → Nat := fun c i => match c with
  | 9 => 9
  | 10 => 9
  | 12 => if i = 25 ∨ i = 26 ∨ i = 27 ∨ i = 29 then 24 else if i = 31 ∨ i = 32 then 9 else 8
  | 13 => if i = 28 then 24 else 8
  | _ => 0
/-- reference fields: (code, field) to the label it holds, for the object i -/
def wrf : Nat → Nat → Nat → Option (Nat × Nat) := fun c j i => match c with
  | 2 => if j = 4 then some (0, i) else if j = 5 then some (1, i) else none
  | 3 => if j = 0 then some (6, 2) else if j = 3 then some (8, 0) else if j = 4 then some (10, 0) else if j = 5 then some (10, 1) else if j = 6 then some (10, 2) else none
  | 5 => if j = 0 then some (6, 0) else if j = 1 then some (3, 0) else if j = 2 then some (6, 1) else none
  | 11 => if [4, 5, 6, 7, 8, 9, 11, 12, 13, 17, 18, 19, 20, 21, 22, 25, 26, 27, 29, 31, 32, 33].contains j then some (12, j) else if [10, 14, 15, 28].contains j then some (13, j) else none
  | _ => none
/-- the three lists' contents, and the code of what they hold -/
def wls (n p : Nat) (ord : List Nat) : Nat → List Nat := fun t => match t with
  | 0 => List.range n
  | 1 => ord
  | _ => List.range p
def wec : Nat → Nat := fun t => match t with
  | 0 => 2
  | 1 => 2
  | _ => 4
/-- THE WORLD: N: how long the script is -/
def WI (N n p : Nat) (ord : List Nat) (L : Nat → Nat → Nat) (Γ : Nat → Nat → Nat → Int32) (o : Int64) (h : am_H) : Prop :=
  (n ≤ 8 ∧ p ≤ 24 ∧ N ≤ 2048 ∧ (∀ e ∈ ord, e < n) ∧ ord.length ≤ 8) ∧
  (∀ c i, wdm n p c i = true → am_K h (L c i) = wk c) ∧
  (∀ c i c' i', wdm n p c i = true → wdm n p c' i' = true → L c i = L c' i' → c = c' ∧ i = i') ∧
  (∀ c i ci j, wdm n p c i = true → wcl c = some ci → am_isR (am_ty ci j) = false → am_I h (100 * ci + j) (L c i) = Γ c i j) ∧
  (∀ c i ci j r, wdm n p c i = true → wcl c = some ci → wrf c j i = some r → am_R h (100 * ci + j) (L c i) = some (L r.1 r.2)) ∧
  (∀ c i, wdm n p c i = true → (c = 9 ∨ c = 10 ∨ c = 12 ∨ c = 13) → am_N h (L c i) = wln c i ∧ ∀ j, j < wln c i → am_A h (L c i) j = Γ c i j) ∧
  (∀ t, t < 3 → am_I h 602 (L 6 t) = nI (wls n p ord t).length ∧ am_R h 601 (L 6 t) = some (L 7 t) ∧
    ((am_K h (L 7 t) = 13 ∧ (wls n p ord t).length ≤ am_N h (L 7 t) ∧ am_N h (L 7 t) ≤ 100) ∨ (am_K h (L 7 t) = 16 ∧ wls n p ord t = [] ∧ am_N h (L 7 t) = 0)) ∧
    (∀ j (hj : j < (wls n p ord t).length), am_B h (L 7 t) j = some (L (wec t) ((wls n p ord t)[j]))) ∧
    (∀ t', t' < 3 → L 7 t' = L 7 t → t' = t ∨ am_K h (L 7 t) = 16)) ∧
  (am_N h (L 8 0) = 9 ∧ ∀ a, a < 9 → am_B h (L 8 0) a = some (L 9 a)) ∧
  (am_N h (L 14 0) = 1 ∧ am_L h (L 14 0) 0 = o) ∧
  (am_N h (L 15 0) = N ∧ ∀ j, j < N → am_A h (L 15 0) j = Γ 15 0 j)
section WR
variable {N n p : Nat} {ord : List Nat} {L : Nat → Nat → Nat} {Γ : Nat → Nat → Nat → Int32} {o : Int64} {h : am_H}
theorem WI.k (w : WI N n p ord L Γ o h) {c i : Nat} (hi : wdm n p c i = true) : am_K h (L c i) = wk c := w.2.1 c i hi
theorem WI.ij (w : WI N n p ord L Γ o h) {c i c' i' : Nat} (hi : wdm n p c i = true) (hi' : wdm n p c' i' = true) (e : L c i = L c' i') : c = c' ∧ i = i' := w.2.2.1 c i c' i' hi hi' e
theorem wcl_k {c ci : Nat} (h : wcl c = some ci) : wk c = ci + 1 := by
  unfold wcl at h
  split at h <;> first | (cases h; rfl) | cases h
theorem wcl_lt {c ci : Nat} (h : wcl c = some ci) : ci < 6 ∧ (c < 6 ∨ c = 11) := by
  unfold wcl at h
  split at h <;> first | (cases h; decide) | cases h
/-- an address of kind 13 or 16 is none of the labels -/
theorem WI.ne7 (w : WI N n p ord L Γ o h) {c i t : Nat} (hi : wdm n p c i = true) (ht : t < 3) : L c i ≠ L 7 t := by
  intro e
  have h1 := w.k hi
  rw [e] at h1
  have h2 : wk c ≠ 13 ∧ wk c ≠ 16 := by unfold wk; split <;> decide
  rcases (w.2.2.2.2.2.2.1 t ht).2.2.1 with z | z
  · exact h2.1 (h1.symm.trans z.1)
  · exact h2.2 (h1.symm.trans z.1)
/-- an int field written -/
theorem WI.putI (w : WI N n p ord L Γ o h) {c i ci j : Nat} (hi : wdm n p c i = true) (hc : wcl c = some ci) (ht : am_isR (am_ty ci j) = false) (hj : j < 100) (v : Int32) : WI N n p ord L (u3 Γ c i j v) o (am_sI h (100 * ci + j) (L c i) v) := by
  obtain ⟨w0, w1, w2, w3, w4, w5, w6, w7, w8, w9⟩ := id w
  have hc6 := wcl_lt hc
  refine ⟨w0, w1, w2, fun c' i' ci' j' hi' hc' ht' => ?_, w4, fun c' i' hi' hcc => ?_, fun t ht3 => ?_, w7, w8, w9.1, fun j' hj' => ?_⟩
  · rw [am_I_sI]
    by_cases e : c' = c ∧ i' = i ∧ j' = j
    · obtain ⟨rfl, rfl, rfl⟩ := e
      cases hc.symm.trans hc'
      rw [if_pos ⟨rfl, rfl⟩, u3_s]
    · rw [u3_n e, if_neg, w3 c' i' ci' j' hi' hc' ht']
      rintro ⟨z1, z2⟩
      obtain ⟨e1, e2⟩ := w.ij hi' hi z2
      subst e1
      cases hc.symm.trans hc'
      exact e ⟨rfl, e2, by omega⟩
  · obtain ⟨q1, q2⟩ := w5 c' i' hi' hcc
    refine ⟨q1, fun j' hj' => ?_⟩
    rw [am_A_sI, q2 j' hj', u3_n]
    omega
  · have q := w6 t ht3
    refine ⟨?_, q.2⟩
    rw [am_I_sI, if_neg (by omega)]
    exact q.1
  · rw [am_A_sI, w9.2 j' hj', u3_n]
    omega
theorem WI.putA (w : WI N n p ord L Γ o h) {c i j : Nat} (hi : wdm n p c i = true) (hc : c = 9 ∨ c = 10 ∨ c = 12 ∨ c = 13) (hj : j < wln c i) (v : Int32) : WI N n p ord L (u3 Γ c i j v) o (am_sA h (L c i) j v) := by
  obtain ⟨w0, w1, w2, w3, w4, w5, w6, w7, w8, w9⟩ := id w
  refine ⟨w0, w1, w2, fun c' i' ci' j' hi' hc' ht' => ?_, w4, fun c' i' hi' hcc => ?_, w6, w7, w8, w9.1, fun j' hj' => ?_⟩
  · have := wcl_lt hc'
    rw [am_I_sA, w3 c' i' ci' j' hi' hc' ht', u3_n]
    omega
  · obtain ⟨q1, q2⟩ := w5 c' i' hi' hcc
    refine ⟨q1, fun j' hj' => ?_⟩
    rw [am_A_sA]
    by_cases e : c' = c ∧ i' = i ∧ j' = j
    · obtain ⟨rfl, rfl, rfl⟩ := e
      rw [if_pos ⟨rfl, rfl⟩, u3_s]
    · rw [u3_n e, if_neg, q2 j' hj']
      rintro ⟨z1, z2⟩
      obtain ⟨e1, e2⟩ := w.ij hi' hi z1
      exact e ⟨e1, e2, z2⟩
  · rw [am_A_sA, if_neg, w9.2 j' hj', u3_n]
    · omega
    · rintro ⟨z1, -⟩
      have := (w.ij (c := 15) (i := 0) rfl hi z1).1
      omega
theorem WI.putL (w : WI N n p ord L Γ o h) (v : Int64) : WI N n p ord L Γ v (am_sL h (L 14 0) 0 v) := by
  obtain ⟨w0, w1, w2, w3, w4, w5, w6, w7, w8, w9⟩ := w
  exact ⟨w0, w1, w2, w3, w4, w5, w6, w7, ⟨w8.1, by rw [am_L_sL, if_pos ⟨rfl, rfl⟩]⟩, w9⟩
/-- only what is in the world counts -/
theorem WI.congr (w : WI N n p ord L Γ o h) {Γ' : Nat → Nat → Nat → Int32} (e : ∀ c i j, wdm n p c i = true → Γ' c i j = Γ c i j) : WI N n p ord L Γ' o h := by
  obtain ⟨w0, w1, w2, w3, w4, w5, w6, w7, w8, w9⟩ := w
  exact ⟨w0, w1, w2, fun c i ci j hi hc ht => by rw [e c i j hi]; exact w3 c i ci j hi hc ht, w4, fun c i hi hc => ⟨(w5 c i hi hc).1, fun j hj => by rw [e c i j hi]; exact (w5 c i hi hc).2 j hj⟩, w6, w7, w8, w9.1, fun j hj => by rw [e 15 0 j rfl]; exact w9.2 j hj⟩
end WR
section WG
variable {k : am_X} {own nm : String} {cc : ByteArray} {nL : Nat} {ret : Option FieldType} {cells slots : Nat} {Q : State → Prop} {pc : Nat} {ls : List (Nat × Value)} {st : List Value} {h : am_H}
variable {N n p : Nat} {ord : List Nat} {L : Nat → Nat → Nat} {Γ : Nat → Nat → Nat → Int32} {o : Int64}
theorem w_getI {c i index ci j f : Nat} (w : WI N n p ord L Γ o h) (hd : decode cc pc = .ok (.getfield index, 3)) (hf : am_fl own index ci j f) (hc : wcl c = some ci) (ht : am_isR (am_ty ci j) = false) (hi : wdm n p c i = true) (kk : am_G k own nm cc nL ret cells slots Q (pc + 3) ls (.int (Γ c i j) :: st) h) : am_G k own nm cc nL ret cells slots Q pc ls (.ref (L c i) :: st) h := by
  refine g_getI hd hf ht ((w.k hi).trans (wcl_k hc)) ?_
  rw [hf.1, w.2.2.2.1 c i ci j hi hc ht]
  exact kk
theorem w_getR {c i index ci j f c' i' : Nat} (w : WI N n p ord L Γ o h) (hd : decode cc pc = .ok (.getfield index, 3)) (hf : am_fl own index ci j f) (hc : wcl c = some ci) (ht : am_isR (am_ty ci j) = true) (hi : wdm n p c i = true) (hr : wrf c j i = some (c', i')) (kk : am_G k own nm cc nL ret cells slots Q (pc + 3) ls (.ref (L c' i') :: st) h) : am_G k own nm cc nL ret cells slots Q pc ls (.ref (L c i) :: st) h := by
  refine g_getR hd hf ht ((w.k hi).trans (wcl_k hc)) ?_ kk
  rw [hf.1]
  exact w.2.2.2.2.1 c i ci j (c', i') hi hc hr
theorem w_putI {c i index ci j f : Nat} {v : Int32} (w : WI N n p ord L Γ o h) (hd : decode cc pc = .ok (.putfield index, 3)) (hf : am_fl own index ci j f) (hc : wcl c = some ci) (ht : am_isR (am_ty ci j) = false) (hj : j < 100) (hfin : ∀ q, am_C[ci]? = some q → (q.2.1 j).2.2.2 = false) (hi : wdm n p c i = true) (hn : narrow (am_ty ci j) (.int v) = .int v) (hfit : fits (am_ty ci j) (.int v) = true)
    (kk : ∀ h', WI N n p ord L (u3 Γ c i j v) o h' → am_G k own nm cc nL ret cells slots Q (pc + 3) ls st h') : am_G k own nm cc nL ret cells slots Q pc ls (.int v :: .ref (L c i) :: st) h := by
  refine g_putI hd hf ht (fun q hq => Or.inl (hfin q hq)) ((w.k hi).trans (wcl_k hc)) hn hfit (kk _ ?_)
  rw [hf.1]
  exact w.putI hi hc ht hj v
theorem w_ald {c i j : Nat} (w : WI N n p ord L Γ o h) (hd : decode cc pc = .ok (.iaload, 1)) (hc : c = 9 ∨ c = 10 ∨ c = 12) (hi : wdm n p c i = true) (hj : j < wln c i) (kk : am_G k own nm cc nL ret cells slots Q (pc + 1) ls (.int (Γ c i j) :: st) h) : am_G k own nm cc nL ret cells slots Q pc ls (.int (nI j) :: .ref (L c i) :: st) h := by
  have h5 := w.2.2.2.2.2.1 c i hi (by omega)
  have hw : wln c i ≤ 24 := by unfold wln; split <;> (try split) <;> (try split) <;> omega
  refine g_iald hd ?_ (by rw [h5.1]; exact vp_in_nI hj (by omega)) ?_
  · rw [w.k hi]
    rcases hc with rfl | rfl | rfl <;> rfl
  · rw [nI_clamp (by omega), h5.2 j hj]
    exact kk
theorem w_ast {c i j : Nat} {v : Int32} (w : WI N n p ord L Γ o h) (hd : decode cc pc = .ok (.iastore, 1)) (hc : c = 9 ∨ c = 10 ∨ c = 12) (hi : wdm n p c i = true) (hj : j < wln c i) (kk : ∀ h', WI N n p ord L (u3 Γ c i j v) o h' → am_G k own nm cc nL ret cells slots Q (pc + 1) ls st h') : am_G k own nm cc nL ret cells slots Q pc ls (.int v :: .int (nI j) :: .ref (L c i) :: st) h := by
  have h5 := w.2.2.2.2.2.1 c i hi (by omega)
  have hw : wln c i ≤ 24 := by unfold wln; split <;> (try split) <;> (try split) <;> omega
  refine g_iast hd ?_ (by rw [h5.1]; exact vp_in_nI hj (by omega)) (kk _ ?_)
  · rw [w.k hi]
    rcases hc with rfl | rfl | rfl <;> rfl
  · rw [nI_clamp (by omega)]
    exact w.putA hi (by omega) hj v
theorem w_zald {i j : Nat} (w : WI N n p ord L Γ o h) (hd : decode cc pc = .ok (.baload, 1)) (hi : wdm n p 13 i = true) (hj : j < wln 13 i) (kk : am_G k own nm cc nL ret cells slots Q (pc + 1) ls (.int (Γ 13 i j) :: st) h) : am_G k own nm cc nL ret cells slots Q pc ls (.int (nI j) :: .ref (L 13 i) :: st) h := by
  have h5 := w.2.2.2.2.2.1 13 i hi (by omega)
  have hw : wln 13 i ≤ 24 := by show (if i = 28 then 24 else 8) ≤ 24; split <;> omega
  refine g_zald hd (w.k hi) (by rw [h5.1]; exact vp_in_nI hj (by omega)) ?_
  rw [nI_clamp (by omega), h5.2 j hj]
  exact kk
theorem w_zast {i j : Nat} {v : Int32} (w : WI N n p ord L Γ o h) (hd : decode cc pc = .ok (.bastore, 1)) (hi : wdm n p 13 i = true) (hj : j < wln 13 i) (hn : narrow .boolean (.int v) = .int v) (kk : ∀ h', WI N n p ord L (u3 Γ 13 i j v) o h' → am_G k own nm cc nL ret cells slots Q (pc + 1) ls st h') : am_G k own nm cc nL ret cells slots Q pc ls (.int v :: .int (nI j) :: .ref (L 13 i) :: st) h := by
  have h5 := w.2.2.2.2.2.1 13 i hi (by omega)
  have hw : wln 13 i ≤ 24 := by show (if i = 28 then 24 else 8) ≤ 24; split <;> omega
  refine g_zast hd (w.k hi) (by rw [h5.1]; exact vp_in_nI hj (by omega)) hn (kk _ ?_)
  rw [nI_clamp (by omega)]
  exact w.putA hi (by omega) hj v
theorem w_row {a : Nat} (w : WI N n p ord L Γ o h) (hd : decode cc pc = .ok (.aaload, 1)) (ha : a < 9) (kk : am_G k own nm cc nL ret cells slots Q (pc + 1) ls (.ref (L 9 a) :: st) h) : am_G k own nm cc nL ret cells slots Q pc ls (.int (nI a) :: .ref (L 8 0) :: st) h := by
  have h7 := w.2.2.2.2.2.2.2.1
  refine g_rald hd (w.k rfl) (by rw [h7.1]; exact vp_in_nI ha (by omega)) ?_
  rw [nI_clamp (by omega), h7.2 a ha]
  exact kk
end WG
end
section
def sp_it {α : Type} (f : Nat → α → α) : Nat → α → α
  | 0, a => a
  | j + 1, a => f j (sp_it f j a)
def sp_sum (f : Nat → Int32) : Nat → Int32
  | 0 => 0
  | j + 1 => sp_sum f j + f j
theorem sp_it_pres {f : Nat → (Nat → Nat → Nat → Int32) → Nat → Nat → Nat → Int32} {c i j : Nat} (hf : ∀ k Γ, (f k Γ) c i j = Γ c i j) (Γ : Nat → Nat → Nat → Int32) : ∀ m, (sp_it f m Γ) c i j = Γ c i j
  | 0 => rfl
  | m + 1 => (hf m _).trans (sp_it_pres hf Γ m)
theorem nI_i1 (j : Nat) : nI j + Int32.ofInt 1 = nI (j + 1) := nI_1 j
section GN
variable {k : am_X} {own nm : String} {cc : ByteArray} {nL : Nat} {ret : Option FieldType} {cells slots : Nat} {Q : State → Prop} {pc : Nat} {ls : List (Nat × Value)} {st : List Value} {h : am_H}
theorem gN_eq {a b : Nat} {off : Int} (tgt : Nat) (hd : decode cc pc = .ok (.if_icmp .eq off, 3)) (ht : (pc : Int) + off = (tgt : Int)) (ha : a < 2 ^ 31) (hb : b < 2 ^ 31) (kt : a = b → am_G k own nm cc nL ret cells slots Q tgt ls st h) (kf : ¬ a = b → am_G k own nm cc nL ret cells slots Q (pc + 3) ls st h) : am_G k own nm cc nL ret cells slots Q pc ls (.int (nI b) :: .int (nI a) :: st) h := by
  refine g_icmp_eq tgt hd ht (fun z => kt ?_) (fun z => kf ?_)
  · exact (nI_eq ha hb).mp z
  · exact fun q => z ((nI_eq ha hb).mpr q)
theorem gN_ne {a b : Nat} {off : Int} (tgt : Nat) (hd : decode cc pc = .ok (.if_icmp .ne off, 3)) (ht : (pc : Int) + off = (tgt : Int)) (ha : a < 2 ^ 31) (hb : b < 2 ^ 31) (kt : ¬ a = b → am_G k own nm cc nL ret cells slots Q tgt ls st h) (kf : a = b → am_G k own nm cc nL ret cells slots Q (pc + 3) ls st h) : am_G k own nm cc nL ret cells slots Q pc ls (.int (nI b) :: .int (nI a) :: st) h := by
  refine g_icmp_ne tgt hd ht (fun z => kt ?_) (fun z => kf ?_)
  · exact fun q => z ((nI_eq ha hb).mpr q)
  · exact (nI_eq ha hb).mp z
theorem gN_lt {a b : Nat} {off : Int} (tgt : Nat) (hd : decode cc pc = .ok (.if_icmp .lt off, 3)) (ht : (pc : Int) + off = (tgt : Int)) (ha : a < 2 ^ 31) (hb : b < 2 ^ 31) (kt : a < b → am_G k own nm cc nL ret cells slots Q tgt ls st h) (kf : b ≤ a → am_G k own nm cc nL ret cells slots Q (pc + 3) ls st h) : am_G k own nm cc nL ret cells slots Q pc ls (.int (nI b) :: .int (nI a) :: st) h := by
  refine g_icmp_lt tgt hd ht (fun z => kt ?_) (fun z => kf ?_)
  · exact (nI_ltI ha hb).mp z
  · exact Nat.not_lt.mp (fun q => z ((nI_ltI ha hb).mpr q))
theorem gN_ge {a b : Nat} {off : Int} (tgt : Nat) (hd : decode cc pc = .ok (.if_icmp .ge off, 3)) (ht : (pc : Int) + off = (tgt : Int)) (ha : a < 2 ^ 31) (hb : b < 2 ^ 31) (kt : b ≤ a → am_G k own nm cc nL ret cells slots Q tgt ls st h) (kf : a < b → am_G k own nm cc nL ret cells slots Q (pc + 3) ls st h) : am_G k own nm cc nL ret cells slots Q pc ls (.int (nI b) :: .int (nI a) :: st) h := by
  refine g_icmp_ge tgt hd ht (fun z => kt ?_) (fun z => kf ?_)
  · exact (nI_leI hb ha).mp z
  · exact Nat.not_le.mp (fun q => z ((nI_leI hb ha).mpr q))
theorem gN_gt {a b : Nat} {off : Int} (tgt : Nat) (hd : decode cc pc = .ok (.if_icmp .gt off, 3)) (ht : (pc : Int) + off = (tgt : Int)) (ha : a < 2 ^ 31) (hb : b < 2 ^ 31) (kt : b < a → am_G k own nm cc nL ret cells slots Q tgt ls st h) (kf : a ≤ b → am_G k own nm cc nL ret cells slots Q (pc + 3) ls st h) : am_G k own nm cc nL ret cells slots Q pc ls (.int (nI b) :: .int (nI a) :: st) h := by
  refine g_icmp_gt tgt hd ht (fun z => kt ?_) (fun z => kf ?_)
  · exact (nI_ltI hb ha).mp z
  · exact Nat.not_lt.mp (fun q => z ((nI_ltI hb ha).mpr q))
theorem gN_le {a b : Nat} {off : Int} (tgt : Nat) (hd : decode cc pc = .ok (.if_icmp .le off, 3)) (ht : (pc : Int) + off = (tgt : Int)) (ha : a < 2 ^ 31) (hb : b < 2 ^ 31) (kt : a ≤ b → am_G k own nm cc nL ret cells slots Q tgt ls st h) (kf : b < a → am_G k own nm cc nL ret cells slots Q (pc + 3) ls st h) : am_G k own nm cc nL ret cells slots Q pc ls (.int (nI b) :: .int (nI a) :: st) h := by
  refine g_icmp_le tgt hd ht (fun z => kt ?_) (fun z => kf ?_)
  · exact (nI_leI ha hb).mp z
  · exact Nat.not_le.mp (fun q => z ((nI_leI ha hb).mpr q))
end GN
end
section
set_option maxRecDepth 100000 in
set_option maxHeartbeats 4000000 in
theorem c_X0_set_t {l : Launch} (hlt : l.stackTraces = false) {N n p : Nat} {ord : List Nat} {L : Nat → Nat → Nat} {Γ : Nat → Nat → Nat → Int32} {o : Int64} {h : am_H} (w : WI N n p ord L Γ o h) {i : Nat} (hi : wdm n p 1 i = true) (a b c : Int32) : am_Con l yX0_set (.code yX0_set cX0_set 4 none) 1 0 0 [.ref (L 1 i), .int a, .int b, .int c] h (fun v h' => v = none ∧ WI N n p ord L (u3 (u3 (u3 (u3 Γ 1 i 0 1) 1 i 1 a) 1 i 2 b) 1 i 3 c) o h') (fun _ _ => False) := by
  refine am_body hlt (by decide +kernel) (Nat.le_of_ble_eq_true rfl) (fun k hl hR h0 hno => ?_)
  subst hl
  refine g_aload_n dX0_set_0 rfl ?_
  refine g_iconst (v := 1) dX0_set_1 (by decide) ?_
  refine w_putI w dX0_set_2 fl_X0_7 rfl rfl (by decide) (fun q hq => by cases hq; rfl) (by assumption) rfl rfl (fun h1 w1 => ?_)
  refine g_aload_n dX0_set_5 rfl ?_
  refine g_iload_n dX0_set_6 rfl ?_
  refine w_putI w1 dX0_set_7 fl_X0_13 rfl rfl (by decide) (fun q hq => by cases hq; rfl) (by assumption) rfl rfl (fun h2 w2 => ?_)
  refine g_aload_n dX0_set_10 rfl ?_
  refine g_iload_n dX0_set_11 rfl ?_
  refine w_putI w2 dX0_set_12 fl_X0_17 rfl rfl (by decide) (fun q hq => by cases hq; rfl) (by assumption) rfl rfl (fun h3 w3 => ?_)
  refine g_aload_n dX0_set_15 rfl ?_
  refine g_iload_n dX0_set_16 rfl ?_
  refine w_putI w3 dX0_set_17 fl_X0_20 rfl rfl (by decide) (fun q hq => by cases hq; rfl) (by assumption) rfl rfl (fun h4 w4 => ?_)
  refine g_vret dX0_set_20 rfl (by decide) (by decide) ?_
  exact ⟨rfl, w4⟩
set_option maxRecDepth 100000 in
set_option maxHeartbeats 4000000 in
theorem c_X0_set_s {l : Launch} (hlt : l.stackTraces = false) {N n p : Nat} {ord : List Nat} {L : Nat → Nat → Nat} {Γ : Nat → Nat → Nat → Int32} {o : Int64} {h : am_H} (w : WI N n p ord L Γ o h) {i : Nat} (hi : wdm n p 0 i = true) (a b c : Int32) : am_Con l yX0_set (.code yX0_set cX0_set 4 none) 1 0 0 [.ref (L 0 i), .int a, .int b, .int c] h (fun v h' => v = none ∧ WI N n p ord L (u3 (u3 (u3 (u3 Γ 0 i 0 1) 0 i 1 a) 0 i 2 b) 0 i 3 c) o h') (fun _ _ => False) := by
  refine am_body hlt (by decide +kernel) (Nat.le_of_ble_eq_true rfl) (fun k hl hR h0 hno => ?_)
  subst hl
  refine g_aload_n dX0_set_0 rfl ?_
  refine g_iconst (v := 1) dX0_set_1 (by decide) ?_
  refine w_putI w dX0_set_2 fl_X0_7 rfl rfl (by decide) (fun q hq => by cases hq; rfl) (by assumption) rfl rfl (fun h1 w1 => ?_)
  refine g_aload_n dX0_set_5 rfl ?_
  refine g_iload_n dX0_set_6 rfl ?_
  refine w_putI w1 dX0_set_7 fl_X0_13 rfl rfl (by decide) (fun q hq => by cases hq; rfl) (by assumption) rfl rfl (fun h2 w2 => ?_)
  refine g_aload_n dX0_set_10 rfl ?_
  refine g_iload_n dX0_set_11 rfl ?_
  refine w_putI w2 dX0_set_12 fl_X0_17 rfl rfl (by decide) (fun q hq => by cases hq; rfl) (by assumption) rfl rfl (fun h3 w3 => ?_)
  refine g_aload_n dX0_set_15 rfl ?_
  refine g_iload_n dX0_set_16 rfl ?_
  refine w_putI w3 dX0_set_17 fl_X0_20 rfl rfl (by decide) (fun q hq => by cases hq; rfl) (by assumption) rfl rfl (fun h4 w4 => ?_)
  refine g_vret dX0_set_20 rfl (by decide) (by decide) ?_
  exact ⟨rfl, w4⟩
/-- the bid that stands of i is ahead of that of j: 1 or 0 -/
def sp_ahead (Γ : Nat → Nat → Nat → Int32) (i j : Nat) : Int32 := if Γ 0 i 1 = Γ 0 j 1 then (if Γ 0 j 3 ≤ Γ 0 i 3 then 0 else 1) else (if Γ 0 i 1 ≤ Γ 0 j 1 then 0 else 1)
def sp_silent (Γ : Nat → Nat → Nat → Int32) (i : Nat) : Nat → Nat → Nat → Int32 := if Γ 1 i 0 = 0 then (if Γ 2 i 6 = 0 then u3 Γ 2 i 6 1 else u3 (u3 Γ 0 i 0 0) 2 i 6 1) else u3 (u3 (u3 (u3 (u3 (u3 Γ 0 i 0 1) 0 i 1 (Γ 1 i 1)) 0 i 2 (Γ 1 i 2)) 0 i 3 (Γ 1 i 3)) 1 i 0 0) 2 i 6 0
set_option maxRecDepth 100000 in
set_option maxHeartbeats 4000000 in
theorem c_X0_isAheadOf {l : Launch} (hlt : l.stackTraces = false) {N n p : Nat} {ord : List Nat} {L : Nat → Nat → Nat} {Γ : Nat → Nat → Nat → Int32} {o : Int64} {h : am_H} (w : WI N n p ord L Γ o h) {i j : Nat} (hi : wdm n p 0 i = true) (hj : wdm n p 0 j = true) : am_Con l yX0_isAheadOf (.code yX0_isAheadOf cX0_isAheadOf 2 (some .boolean)) 1 0 0 [.ref (L 0 i), .ref (L 0 j)] h (fun v h' => v = some (.int (sp_ahead Γ i j)) ∧ h' = h) (fun _ _ => False) := by
  refine am_body hlt (by decide +kernel) (Nat.le_of_ble_eq_true rfl) (fun k hl hR h0 hno => ?_)
  subst hl
  refine g_aload_n dX0_isAheadOf_0 rfl ?_
  refine w_getI w dX0_isAheadOf_1 fl_X0_13 rfl rfl (by assumption) ?_
  refine g_aload_n dX0_isAheadOf_4 rfl ?_
  refine w_getI w dX0_isAheadOf_5 fl_X0_13 rfl rfl (by assumption) ?_
  refine g_icmp_eq 30 dX0_isAheadOf_8 (by decide) (fun c_8 => ?_) (fun c_8 => ?_)
  · skip
    refine g_aload_n dX0_isAheadOf_30 rfl ?_
    refine w_getI w dX0_isAheadOf_31 fl_X0_20 rfl rfl (by assumption) ?_
    refine g_aload_n dX0_isAheadOf_34 rfl ?_
    refine w_getI w dX0_isAheadOf_35 fl_X0_20 rfl rfl (by assumption) ?_
    refine g_icmp_ge 45 dX0_isAheadOf_38 (by decide) (fun c_38 => ?_) (fun c_38 => ?_)
    · skip
      refine g_iconst (v := 0) dX0_isAheadOf_45 (by decide) ?_
      refine g_iret dX0_isAheadOf_46 rfl rfl (by decide) (by decide) ?_
      exact ⟨by unfold sp_ahead; simp only [reduceIte, c_8, c_38], rfl⟩
    · skip
      refine g_iconst (v := 1) dX0_isAheadOf_41 (by decide) ?_
      refine g_goto 46 dX0_isAheadOf_42 (by decide) ?_
      refine g_iret dX0_isAheadOf_46 rfl rfl (by decide) (by decide) ?_
      exact ⟨by unfold sp_ahead; simp only [reduceIte, c_8, c_38], rfl⟩
  · skip
    refine g_aload_n dX0_isAheadOf_11 rfl ?_
    refine w_getI w dX0_isAheadOf_12 fl_X0_13 rfl rfl (by assumption) ?_
    refine g_aload_n dX0_isAheadOf_15 rfl ?_
    refine w_getI w dX0_isAheadOf_16 fl_X0_13 rfl rfl (by assumption) ?_
    refine g_icmp_le 26 dX0_isAheadOf_19 (by decide) (fun c_19 => ?_) (fun c_19 => ?_)
    · skip
      refine g_iconst (v := 0) dX0_isAheadOf_26 (by decide) ?_
      refine g_goto 46 dX0_isAheadOf_27 (by decide) ?_
      refine g_iret dX0_isAheadOf_46 rfl rfl (by decide) (by decide) ?_
      exact ⟨by unfold sp_ahead; simp only [reduceIte, c_8, c_19], rfl⟩
    · skip
      refine g_iconst (v := 1) dX0_isAheadOf_22 (by decide) ?_
      refine g_goto 46 dX0_isAheadOf_23 (by decide) ?_
      refine g_iret dX0_isAheadOf_46 rfl rfl (by decide) (by decide) ?_
      exact ⟨by unfold sp_ahead; simp only [reduceIte, c_8, c_19], rfl⟩
set_option maxRecDepth 100000 in
set_option maxHeartbeats 4000000 in
theorem c_X1_settleRound {l : Launch} (hlt : l.stackTraces = false) {N n p : Nat} {ord : List Nat} {L : Nat → Nat → Nat} {Γ : Nat → Nat → Nat → Int32} {o : Int64} {h : am_H} (w : WI N n p ord L Γ o h) {i : Nat} (hi : wdm n p 2 i = true) : am_Con l yX1_settleRound (.code yX1_settleRound cX1_settleRound 1 none) 2 0 0 [.ref (L 2 i)] h (fun v h' => v = none ∧ WI N n p ord L (sp_silent Γ i) o h') (fun _ _ => False) := by
  refine am_body hlt (by decide +kernel) (Nat.le_of_ble_eq_true rfl) (fun k hl hR h0 hno => ?_)
  subst hl
  refine g_aload_n dX1_settleRound_0 rfl ?_
  refine w_getR w dX1_settleRound_1 fl_X1_20 rfl rfl (by assumption) rfl ?_
  refine w_getI w dX1_settleRound_4 fl_X1_57 rfl rfl (by assumption) ?_
  refine g_if_eq 54 dX1_settleRound_7 (by decide) (fun c_7 => ?_) (fun c_7 => ?_)
  · skip
    refine g_aload_n dX1_settleRound_54 rfl ?_
    refine w_getI w dX1_settleRound_55 fl_X1_23 rfl rfl (by assumption) ?_
    refine g_if_eq 69 dX1_settleRound_58 (by decide) (fun c_58 => ?_) (fun c_58 => ?_)
    · skip
      refine g_aload_n dX1_settleRound_69 rfl ?_
      refine g_iconst (v := 1) dX1_settleRound_70 (by decide) ?_
      refine w_putI w dX1_settleRound_71 fl_X1_23 rfl rfl (by decide) (fun q hq => by cases hq; rfl) (by assumption) rfl rfl (fun h1 w1 => ?_)
      refine g_vret dX1_settleRound_74 rfl (by decide) (by decide) ?_
      exact ⟨rfl, by unfold sp_silent; simp only [reduceIte, c_7, c_58]; exact w1⟩
    · skip
      refine g_aload_n dX1_settleRound_61 rfl ?_
      refine w_getR w dX1_settleRound_62 fl_X1_16 rfl rfl (by assumption) rfl ?_
      refine g_iconst (v := 0) dX1_settleRound_65 (by decide) ?_
      refine w_putI w dX1_settleRound_66 fl_X1_57 rfl rfl (by decide) (fun q hq => by cases hq; rfl) (by assumption) rfl rfl (fun h2 w2 => ?_)
      refine g_aload_n dX1_settleRound_69 rfl ?_
      refine g_iconst (v := 1) dX1_settleRound_70 (by decide) ?_
      refine w_putI w2 dX1_settleRound_71 fl_X1_23 rfl rfl (by decide) (fun q hq => by cases hq; rfl) (by assumption) rfl rfl (fun h3 w3 => ?_)
      refine g_vret dX1_settleRound_74 rfl (by decide) (by decide) ?_
      exact ⟨rfl, by unfold sp_silent; simp only [reduceIte, c_7, c_58]; exact w3⟩
  · skip
    refine g_aload_n dX1_settleRound_10 rfl ?_
    refine w_getR w dX1_settleRound_11 fl_X1_16 rfl rfl (by assumption) rfl ?_
    refine g_aload_n dX1_settleRound_14 rfl ?_
    refine w_getR w dX1_settleRound_15 fl_X1_20 rfl rfl (by assumption) rfl ?_
    refine w_getI w dX1_settleRound_18 fl_X1_60 rfl rfl (by assumption) ?_
    refine g_aload_n dX1_settleRound_21 rfl ?_
    refine w_getR w dX1_settleRound_22 fl_X1_20 rfl rfl (by assumption) rfl ?_
    refine w_getI w dX1_settleRound_25 fl_X1_63 rfl rfl (by assumption) ?_
    refine g_aload_n dX1_settleRound_28 rfl ?_
    refine w_getR w dX1_settleRound_29 fl_X1_20 rfl rfl (by assumption) rfl ?_
    refine w_getI w dX1_settleRound_32 fl_X1_66 rfl rfl (by assumption) ?_
    refine g_callV [_, _, _] dX1_settleRound_35 mc_X1_69 mi_X0_set se_X0_set (c_X0_set_s hlt w (by assumption) _ _ _) (w.k (by assumption)) rfl rfl (by decide) (am_rm hR (by decide)) (fun _ _ z => z) (fun v hx hq hE => ?_)
    obtain ⟨rfl, w4⟩ := hq
    refine g_aload_n dX1_settleRound_38 rfl ?_
    refine w_getR w4 dX1_settleRound_39 fl_X1_20 rfl rfl (by assumption) rfl ?_
    refine g_iconst (v := 0) dX1_settleRound_42 (by decide) ?_
    refine w_putI w4 dX1_settleRound_43 fl_X1_57 rfl rfl (by decide) (fun q hq => by cases hq; rfl) (by assumption) rfl rfl (fun h5 w5 => ?_)
    refine g_aload_n dX1_settleRound_46 rfl ?_
    refine g_iconst (v := 0) dX1_settleRound_47 (by decide) ?_
    refine w_putI w5 dX1_settleRound_48 fl_X1_23 rfl rfl (by decide) (fun q hq => by cases hq; rfl) (by assumption) rfl rfl (fun h6 w6 => ?_)
    refine g_goto 74 dX1_settleRound_51 (by decide) ?_
    refine g_vret dX1_settleRound_74 rfl (by decide) (by decide) ?_
    exact ⟨rfl, by unfold sp_silent; simp only [reduceIte, c_7]; exact w6⟩
set_option maxRecDepth 100000 in
set_option maxHeartbeats 4000000 in
theorem c_X1_pay {l : Launch} (hlt : l.stackTraces = false) {N n p : Nat} {ord : List Nat} {L : Nat → Nat → Nat} {Γ : Nat → Nat → Nat → Int32} {o : Int64} {h : am_H} (w : WI N n p ord L Γ o h) {i : Nat} (hi : wdm n p 2 i = true) : am_Con l yX1_pay (.code yX1_pay cX1_pay 1 none) 1 0 0 [.ref (L 2 i)] h (fun v h' => v = none ∧ WI N n p ord L (u3 Γ 2 i 9 (Γ 2 i 9 + Γ 0 i 1 * Γ 2 i 8)) o h') (fun _ _ => False) := by
  refine am_body hlt (by decide +kernel) (Nat.le_of_ble_eq_true rfl) (fun k hl hR h0 hno => ?_)
  subst hl
  refine g_aload_n dX1_pay_0 rfl ?_
  refine g_dup dX1_pay_1 rfl ?_
  refine w_getI w dX1_pay_2 fl_X1_33 rfl rfl (by assumption) ?_
  refine g_aload_n dX1_pay_5 rfl ?_
  refine w_getR w dX1_pay_6 fl_X1_16 rfl rfl (by assumption) rfl ?_
  refine w_getI w dX1_pay_9 fl_X1_60 rfl rfl (by assumption) ?_
  refine g_aload_n dX1_pay_12 rfl ?_
  refine w_getI w dX1_pay_13 fl_X1_30 rfl rfl (by assumption) ?_
  refine g_imul dX1_pay_16 ?_
  refine g_iadd dX1_pay_17 ?_
  refine w_putI w dX1_pay_18 fl_X1_33 rfl rfl (by decide) (fun q hq => by cases hq; rfl) (by assumption) rfl rfl (fun h1 w1 => ?_)
  refine g_vret dX1_pay_21 rfl (by decide) (by decide) ?_
  exact ⟨rfl, w1⟩
set_option maxRecDepth 100000 in
set_option maxHeartbeats 4000000 in
theorem c_X1_takeBackPay {l : Launch} (hlt : l.stackTraces = false) {N n p : Nat} {ord : List Nat} {L : Nat → Nat → Nat} {Γ : Nat → Nat → Nat → Int32} {o : Int64} {h : am_H} (w : WI N n p ord L Γ o h) {i : Nat} (hi : wdm n p 2 i = true) : am_Con l yX1_takeBackPay (.code yX1_takeBackPay cX1_takeBackPay 3 (some .int)) 1 0 0 [.ref (L 2 i)] h (fun v h' => v = some (.int (Γ 2 i 7 - Γ 2 i 8)) ∧ WI N n p ord L (u3 Γ 2 i 10 (Γ 2 i 10 + (Γ 0 i 1 * (Γ 2 i 7 - Γ 2 i 8) + Γ 0 i 1 * (Γ 2 i 7 - Γ 2 i 8) / 10))) o h') (fun _ _ => False) := by
  refine am_body hlt (by decide +kernel) (Nat.le_of_ble_eq_true rfl) (fun k hl hR h0 hno => ?_)
  subst hl
  refine g_aload_n dX1_takeBackPay_0 rfl ?_
  refine w_getI w dX1_takeBackPay_1 fl_X1_27 rfl rfl (by assumption) ?_
  refine g_aload_n dX1_takeBackPay_4 rfl ?_
  refine w_getI w dX1_takeBackPay_5 fl_X1_30 rfl rfl (by assumption) ?_
  refine g_isub dX1_takeBackPay_8 ?_
  refine g_istore_n dX1_takeBackPay_9 (by decide) rfl ?_
  refine g_aload_n dX1_takeBackPay_10 rfl ?_
  refine w_getR w dX1_takeBackPay_11 fl_X1_16 rfl rfl (by assumption) rfl ?_
  refine w_getI w dX1_takeBackPay_14 fl_X1_60 rfl rfl (by assumption) ?_
  refine g_iload_n dX1_takeBackPay_17 rfl ?_
  refine g_imul dX1_takeBackPay_18 ?_
  refine g_istore_n dX1_takeBackPay_19 (by decide) rfl ?_
  refine g_aload_n dX1_takeBackPay_20 rfl ?_
  refine g_dup dX1_takeBackPay_21 rfl ?_
  refine w_getI w dX1_takeBackPay_22 fl_X1_36 rfl rfl (by assumption) ?_
  refine g_iload_n dX1_takeBackPay_25 rfl ?_
  refine g_iload_n dX1_takeBackPay_26 rfl ?_
  refine g_bipush (v := 10) dX1_takeBackPay_27 (by decide) ?_
  refine g_idiv dX1_takeBackPay_29 (by decide) ?_
  refine g_iadd dX1_takeBackPay_30 ?_
  refine g_iadd dX1_takeBackPay_31 ?_
  refine w_putI w dX1_takeBackPay_32 fl_X1_36 rfl rfl (by decide) (fun q hq => by cases hq; rfl) (by assumption) rfl rfl (fun h1 w1 => ?_)
  refine g_iload_n dX1_takeBackPay_35 rfl ?_
  refine g_iret dX1_takeBackPay_36 rfl rfl (by decide) (by decide) ?_
  exact ⟨rfl, w1⟩
def sp_min (x y : Int32) : Int32 := if y < x then y else x
def sp_store (Γ : Nat → Nat → Nat → Int32) (i : Nat) : Nat → Nat → Nat → Int32 := u3 (u3 Γ 2 i 3 (Γ 2 i 3 + sp_min (Γ 2 i 8) (Γ 2 i 1 - Γ 2 i 3))) 2 i 13 (Γ 2 i 13 + (Γ 2 i 8 - sp_min (Γ 2 i 8) (Γ 2 i 1 - Γ 2 i 3)))
def sp_take (Γ : Nat → Nat → Nat → Int32) (i : Nat) : Nat → Nat → Nat → Int32 := u3 (u3 (u3 Γ 2 i 3 (Γ 2 i 3 - sp_min (Γ 2 i 2) (Γ 2 i 3))) 2 i 11 (Γ 2 i 11 + sp_min (Γ 2 i 2) (Γ 2 i 3))) 2 i 12 (Γ 2 i 12 + (Γ 2 i 2 - sp_min (Γ 2 i 2) (Γ 2 i 3)))
set_option maxRecDepth 100000 in
set_option maxHeartbeats 4000000 in
theorem c_X1_store {l : Launch} (hlt : l.stackTraces = false) {N n p : Nat} {ord : List Nat} {L : Nat → Nat → Nat} {Γ : Nat → Nat → Nat → Int32} {o : Int64} {h : am_H} (w : WI N n p ord L Γ o h) {i : Nat} (hi : wdm n p 2 i = true) : am_Con l yX1_store (.code yX1_store cX1_store 2 none) 1 0 0 [.ref (L 2 i)] h (fun v h' => v = none ∧ WI N n p ord L (sp_store Γ i) o h') (fun _ _ => False) := by
  refine am_body hlt (by decide +kernel) (Nat.le_of_ble_eq_true rfl) (fun k hl hR h0 hno => ?_)
  subst hl
  refine g_aload_n dX1_store_0 rfl ?_
  refine w_getI w dX1_store_1 fl_X1_30 rfl rfl (by assumption) ?_
  refine g_aload_n dX1_store_4 rfl ?_
  refine w_getI w dX1_store_5 fl_X1_51 rfl rfl (by assumption) ?_
  refine g_aload_n dX1_store_8 rfl ?_
  refine w_getI w dX1_store_9 fl_X1_7 rfl rfl (by assumption) ?_
  refine g_isub dX1_store_12 ?_
  refine g_min dX1_store_13 ml_X1_73 ms_min ini_Math mcode_min (by rw [hR]; decide) (by rw [hR]; decide) (by rw [hR]; decide) (by rw [hR]; decide) ?_
  refine g_istore_n dX1_store_16 (by decide) rfl ?_
  refine g_aload_n dX1_store_17 rfl ?_
  refine g_dup dX1_store_18 rfl ?_
  refine w_getI w dX1_store_19 fl_X1_7 rfl rfl (by assumption) ?_
  refine g_iload_n dX1_store_22 rfl ?_
  refine g_iadd dX1_store_23 ?_
  refine w_putI w dX1_store_24 fl_X1_7 rfl rfl (by decide) (fun q hq => by cases hq; rfl) (by assumption) rfl rfl (fun h1 w1 => ?_)
  refine g_aload_n dX1_store_27 rfl ?_
  refine g_dup dX1_store_28 rfl ?_
  refine w_getI w1 dX1_store_29 fl_X1_45 rfl rfl (by assumption) ?_
  refine g_aload_n dX1_store_32 rfl ?_
  refine w_getI w1 dX1_store_33 fl_X1_30 rfl rfl (by assumption) ?_
  refine g_iload_n dX1_store_36 rfl ?_
  refine g_isub dX1_store_37 ?_
  refine g_iadd dX1_store_38 ?_
  refine w_putI w1 dX1_store_39 fl_X1_45 rfl rfl (by decide) (fun q hq => by cases hq; rfl) (by assumption) rfl rfl (fun h2 w2 => ?_)
  refine g_vret dX1_store_42 rfl (by decide) (by decide) ?_
  exact ⟨rfl, by simpa [sp_store, sp_min, u3_ap] using w2⟩
set_option maxRecDepth 100000 in
set_option maxHeartbeats 4000000 in
theorem c_X1_takeNeed {l : Launch} (hlt : l.stackTraces = false) {N n p : Nat} {ord : List Nat} {L : Nat → Nat → Nat} {Γ : Nat → Nat → Nat → Int32} {o : Int64} {h : am_H} (w : WI N n p ord L Γ o h) {i : Nat} (hi : wdm n p 2 i = true) : am_Con l yX1_takeNeed (.code yX1_takeNeed cX1_takeNeed 3 (some .int)) 1 0 0 [.ref (L 2 i)] h (fun v h' => v = some (.int (Γ 2 i 2 - sp_min (Γ 2 i 2) (Γ 2 i 3))) ∧ WI N n p ord L (sp_take Γ i) o h') (fun _ _ => False) := by
  refine am_body hlt (by decide +kernel) (Nat.le_of_ble_eq_true rfl) (fun k hl hR h0 hno => ?_)
  subst hl
  refine g_aload_n dX1_takeNeed_0 rfl ?_
  refine w_getI w dX1_takeNeed_1 fl_X1_54 rfl rfl (by assumption) ?_
  refine g_aload_n dX1_takeNeed_4 rfl ?_
  refine w_getI w dX1_takeNeed_5 fl_X1_7 rfl rfl (by assumption) ?_
  refine g_min dX1_takeNeed_8 ml_X1_73 ms_min ini_Math mcode_min (by rw [hR]; decide) (by rw [hR]; decide) (by rw [hR]; decide) (by rw [hR]; decide) ?_
  refine g_istore_n dX1_takeNeed_11 (by decide) rfl ?_
  refine g_aload_n dX1_takeNeed_12 rfl ?_
  refine w_getI w dX1_takeNeed_13 fl_X1_54 rfl rfl (by assumption) ?_
  refine g_iload_n dX1_takeNeed_16 rfl ?_
  refine g_isub dX1_takeNeed_17 ?_
  refine g_istore_n dX1_takeNeed_18 (by decide) rfl ?_
  refine g_aload_n dX1_takeNeed_19 rfl ?_
  refine g_dup dX1_takeNeed_20 rfl ?_
  refine w_getI w dX1_takeNeed_21 fl_X1_7 rfl rfl (by assumption) ?_
  refine g_iload_n dX1_takeNeed_24 rfl ?_
  refine g_isub dX1_takeNeed_25 ?_
  refine w_putI w dX1_takeNeed_26 fl_X1_7 rfl rfl (by decide) (fun q hq => by cases hq; rfl) (by assumption) rfl rfl (fun h1 w1 => ?_)
  refine g_aload_n dX1_takeNeed_29 rfl ?_
  refine g_dup dX1_takeNeed_30 rfl ?_
  refine w_getI w1 dX1_takeNeed_31 fl_X1_39 rfl rfl (by assumption) ?_
  refine g_iload_n dX1_takeNeed_34 rfl ?_
  refine g_iadd dX1_takeNeed_35 ?_
  refine w_putI w1 dX1_takeNeed_36 fl_X1_39 rfl rfl (by decide) (fun q hq => by cases hq; rfl) (by assumption) rfl rfl (fun h2 w2 => ?_)
  refine g_aload_n dX1_takeNeed_39 rfl ?_
  refine g_dup dX1_takeNeed_40 rfl ?_
  refine w_getI w2 dX1_takeNeed_41 fl_X1_42 rfl rfl (by assumption) ?_
  refine g_iload_n dX1_takeNeed_44 rfl ?_
  refine g_iadd dX1_takeNeed_45 ?_
  refine w_putI w2 dX1_takeNeed_46 fl_X1_42 rfl rfl (by decide) (fun q hq => by cases hq; rfl) (by assumption) rfl rfl (fun h3 w3 => ?_)
  refine g_iload_n dX1_takeNeed_49 rfl ?_
  refine g_iret dX1_takeNeed_50 rfl rfl (by decide) (by decide) ?_
  exact ⟨rfl, by simpa [sp_take, sp_min, u3_ap] using w3⟩
set_option maxRecDepth 100000 in
set_option maxHeartbeats 4000000 in
theorem c_X1_beginHour {l : Launch} (hlt : l.stackTraces = false) {N n p : Nat} {ord : List Nat} {L : Nat → Nat → Nat} {Γ : Nat → Nat → Nat → Int32} {o : Int64} {h : am_H} (w : WI N n p ord L Γ o h) {i : Nat} (hi : wdm n p 2 i = true) : am_Con l yX1_beginHour (.code yX1_beginHour cX1_beginHour 1 none) 1 0 0 [.ref (L 2 i)] h (fun v h' => v = none ∧ WI N n p ord L (u3 (u3 Γ 0 i 0 0) 2 i 8 0) o h') (fun _ _ => False) := by
  refine am_body hlt (by decide +kernel) (Nat.le_of_ble_eq_true rfl) (fun k hl hR h0 hno => ?_)
  subst hl
  refine g_aload_n dX1_beginHour_0 rfl ?_
  refine w_getR w dX1_beginHour_1 fl_X1_16 rfl rfl (by assumption) rfl ?_
  refine g_iconst (v := 0) dX1_beginHour_4 (by decide) ?_
  refine w_putI w dX1_beginHour_5 fl_X1_57 rfl rfl (by decide) (fun q hq => by cases hq; rfl) (by assumption) rfl rfl (fun h1 w1 => ?_)
  refine g_aload_n dX1_beginHour_8 rfl ?_
  refine g_iconst (v := 0) dX1_beginHour_9 (by decide) ?_
  refine w_putI w1 dX1_beginHour_10 fl_X1_30 rfl rfl (by decide) (fun q hq => by cases hq; rfl) (by assumption) rfl rfl (fun h2 w2 => ?_)
  refine g_vret dX1_beginHour_13 rfl (by decide) (by decide) ?_
  exact ⟨rfl, w2⟩
set_option maxRecDepth 100000 in
set_option maxHeartbeats 4000000 in
theorem c_X5_thrown {l : Launch} (hlt : l.stackTraces = false) {N n p : Nat} {ord : List Nat} {L : Nat → Nat → Nat} {Γ : Nat → Nat → Nat → Int32} {o : Int64} {h : am_H} (w : WI N n p ord L Γ o h)  : am_Con l yX5_thrown (.code yX5_thrown cX5_thrown 1 (some .int)) 1 0 0 [.ref (L 11 0)] h (fun v h' => v = some (.int (Γ 11 0 34)) ∧ h' = h) (fun _ _ => False) := by
  refine am_body hlt (by decide +kernel) (Nat.le_of_ble_eq_true rfl) (fun k hl hR h0 hno => ?_)
  subst hl
  have hm : wdm n p 11 0 = true := rfl
  refine g_aload_n dX5_thrown_0 rfl ?_
  refine w_getI w dX5_thrown_1 fl_X5_89 rfl rfl (by assumption) ?_
  refine g_iret dX5_thrown_4 rfl rfl (by decide) (by decide) ?_
  exact ⟨rfl, rfl⟩
set_option maxRecDepth 100000 in
set_option maxHeartbeats 4000000 in
theorem c_X5_can {l : Launch} (hlt : l.stackTraces = false) {N n p : Nat} {ord : List Nat} {L : Nat → Nat → Nat} {Γ : Nat → Nat → Nat → Int32} {o : Int64} {h : am_H} (w : WI N n p ord L Γ o h) (a : Int32) : am_Con l yX5_can (.code yX5_can cX5_can 2 (some .boolean)) 1 0 0 [.ref (L 11 0), .int a] h (fun v h' => v = some (.int (if a = 0 then 1 else 0)) ∧ WI N n p ord L (u3 Γ 11 0 34 a) o h') (fun _ _ => False) := by
  refine am_body hlt (by decide +kernel) (Nat.le_of_ble_eq_true rfl) (fun k hl hR h0 hno => ?_)
  subst hl
  have hm : wdm n p 11 0 = true := rfl
  refine g_aload_n dX5_can_0 rfl ?_
  refine g_iload_n dX5_can_1 rfl ?_
  refine w_putI w dX5_can_2 fl_X5_89 rfl rfl (by decide) (fun q hq => by cases hq; rfl) (by assumption) rfl rfl (fun h1 w1 => ?_)
  refine g_iload_n dX5_can_5 rfl ?_
  refine g_if_ne 13 dX5_can_6 (by decide) (fun c_6 => ?_) (fun c_6 => ?_)
  · skip
    refine g_iconst (v := 0) dX5_can_13 (by decide) ?_
    refine g_iret dX5_can_14 rfl rfl (by decide) (by decide) ?_
    exact ⟨by simp only [reduceIte, c_6], w1⟩
  · skip
    refine g_iconst (v := 1) dX5_can_9 (by decide) ?_
    refine g_goto 14 dX5_can_10 (by decide) ?_
    refine g_iret dX5_can_14 rfl rfl (by decide) (by decide) ?_
    exact ⟨by simp only [reduceIte, c_6], w1⟩
def sp_in (a lo hi : Int32) : Int32 := if a < lo then 0 else if hi < a then 0 else 1
set_option maxRecDepth 100000 in
set_option maxHeartbeats 4000000 in
theorem c_X5_isIn {l : Launch} (hlt : l.stackTraces = false) {h : am_H} (a lo hi : Int32) : am_Con l yX5_isIn (.code yX5_isIn cX5_isIn 3 (some .boolean)) 1 0 0 [.int a, .int lo, .int hi] h (fun v h' => v = some (.int (sp_in a lo hi)) ∧ h' = h) (fun _ _ => False) := by
  refine am_body hlt (by decide +kernel) (Nat.le_of_ble_eq_true rfl) (fun k hl hR h0 hno => ?_)
  subst hl
  refine g_iload_n dX5_isIn_0 rfl ?_
  refine g_iload_n dX5_isIn_1 rfl ?_
  refine g_icmp_lt 14 dX5_isIn_2 (by decide) (fun c_2 => ?_) (fun c_2 => ?_)
  · skip
    refine g_iconst (v := 0) dX5_isIn_14 (by decide) ?_
    refine g_iret dX5_isIn_15 rfl rfl (by decide) (by decide) ?_
    exact ⟨by unfold sp_in; simp only [reduceIte, c_2], rfl⟩
  · skip
    refine g_iload_n dX5_isIn_5 rfl ?_
    refine g_iload_n dX5_isIn_6 rfl ?_
    refine g_icmp_gt 14 dX5_isIn_7 (by decide) (fun c_7 => ?_) (fun c_7 => ?_)
    · skip
      refine g_iconst (v := 0) dX5_isIn_14 (by decide) ?_
      refine g_iret dX5_isIn_15 rfl rfl (by decide) (by decide) ?_
      exact ⟨by unfold sp_in; simp only [reduceIte, c_2, c_7], rfl⟩
    · skip
      refine g_iconst (v := 1) dX5_isIn_10 (by decide) ?_
      refine g_goto 15 dX5_isIn_11 (by decide) ?_
      refine g_iret dX5_isIn_15 rfl rfl (by decide) (by decide) ?_
      exact ⟨by unfold sp_in; simp only [reduceIte, c_2, c_7], rfl⟩
set_option maxRecDepth 100000 in
set_option maxHeartbeats 4000000 in
theorem c_X5_isDistrict {l : Launch} (hlt : l.stackTraces = false) {N n p : Nat} {ord : List Nat} {L : Nat → Nat → Nat} {Γ : Nat → Nat → Nat → Int32} {o : Int64} {h : am_H} (w : WI N n p ord L Γ o h) (a : Int32) : am_Con l yX5_isDistrict (.code yX5_isDistrict cX5_isDistrict 2 (some .boolean)) 2 0 0 [.ref (L 11 0), .int a] h (fun v h' => v = some (.int (sp_in a 0 (Γ 11 0 3 - 1))) ∧ h' = h) (fun _ _ => False) := by
  refine am_body hlt (by decide +kernel) (Nat.le_of_ble_eq_true rfl) (fun k hl hR h0 hno => ?_)
  subst hl
  have hm : wdm n p 11 0 = true := rfl
  refine g_iload_n dX5_isDistrict_0 rfl ?_
  refine g_iconst (v := 0) dX5_isDistrict_1 (by decide) ?_
  refine g_aload_n dX5_isDistrict_2 rfl ?_
  refine w_getI w dX5_isDistrict_3 fl_X5_93 rfl rfl (by assumption) ?_
  refine g_iconst (v := 1) dX5_isDistrict_6 (by decide) ?_
  refine g_isub dX5_isDistrict_7 ?_
  refine g_callS [_, _, _] dX5_isDistrict_8 mc_X5_96 ms_X5_isIn (c_X5_isIn hlt _ _ _) rfl (by decide) (am_rm hR (by decide)) (fun _ _ z => z) (fun v hx hq hE => ?_)
  obtain ⟨rfl, rfl⟩ := hq
  refine g_iret dX5_isDistrict_11 rfl (by unfold sp_in; split <;> (try split) <;> rfl) (by decide) (by decide) ?_
  exact ⟨rfl, rfl⟩
set_option maxRecDepth 100000 in
set_option maxHeartbeats 4000000 in
theorem c_X5_isPipe {l : Launch} (hlt : l.stackTraces = false) {N n p : Nat} {ord : List Nat} {L : Nat → Nat → Nat} {Γ : Nat → Nat → Nat → Int32} {o : Int64} {h : am_H} (w : WI N n p ord L Γ o h) (a : Int32) : am_Con l yX5_isPipe (.code yX5_isPipe cX5_isPipe 2 (some .boolean)) 2 0 0 [.ref (L 11 0), .int a] h (fun v h' => v = some (.int (sp_in a 0 (Γ 11 0 24 - 1))) ∧ h' = h) (fun _ _ => False) := by
  refine am_body hlt (by decide +kernel) (Nat.le_of_ble_eq_true rfl) (fun k hl hR h0 hno => ?_)
  subst hl
  have hm : wdm n p 11 0 = true := rfl
  refine g_iload_n dX5_isPipe_0 rfl ?_
  refine g_iconst (v := 0) dX5_isPipe_1 (by decide) ?_
  refine g_aload_n dX5_isPipe_2 rfl ?_
  refine w_getI w dX5_isPipe_3 fl_X5_100 rfl rfl (by assumption) ?_
  refine g_iconst (v := 1) dX5_isPipe_6 (by decide) ?_
  refine g_isub dX5_isPipe_7 ?_
  refine g_callS [_, _, _] dX5_isPipe_8 mc_X5_96 ms_X5_isIn (c_X5_isIn hlt _ _ _) rfl (by decide) (am_rm hR (by decide)) (fun _ _ z => z) (fun v hx hq hE => ?_)
  obtain ⟨rfl, rfl⟩ := hq
  refine g_iret dX5_isPipe_11 rfl (by unfold sp_in; split <;> (try split) <;> rfl) (by decide) (by decide) ?_
  exact ⟨rfl, rfl⟩
set_option maxRecDepth 100000 in
set_option maxHeartbeats 4000000 in
theorem c_X5_lesser {l : Launch} (hlt : l.stackTraces = false) {h : am_H} (a b : Int32) : am_Con l yX5_lesser (.code yX5_lesser cX5_lesser 2 (some .int)) 1 0 0 [.int a, .int b] h (fun v h' => v = some (.int (if b ≤ a then b else a)) ∧ h' = h) (fun _ _ => False) := by
  refine am_body hlt (by decide +kernel) (Nat.le_of_ble_eq_true rfl) (fun k hl hR h0 hno => ?_)
  subst hl
  refine g_iload_n dX5_lesser_0 rfl ?_
  refine g_iload_n dX5_lesser_1 rfl ?_
  refine g_icmp_ge 9 dX5_lesser_2 (by decide) (fun c_2 => ?_) (fun c_2 => ?_)
  · skip
    refine g_iload_n dX5_lesser_9 rfl ?_
    refine g_iret dX5_lesser_10 rfl rfl (by decide) (by decide) ?_
    exact ⟨by simp only [reduceIte, c_2], rfl⟩
  · skip
    refine g_iload_n dX5_lesser_5 rfl ?_
    refine g_goto 10 dX5_lesser_6 (by decide) ?_
    refine g_iret dX5_lesser_10 rfl rfl (by decide) (by decide) ?_
    exact ⟨by simp only [reduceIte, c_2], rfl⟩
set_option maxRecDepth 100000 in
set_option maxHeartbeats 4000000 in
theorem c_X5_room {l : Launch} (hlt : l.stackTraces = false) {N n p : Nat} {ord : List Nat} {L : Nat → Nat → Nat} {Γ : Nat → Nat → Nat → Int32} {o : Int64} {h : am_H} (w : WI N n p ord L Γ o h) {j : Nat} (hj : j < 24) (b : Int32) : am_Con l yX5_room (.code yX5_room cX5_room 3 (some .int)) 1 0 0 [.ref (L 11 0), .int (nI j), .int b] h (fun v h' => v = some (.int (if Γ 13 28 j = 0 then (if b = 0 then Γ 12 29 j else Γ 12 27 j - Γ 12 29 j) else 0)) ∧ h' = h) (fun _ _ => False) := by
  refine am_body hlt (by decide +kernel) (Nat.le_of_ble_eq_true rfl) (fun k hl hR h0 hno => ?_)
  subst hl
  have hm : wdm n p 11 0 = true := rfl
  refine g_aload_n dX5_room_0 rfl ?_
  refine w_getR w dX5_room_1 fl_X5_74 rfl rfl (by assumption) rfl ?_
  refine g_iload_n dX5_room_4 rfl ?_
  refine w_zald w dX5_room_5 (by first | rfl | assumption) (by first | assumption | (show _ < 8; omega) | (show _ < 24; omega) | (show _ < 9; omega)) ?_
  refine g_if_eq 13 dX5_room_6 (by decide) (fun c_6 => ?_) (fun c_6 => ?_)
  · skip
    refine g_iload_n dX5_room_13 rfl ?_
    refine g_if_eq 33 dX5_room_14 (by decide) (fun c_14 => ?_) (fun c_14 => ?_)
    · skip
      refine g_aload_n dX5_room_33 rfl ?_
      refine w_getR w dX5_room_34 fl_X5_77 rfl rfl (by assumption) rfl ?_
      refine g_iload_n dX5_room_37 rfl ?_
      refine w_ald w dX5_room_38 (by decide) (by first | rfl | assumption) (by first | assumption | (show _ < 8; omega) | (show _ < 24; omega) | (show _ < 9; omega)) ?_
      refine g_iret dX5_room_39 rfl rfl (by decide) (by decide) ?_
      exact ⟨by simp only [reduceIte, c_6, c_14], rfl⟩
    · skip
      refine g_aload_n dX5_room_17 rfl ?_
      refine w_getR w dX5_room_18 fl_X5_71 rfl rfl (by assumption) rfl ?_
      refine g_iload_n dX5_room_21 rfl ?_
      refine w_ald w dX5_room_22 (by decide) (by first | rfl | assumption) (by first | assumption | (show _ < 8; omega) | (show _ < 24; omega) | (show _ < 9; omega)) ?_
      refine g_aload_n dX5_room_23 rfl ?_
      refine w_getR w dX5_room_24 fl_X5_77 rfl rfl (by assumption) rfl ?_
      refine g_iload_n dX5_room_27 rfl ?_
      refine w_ald w dX5_room_28 (by decide) (by first | rfl | assumption) (by first | assumption | (show _ < 8; omega) | (show _ < 24; omega) | (show _ < 9; omega)) ?_
      refine g_isub dX5_room_29 ?_
      refine g_goto 39 dX5_room_30 (by decide) ?_
      refine g_iret dX5_room_39 rfl rfl (by decide) (by decide) ?_
      exact ⟨by simp only [reduceIte, c_6, c_14], rfl⟩
  · skip
    refine g_iconst (v := 0) dX5_room_9 (by decide) ?_
    refine g_goto 39 dX5_room_10 (by decide) ?_
    refine g_iret dX5_room_39 rfl rfl (by decide) (by decide) ?_
    exact ⟨by simp only [reduceIte, c_6], rfl⟩
set_option maxRecDepth 100000 in
set_option maxHeartbeats 4000000 in
theorem c_X5_isAhead {l : Launch} (hlt : l.stackTraces = false) {N n p : Nat} {ord : List Nat} {L : Nat → Nat → Nat} {Γ : Nat → Nat → Nat → Int32} {o : Int64} {h : am_H} (w : WI N n p ord L Γ o h) {i j : Nat} (hi : i < 8) (hj : j < 8) : am_Con l yX5_isAhead (.code yX5_isAhead cX5_isAhead 3 (some .boolean)) 1 0 0 [.ref (L 11 0), .int (nI i), .int (nI j)] h (fun v h' => v = some (.int (if Γ 12 7 j < Γ 12 7 i then 1 else if Γ 12 7 i = Γ 12 7 j then (if Γ 12 9 j ≤ Γ 12 9 i then 0 else 1) else 0)) ∧ h' = h) (fun _ _ => False) := by
  refine am_body hlt (by decide +kernel) (Nat.le_of_ble_eq_true rfl) (fun k hl hR h0 hno => ?_)
  subst hl
  have hm : wdm n p 11 0 = true := rfl
  refine g_aload_n dX5_isAhead_0 rfl ?_
  refine w_getR w dX5_isAhead_1 fl_X5_19 rfl rfl (by assumption) rfl ?_
  refine g_iload_n dX5_isAhead_4 rfl ?_
  refine w_ald w dX5_isAhead_5 (by decide) (by first | rfl | assumption) (by first | assumption | (show _ < 8; omega) | (show _ < 24; omega) | (show _ < 9; omega)) ?_
  refine g_aload_n dX5_isAhead_6 rfl ?_
  refine w_getR w dX5_isAhead_7 fl_X5_19 rfl rfl (by assumption) rfl ?_
  refine g_iload_n dX5_isAhead_10 rfl ?_
  refine w_ald w dX5_isAhead_11 (by decide) (by first | rfl | assumption) (by first | assumption | (show _ < 8; omega) | (show _ < 24; omega) | (show _ < 9; omega)) ?_
  refine g_icmp_gt 45 dX5_isAhead_12 (by decide) (fun c_12 => ?_) (fun c_12 => ?_)
  · skip
    refine g_iconst (v := 1) dX5_isAhead_45 (by decide) ?_
    refine g_goto 50 dX5_isAhead_46 (by decide) ?_
    refine g_iret dX5_isAhead_50 rfl rfl (by decide) (by decide) ?_
    refine ⟨?_, rfl⟩
    repeat (first | rw [if_pos (by assumption)] | rw [if_neg (by assumption)])
  · skip
    refine g_aload_n dX5_isAhead_15 rfl ?_
    refine w_getR w dX5_isAhead_16 fl_X5_19 rfl rfl (by assumption) rfl ?_
    refine g_iload_n dX5_isAhead_19 rfl ?_
    refine w_ald w dX5_isAhead_20 (by decide) (by first | rfl | assumption) (by first | assumption | (show _ < 8; omega) | (show _ < 24; omega) | (show _ < 9; omega)) ?_
    refine g_aload_n dX5_isAhead_21 rfl ?_
    refine w_getR w dX5_isAhead_22 fl_X5_19 rfl rfl (by assumption) rfl ?_
    refine g_iload_n dX5_isAhead_25 rfl ?_
    refine w_ald w dX5_isAhead_26 (by decide) (by first | rfl | assumption) (by first | assumption | (show _ < 8; omega) | (show _ < 24; omega) | (show _ < 9; omega)) ?_
    refine g_icmp_ne 49 dX5_isAhead_27 (by decide) (fun c_27 => ?_) (fun c_27 => ?_)
    · skip
      refine g_iconst (v := 0) dX5_isAhead_49 (by decide) ?_
      refine g_iret dX5_isAhead_50 rfl rfl (by decide) (by decide) ?_
      refine ⟨?_, rfl⟩
      repeat (first | rw [if_pos (by assumption)] | rw [if_neg (by assumption)])
    · skip
      refine g_aload_n dX5_isAhead_30 rfl ?_
      refine w_getR w dX5_isAhead_31 fl_X5_25 rfl rfl (by assumption) rfl ?_
      refine g_iload_n dX5_isAhead_34 rfl ?_
      refine w_ald w dX5_isAhead_35 (by decide) (by first | rfl | assumption) (by first | assumption | (show _ < 8; omega) | (show _ < 24; omega) | (show _ < 9; omega)) ?_
      refine g_aload_n dX5_isAhead_36 rfl ?_
      refine w_getR w dX5_isAhead_37 fl_X5_25 rfl rfl (by assumption) rfl ?_
      refine g_iload_n dX5_isAhead_40 rfl ?_
      refine w_ald w dX5_isAhead_41 (by decide) (by first | rfl | assumption) (by first | assumption | (show _ < 8; omega) | (show _ < 24; omega) | (show _ < 9; omega)) ?_
      refine g_icmp_ge 49 dX5_isAhead_42 (by decide) (fun c_42 => ?_) (fun c_42 => ?_)
      · skip
        refine g_iconst (v := 0) dX5_isAhead_49 (by decide) ?_
        refine g_iret dX5_isAhead_50 rfl rfl (by decide) (by decide) ?_
        refine ⟨?_, rfl⟩
        repeat (first | rw [if_pos (by assumption)] | rw [if_neg (by assumption)])
      · skip
        refine g_iconst (v := 1) dX5_isAhead_45 (by decide) ?_
        refine g_goto 50 dX5_isAhead_46 (by decide) ?_
        refine g_iret dX5_isAhead_50 rfl rfl (by decide) (by decide) ?_
        refine ⟨?_, rfl⟩
        repeat (first | rw [if_pos (by assumption)] | rw [if_neg (by assumption)])
set_option maxRecDepth 100000 in
set_option maxHeartbeats 4000000 in
theorem c_X5_before_f {l : Launch} (hlt : l.stackTraces = false) {N n p : Nat} {ord : List Nat} {L : Nat → Nat → Nat} {Γ : Nat → Nat → Nat → Int32} {o : Int64} {h : am_H} (w : WI N n p ord L Γ o h) {i q : Nat} (hi : i < 9) (hq : q < 24) (e : Γ 12 31 i = nI q) : am_Con l yX5_before (.code yX5_before cX5_before 2 (some .int)) 1 0 0 [.ref (L 11 0), .int (nI i)] h (fun v h' => v = some (.int (Γ 12 25 q)) ∧ h' = h) (fun _ _ => False) := by
  refine am_body hlt (by decide +kernel) (Nat.le_of_ble_eq_true rfl) (fun k hl hR h0 hno => ?_)
  subst hl
  have hm : wdm n p 11 0 = true := rfl
  refine g_aload_n dX5_before_0 rfl ?_
  refine w_getR w dX5_before_1 fl_X5_80 rfl rfl (by assumption) rfl ?_
  refine g_iload_n dX5_before_4 rfl ?_
  refine w_ald w dX5_before_5 (by decide) (by first | rfl | assumption) (by first | assumption | (show _ < 8; omega) | (show _ < 24; omega) | (show _ < 9; omega)) ?_
  refine g_bipush (v := 24) dX5_before_6 (by decide) ?_
  rw [e]
  refine g_icmp_ge 25 dX5_before_8 (by decide) (fun c_8 => ?_) (fun c_8 => ?_)
  · skip
    refine g_aload_n dX5_before_25 rfl ?_
    refine w_getR w dX5_before_26 fl_X5_68 rfl rfl (by assumption) rfl ?_
    refine g_aload_n dX5_before_29 rfl ?_
    refine w_getR w dX5_before_30 fl_X5_80 rfl rfl (by assumption) rfl ?_
    refine g_iload_n dX5_before_33 rfl ?_
    refine w_ald w dX5_before_34 (by decide) (by first | rfl | assumption) (by first | assumption | (show _ < 8; omega) | (show _ < 24; omega) | (show _ < 9; omega)) ?_
    refine g_bipush (v := 24) dX5_before_35 (by decide) ?_
    refine g_isub dX5_before_37 ?_
    exact absurd c_8 (nI_ge (a := q) (b := 24) (by omega) (by decide))
    
  · skip
    refine g_aload_n dX5_before_11 rfl ?_
    refine w_getR w dX5_before_12 fl_X5_65 rfl rfl (by assumption) rfl ?_
    refine g_aload_n dX5_before_15 rfl ?_
    refine w_getR w dX5_before_16 fl_X5_80 rfl rfl (by assumption) rfl ?_
    refine g_iload_n dX5_before_19 rfl ?_
    refine w_ald w dX5_before_20 (by decide) (by first | rfl | assumption) (by first | assumption | (show _ < 8; omega) | (show _ < 24; omega) | (show _ < 9; omega)) ?_
    rw [e]
    refine w_ald w dX5_before_21 (by decide) (by first | rfl | assumption) (by first | assumption | (show _ < 8; omega) | (show _ < 24; omega) | (show _ < 9; omega)) ?_
    refine g_goto 39 dX5_before_22 (by decide) ?_
    refine g_iret dX5_before_39 rfl rfl (by decide) (by decide) ?_
    exact ⟨rfl, rfl⟩
end
section
set_option maxRecDepth 100000 in
set_option maxHeartbeats 4000000 in
theorem c_X5_standing {l : Launch} (hlt : l.stackTraces = false) {N n p : Nat} {ord : List Nat} {L : Nat → Nat → Nat} {Γ : Nat → Nat → Nat → Int32} {o : Int64} {h : am_H} (w : WI N n p ord L Γ o h) {b : Nat} (hb : b ≤ 8) (en : Γ 11 0 3 = nI b)  : am_Con l yX5_standing (.code yX5_standing cX5_standing 3 (some .int)) 1 0 0 [.ref (L 11 0)] h (fun v h' => v = some (.int (sp_sum (fun j => if Γ 13 10 j = 0 then 0 else 1) b)) ∧ h' = h) (fun _ _ => False) := by
  refine am_body hlt (by decide +kernel) (Nat.le_of_ble_eq_true rfl) (fun k hl hR h0 hno => ?_)
  subst hl
  obtain ⟨Qf, hQ⟩ : ∃ Qf, Qf = am_Q k 0 0 (fun v h' => v = some (.int (sp_sum (fun j => if Γ 13 10 j = 0 then 0 else 1) b)) ∧ h' = h) (fun _ _ => False) := ⟨_, rfl⟩
  rw [← hQ]
  refine g_iconst (v := 0) dX5_standing_0 (by decide) ?_
  refine g_istore_n dX5_standing_1 (by decide) rfl ?_
  refine g_iconst (v := 0) dX5_standing_2 (by decide) ?_
  refine g_istore_n dX5_standing_3 (by decide) rfl ?_
  have lp_4 : ∀ (f : Nat) (j : Nat) (x : Int32), j ≤ b → b - j < f → x = sp_sum (fun j => if Γ 13 10 j = 0 then 0 else 1) j → am_G k RX5 yX5_standing.name cX5_standing 3 (some .int) 0 0 Qf 4 [(2, .int (nI j)), (1, .int x), (0, .ref (L 11 0))] [] h := by
    intro f
    induction f with
    | zero => intro j x hj hf ex; omega
    | succ f ih =>
      intro j x hj hf ex
      refine g_iload_n dX5_standing_4 rfl ?_
      refine g_aload_n dX5_standing_5 rfl ?_
      refine w_getI w dX5_standing_6 fl_X5_93 rfl rfl (by first | rfl | assumption) ?_
      rw [en]
      refine gN_ge 35 dX5_standing_9 (by decide) (by omega) (by omega) (fun c_9 => ?_) (fun c_9 => ?_)
      · skip
        refine g_iload_n dX5_standing_35 rfl ?_
        rw [hQ]
        refine g_iret dX5_standing_36 rfl rfl (by decide) (by decide) ?_
        have ej : j = b := by omega
        subst ej
        exact ⟨by rw [ex], rfl⟩
      · skip
        refine g_iload_n dX5_standing_12 rfl ?_
        refine g_aload_n dX5_standing_13 rfl ?_
        refine w_getR w dX5_standing_14 fl_X5_28 rfl rfl (by first | rfl | assumption) rfl ?_
        refine g_iload_n dX5_standing_17 rfl ?_
        refine w_zald w dX5_standing_18 (by first | rfl | assumption) (by first | assumption | omega | (show _ < 8; omega) | (show _ < 24; omega) | (show _ < 9; omega)) ?_
        refine g_if_eq 26 dX5_standing_19 (by decide) (fun c_19 => ?_) (fun c_19 => ?_)
        · skip
          refine g_iconst (v := 0) dX5_standing_26 (by decide) ?_
          refine g_iadd dX5_standing_27 ?_
          refine g_istore_n dX5_standing_28 (by decide) rfl ?_
          refine g_iinc dX5_standing_29 rfl (nI_i1 _) (by decide) rfl ?_
          refine g_goto 4 dX5_standing_32 (by decide) ?_
          refine g_ls [(2, .int (nI (j + 1))), (1, .int _), (0, .ref (L 11 0))] ⟨rfl, rfl, rfl, trivial⟩ ?_
          exact ih (j + 1) _ (by omega) (by omega) (by rw [ex]; simp only [sp_sum, reduceIte, c_9, c_19])
        · skip
          refine g_iconst (v := 1) dX5_standing_22 (by decide) ?_
          refine g_goto 27 dX5_standing_23 (by decide) ?_
          refine g_iadd dX5_standing_27 ?_
          refine g_istore_n dX5_standing_28 (by decide) rfl ?_
          refine g_iinc dX5_standing_29 rfl (nI_i1 _) (by decide) rfl ?_
          refine g_goto 4 dX5_standing_32 (by decide) ?_
          refine g_ls [(2, .int (nI (j + 1))), (1, .int _), (0, .ref (L 11 0))] ⟨rfl, rfl, rfl, trivial⟩ ?_
          exact ih (j + 1) _ (by omega) (by omega) (by rw [ex]; simp only [sp_sum, reduceIte, c_9, c_19])
  refine g_ls [(2, .int (nI 0)), (1, .int 0), (0, .ref (L 11 0))] ⟨rfl, rfl, rfl, trivial⟩ ?_
  exact lp_4 (b + 1) 0 0 (by omega) (by omega) rfl
set_option maxRecDepth 100000 in
set_option maxHeartbeats 4000000 in
theorem c_X5_toldNow {l : Launch} (hlt : l.stackTraces = false) {N n p : Nat} {ord : List Nat} {L : Nat → Nat → Nat} {Γ : Nat → Nat → Nat → Int32} {o : Int64} {h : am_H} (w : WI N n p ord L Γ o h) {b : Nat} (hb : b ≤ 8) (en : Γ 11 0 3 = nI b)  : am_Con l yX5_toldNow (.code yX5_toldNow cX5_toldNow 3 (some .int)) 1 0 0 [.ref (L 11 0)] h (fun v h' => v = some (.int (sp_sum (fun j => if Γ 13 14 j = 0 then 0 else 1) b)) ∧ h' = h) (fun _ _ => False) := by
  refine am_body hlt (by decide +kernel) (Nat.le_of_ble_eq_true rfl) (fun k hl hR h0 hno => ?_)
  subst hl
  obtain ⟨Qf, hQ⟩ : ∃ Qf, Qf = am_Q k 0 0 (fun v h' => v = some (.int (sp_sum (fun j => if Γ 13 14 j = 0 then 0 else 1) b)) ∧ h' = h) (fun _ _ => False) := ⟨_, rfl⟩
  rw [← hQ]
  refine g_iconst (v := 0) dX5_toldNow_0 (by decide) ?_
  refine g_istore_n dX5_toldNow_1 (by decide) rfl ?_
  refine g_iconst (v := 0) dX5_toldNow_2 (by decide) ?_
  refine g_istore_n dX5_toldNow_3 (by decide) rfl ?_
  have lp_4 : ∀ (f : Nat) (j : Nat) (x : Int32), j ≤ b → b - j < f → x = sp_sum (fun j => if Γ 13 14 j = 0 then 0 else 1) j → am_G k RX5 yX5_toldNow.name cX5_toldNow 3 (some .int) 0 0 Qf 4 [(2, .int (nI j)), (1, .int x), (0, .ref (L 11 0))] [] h := by
    intro f
    induction f with
    | zero => intro j x hj hf ex; omega
    | succ f ih =>
      intro j x hj hf ex
      refine g_iload_n dX5_toldNow_4 rfl ?_
      refine g_aload_n dX5_toldNow_5 rfl ?_
      refine w_getI w dX5_toldNow_6 fl_X5_93 rfl rfl (by first | rfl | assumption) ?_
      rw [en]
      refine gN_ge 35 dX5_toldNow_9 (by decide) (by omega) (by omega) (fun c_9 => ?_) (fun c_9 => ?_)
      · skip
        refine g_iload_n dX5_toldNow_35 rfl ?_
        rw [hQ]
        refine g_iret dX5_toldNow_36 rfl rfl (by decide) (by decide) ?_
        have ej : j = b := by omega
        subst ej
        exact ⟨by rw [ex], rfl⟩
      · skip
        refine g_iload_n dX5_toldNow_12 rfl ?_
        refine g_aload_n dX5_toldNow_13 rfl ?_
        refine w_getR w dX5_toldNow_14 fl_X5_41 rfl rfl (by first | rfl | assumption) rfl ?_
        refine g_iload_n dX5_toldNow_17 rfl ?_
        refine w_zald w dX5_toldNow_18 (by first | rfl | assumption) (by first | assumption | omega | (show _ < 8; omega) | (show _ < 24; omega) | (show _ < 9; omega)) ?_
        refine g_if_eq 26 dX5_toldNow_19 (by decide) (fun c_19 => ?_) (fun c_19 => ?_)
        · skip
          refine g_iconst (v := 0) dX5_toldNow_26 (by decide) ?_
          refine g_iadd dX5_toldNow_27 ?_
          refine g_istore_n dX5_toldNow_28 (by decide) rfl ?_
          refine g_iinc dX5_toldNow_29 rfl (nI_i1 _) (by decide) rfl ?_
          refine g_goto 4 dX5_toldNow_32 (by decide) ?_
          refine g_ls [(2, .int (nI (j + 1))), (1, .int _), (0, .ref (L 11 0))] ⟨rfl, rfl, rfl, trivial⟩ ?_
          exact ih (j + 1) _ (by omega) (by omega) (by rw [ex]; simp only [sp_sum, reduceIte, c_9, c_19])
        · skip
          refine g_iconst (v := 1) dX5_toldNow_22 (by decide) ?_
          refine g_goto 27 dX5_toldNow_23 (by decide) ?_
          refine g_iadd dX5_toldNow_27 ?_
          refine g_istore_n dX5_toldNow_28 (by decide) rfl ?_
          refine g_iinc dX5_toldNow_29 rfl (nI_i1 _) (by decide) rfl ?_
          refine g_goto 4 dX5_toldNow_32 (by decide) ?_
          refine g_ls [(2, .int (nI (j + 1))), (1, .int _), (0, .ref (L 11 0))] ⟨rfl, rfl, rfl, trivial⟩ ?_
          exact ih (j + 1) _ (by omega) (by omega) (by rw [ex]; simp only [sp_sum, reduceIte, c_9, c_19])
  refine g_ls [(2, .int (nI 0)), (1, .int 0), (0, .ref (L 11 0))] ⟨rfl, rfl, rfl, trivial⟩ ?_
  exact lp_4 (b + 1) 0 0 (by omega) (by omega) rfl
set_option maxRecDepth 100000 in
set_option maxHeartbeats 4000000 in
theorem c_X5_burstPipes {l : Launch} (hlt : l.stackTraces = false) {N n p : Nat} {ord : List Nat} {L : Nat → Nat → Nat} {Γ : Nat → Nat → Nat → Int32} {o : Int64} {h : am_H} (w : WI N n p ord L Γ o h) {q : Nat} (hq : q ≤ 24) (ep : Γ 11 0 24 = nI q)  : am_Con l yX5_burstPipes (.code yX5_burstPipes cX5_burstPipes 3 (some .int)) 1 0 0 [.ref (L 11 0)] h (fun v h' => v = some (.int (sp_sum (fun j => if Γ 13 28 j = 0 then 0 else 1) q)) ∧ h' = h) (fun _ _ => False) := by
  refine am_body hlt (by decide +kernel) (Nat.le_of_ble_eq_true rfl) (fun k hl hR h0 hno => ?_)
  subst hl
  obtain ⟨Qf, hQ⟩ : ∃ Qf, Qf = am_Q k 0 0 (fun v h' => v = some (.int (sp_sum (fun j => if Γ 13 28 j = 0 then 0 else 1) q)) ∧ h' = h) (fun _ _ => False) := ⟨_, rfl⟩
  rw [← hQ]
  refine g_iconst (v := 0) dX5_burstPipes_0 (by decide) ?_
  refine g_istore_n dX5_burstPipes_1 (by decide) rfl ?_
  refine g_iconst (v := 0) dX5_burstPipes_2 (by decide) ?_
  refine g_istore_n dX5_burstPipes_3 (by decide) rfl ?_
  have lp_4 : ∀ (f : Nat) (j : Nat) (x : Int32), j ≤ q → q - j < f → x = sp_sum (fun j => if Γ 13 28 j = 0 then 0 else 1) j → am_G k RX5 yX5_burstPipes.name cX5_burstPipes 3 (some .int) 0 0 Qf 4 [(2, .int (nI j)), (1, .int x), (0, .ref (L 11 0))] [] h := by
    intro f
    induction f with
    | zero => intro j x hj hf ex; omega
    | succ f ih =>
      intro j x hj hf ex
      refine g_iload_n dX5_burstPipes_4 rfl ?_
      refine g_aload_n dX5_burstPipes_5 rfl ?_
      refine w_getI w dX5_burstPipes_6 fl_X5_100 rfl rfl (by first | rfl | assumption) ?_
      rw [ep]
      refine gN_ge 35 dX5_burstPipes_9 (by decide) (by omega) (by omega) (fun c_9 => ?_) (fun c_9 => ?_)
      · skip
        refine g_iload_n dX5_burstPipes_35 rfl ?_
        rw [hQ]
        refine g_iret dX5_burstPipes_36 rfl rfl (by decide) (by decide) ?_
        have ej : j = q := by omega
        subst ej
        exact ⟨by rw [ex], rfl⟩
      · skip
        refine g_iload_n dX5_burstPipes_12 rfl ?_
        refine g_aload_n dX5_burstPipes_13 rfl ?_
        refine w_getR w dX5_burstPipes_14 fl_X5_74 rfl rfl (by first | rfl | assumption) rfl ?_
        refine g_iload_n dX5_burstPipes_17 rfl ?_
        refine w_zald w dX5_burstPipes_18 (by first | rfl | assumption) (by first | assumption | omega | (show _ < 8; omega) | (show _ < 24; omega) | (show _ < 9; omega)) ?_
        refine g_if_eq 26 dX5_burstPipes_19 (by decide) (fun c_19 => ?_) (fun c_19 => ?_)
        · skip
          refine g_iconst (v := 0) dX5_burstPipes_26 (by decide) ?_
          refine g_iadd dX5_burstPipes_27 ?_
          refine g_istore_n dX5_burstPipes_28 (by decide) rfl ?_
          refine g_iinc dX5_burstPipes_29 rfl (nI_i1 _) (by decide) rfl ?_
          refine g_goto 4 dX5_burstPipes_32 (by decide) ?_
          refine g_ls [(2, .int (nI (j + 1))), (1, .int _), (0, .ref (L 11 0))] ⟨rfl, rfl, rfl, trivial⟩ ?_
          exact ih (j + 1) _ (by omega) (by omega) (by rw [ex]; simp only [sp_sum, reduceIte, c_9, c_19])
        · skip
          refine g_iconst (v := 1) dX5_burstPipes_22 (by decide) ?_
          refine g_goto 27 dX5_burstPipes_23 (by decide) ?_
          refine g_iadd dX5_burstPipes_27 ?_
          refine g_istore_n dX5_burstPipes_28 (by decide) rfl ?_
          refine g_iinc dX5_burstPipes_29 rfl (nI_i1 _) (by decide) rfl ?_
          refine g_goto 4 dX5_burstPipes_32 (by decide) ?_
          refine g_ls [(2, .int (nI (j + 1))), (1, .int _), (0, .ref (L 11 0))] ⟨rfl, rfl, rfl, trivial⟩ ?_
          exact ih (j + 1) _ (by omega) (by omega) (by rw [ex]; simp only [sp_sum, reduceIte, c_9, c_19])
  refine g_ls [(2, .int (nI 0)), (1, .int 0), (0, .ref (L 11 0))] ⟨rfl, rfl, rfl, trivial⟩ ?_
  exact lp_4 (q + 1) 0 0 (by omega) (by omega) rfl
set_option maxRecDepth 100000 in
set_option maxHeartbeats 4000000 in
theorem c_X5_sum6 {l : Launch} (hlt : l.stackTraces = false) {N n p : Nat} {ord : List Nat} {L : Nat → Nat → Nat} {Γ : Nat → Nat → Nat → Int32} {o : Int64} {h : am_H} (w : WI N n p ord L Γ o h) {b : Nat} (hb : b ≤ 8) (en : Γ 11 0 3 = nI b)  : am_Con l yX5_sum (.code yX5_sum cX5_sum 4 (some .int)) 1 0 0 [.ref (L 11 0), .ref (L 12 6)] h (fun v h' => v = some (.int (sp_sum (fun j => Γ 12 6 j) b)) ∧ h' = h) (fun _ _ => False) := by
  refine am_body hlt (by decide +kernel) (Nat.le_of_ble_eq_true rfl) (fun k hl hR h0 hno => ?_)
  subst hl
  obtain ⟨Qf, hQ⟩ : ∃ Qf, Qf = am_Q k 0 0 (fun v h' => v = some (.int (sp_sum (fun j => Γ 12 6 j) b)) ∧ h' = h) (fun _ _ => False) := ⟨_, rfl⟩
  rw [← hQ]
  refine g_iconst (v := 0) dX5_sum_0 (by decide) ?_
  refine g_istore_n dX5_sum_1 (by decide) rfl ?_
  refine g_iconst (v := 0) dX5_sum_2 (by decide) ?_
  refine g_istore_n dX5_sum_3 (by decide) rfl ?_
  have lp_4 : ∀ (f : Nat) (j : Nat) (x : Int32), j ≤ b → b - j < f → x = sp_sum (fun j => Γ 12 6 j) j → am_G k RX5 yX5_sum.name cX5_sum 4 (some .int) 0 0 Qf 4 [(3, .int (nI j)), (2, .int x), (1, .ref (L 12 6)), (0, .ref (L 11 0))] [] h := by
    intro f
    induction f with
    | zero => intro j x hj hf ex; omega
    | succ f ih =>
      intro j x hj hf ex
      refine g_iload_n dX5_sum_4 rfl ?_
      refine g_aload_n dX5_sum_5 rfl ?_
      refine w_getI w dX5_sum_6 fl_X5_93 rfl rfl (by first | rfl | assumption) ?_
      rw [en]
      refine gN_ge 24 dX5_sum_9 (by decide) (by omega) (by omega) (fun c_9 => ?_) (fun c_9 => ?_)
      · skip
        refine g_iload_n dX5_sum_24 rfl ?_
        rw [hQ]
        refine g_iret dX5_sum_25 rfl rfl (by decide) (by decide) ?_
        have ej : j = b := by omega
        subst ej
        exact ⟨by rw [ex], rfl⟩
      · skip
        refine g_iload_n dX5_sum_12 rfl ?_
        refine g_aload_n dX5_sum_13 rfl ?_
        refine g_iload_n dX5_sum_14 rfl ?_
        refine w_ald w dX5_sum_15 (by decide) (by first | rfl | assumption) (by first | assumption | omega | (show _ < 8; omega) | (show _ < 24; omega) | (show _ < 9; omega)) ?_
        refine g_iadd dX5_sum_16 ?_
        refine g_istore_n dX5_sum_17 (by decide) rfl ?_
        refine g_iinc dX5_sum_18 rfl (nI_i1 _) (by decide) rfl ?_
        refine g_goto 4 dX5_sum_21 (by decide) ?_
        refine g_ls [(3, .int (nI (j + 1))), (2, .int _), (1, .ref (L 12 6)), (0, .ref (L 11 0))] ⟨rfl, rfl, rfl, rfl, trivial⟩ ?_
        exact ih (j + 1) _ (by omega) (by omega) (by rw [ex]; simp only [sp_sum, reduceIte, c_9])
  refine g_ls [(3, .int (nI 0)), (2, .int 0), (1, .ref (L 12 6)), (0, .ref (L 11 0))] ⟨rfl, rfl, rfl, rfl, trivial⟩ ?_
  exact lp_4 (b + 1) 0 0 (by omega) (by omega) rfl
set_option maxRecDepth 100000 in
set_option maxHeartbeats 4000000 in
theorem c_X5_sum17 {l : Launch} (hlt : l.stackTraces = false) {N n p : Nat} {ord : List Nat} {L : Nat → Nat → Nat} {Γ : Nat → Nat → Nat → Int32} {o : Int64} {h : am_H} (w : WI N n p ord L Γ o h) {b : Nat} (hb : b ≤ 8) (en : Γ 11 0 3 = nI b)  : am_Con l yX5_sum (.code yX5_sum cX5_sum 4 (some .int)) 1 0 0 [.ref (L 11 0), .ref (L 12 17)] h (fun v h' => v = some (.int (sp_sum (fun j => Γ 12 17 j) b)) ∧ h' = h) (fun _ _ => False) := by
  refine am_body hlt (by decide +kernel) (Nat.le_of_ble_eq_true rfl) (fun k hl hR h0 hno => ?_)
  subst hl
  obtain ⟨Qf, hQ⟩ : ∃ Qf, Qf = am_Q k 0 0 (fun v h' => v = some (.int (sp_sum (fun j => Γ 12 17 j) b)) ∧ h' = h) (fun _ _ => False) := ⟨_, rfl⟩
  rw [← hQ]
  refine g_iconst (v := 0) dX5_sum_0 (by decide) ?_
  refine g_istore_n dX5_sum_1 (by decide) rfl ?_
  refine g_iconst (v := 0) dX5_sum_2 (by decide) ?_
  refine g_istore_n dX5_sum_3 (by decide) rfl ?_
  have lp_4 : ∀ (f : Nat) (j : Nat) (x : Int32), j ≤ b → b - j < f → x = sp_sum (fun j => Γ 12 17 j) j → am_G k RX5 yX5_sum.name cX5_sum 4 (some .int) 0 0 Qf 4 [(3, .int (nI j)), (2, .int x), (1, .ref (L 12 17)), (0, .ref (L 11 0))] [] h := by
    intro f
    induction f with
    | zero => intro j x hj hf ex; omega
    | succ f ih =>
      intro j x hj hf ex
      refine g_iload_n dX5_sum_4 rfl ?_
      refine g_aload_n dX5_sum_5 rfl ?_
      refine w_getI w dX5_sum_6 fl_X5_93 rfl rfl (by first | rfl | assumption) ?_
      rw [en]
      refine gN_ge 24 dX5_sum_9 (by decide) (by omega) (by omega) (fun c_9 => ?_) (fun c_9 => ?_)
      · skip
        refine g_iload_n dX5_sum_24 rfl ?_
        rw [hQ]
        refine g_iret dX5_sum_25 rfl rfl (by decide) (by decide) ?_
        have ej : j = b := by omega
        subst ej
        exact ⟨by rw [ex], rfl⟩
      · skip
        refine g_iload_n dX5_sum_12 rfl ?_
        refine g_aload_n dX5_sum_13 rfl ?_
        refine g_iload_n dX5_sum_14 rfl ?_
        refine w_ald w dX5_sum_15 (by decide) (by first | rfl | assumption) (by first | assumption | omega | (show _ < 8; omega) | (show _ < 24; omega) | (show _ < 9; omega)) ?_
        refine g_iadd dX5_sum_16 ?_
        refine g_istore_n dX5_sum_17 (by decide) rfl ?_
        refine g_iinc dX5_sum_18 rfl (nI_i1 _) (by decide) rfl ?_
        refine g_goto 4 dX5_sum_21 (by decide) ?_
        refine g_ls [(3, .int (nI (j + 1))), (2, .int _), (1, .ref (L 12 17)), (0, .ref (L 11 0))] ⟨rfl, rfl, rfl, rfl, trivial⟩ ?_
        exact ih (j + 1) _ (by omega) (by omega) (by rw [ex]; simp only [sp_sum, reduceIte, c_9])
  refine g_ls [(3, .int (nI 0)), (2, .int 0), (1, .ref (L 12 17)), (0, .ref (L 11 0))] ⟨rfl, rfl, rfl, rfl, trivial⟩ ?_
  exact lp_4 (b + 1) 0 0 (by omega) (by omega) rfl
set_option maxRecDepth 100000 in
set_option maxHeartbeats 4000000 in
theorem c_X5_sum18 {l : Launch} (hlt : l.stackTraces = false) {N n p : Nat} {ord : List Nat} {L : Nat → Nat → Nat} {Γ : Nat → Nat → Nat → Int32} {o : Int64} {h : am_H} (w : WI N n p ord L Γ o h) {b : Nat} (hb : b ≤ 8) (en : Γ 11 0 3 = nI b)  : am_Con l yX5_sum (.code yX5_sum cX5_sum 4 (some .int)) 1 0 0 [.ref (L 11 0), .ref (L 12 18)] h (fun v h' => v = some (.int (sp_sum (fun j => Γ 12 18 j) b)) ∧ h' = h) (fun _ _ => False) := by
  refine am_body hlt (by decide +kernel) (Nat.le_of_ble_eq_true rfl) (fun k hl hR h0 hno => ?_)
  subst hl
  obtain ⟨Qf, hQ⟩ : ∃ Qf, Qf = am_Q k 0 0 (fun v h' => v = some (.int (sp_sum (fun j => Γ 12 18 j) b)) ∧ h' = h) (fun _ _ => False) := ⟨_, rfl⟩
  rw [← hQ]
  refine g_iconst (v := 0) dX5_sum_0 (by decide) ?_
  refine g_istore_n dX5_sum_1 (by decide) rfl ?_
  refine g_iconst (v := 0) dX5_sum_2 (by decide) ?_
  refine g_istore_n dX5_sum_3 (by decide) rfl ?_
  have lp_4 : ∀ (f : Nat) (j : Nat) (x : Int32), j ≤ b → b - j < f → x = sp_sum (fun j => Γ 12 18 j) j → am_G k RX5 yX5_sum.name cX5_sum 4 (some .int) 0 0 Qf 4 [(3, .int (nI j)), (2, .int x), (1, .ref (L 12 18)), (0, .ref (L 11 0))] [] h := by
    intro f
    induction f with
    | zero => intro j x hj hf ex; omega
    | succ f ih =>
      intro j x hj hf ex
      refine g_iload_n dX5_sum_4 rfl ?_
      refine g_aload_n dX5_sum_5 rfl ?_
      refine w_getI w dX5_sum_6 fl_X5_93 rfl rfl (by first | rfl | assumption) ?_
      rw [en]
      refine gN_ge 24 dX5_sum_9 (by decide) (by omega) (by omega) (fun c_9 => ?_) (fun c_9 => ?_)
      · skip
        refine g_iload_n dX5_sum_24 rfl ?_
        rw [hQ]
        refine g_iret dX5_sum_25 rfl rfl (by decide) (by decide) ?_
        have ej : j = b := by omega
        subst ej
        exact ⟨by rw [ex], rfl⟩
      · skip
        refine g_iload_n dX5_sum_12 rfl ?_
        refine g_aload_n dX5_sum_13 rfl ?_
        refine g_iload_n dX5_sum_14 rfl ?_
        refine w_ald w dX5_sum_15 (by decide) (by first | rfl | assumption) (by first | assumption | omega | (show _ < 8; omega) | (show _ < 24; omega) | (show _ < 9; omega)) ?_
        refine g_iadd dX5_sum_16 ?_
        refine g_istore_n dX5_sum_17 (by decide) rfl ?_
        refine g_iinc dX5_sum_18 rfl (nI_i1 _) (by decide) rfl ?_
        refine g_goto 4 dX5_sum_21 (by decide) ?_
        refine g_ls [(3, .int (nI (j + 1))), (2, .int _), (1, .ref (L 12 18)), (0, .ref (L 11 0))] ⟨rfl, rfl, rfl, rfl, trivial⟩ ?_
        exact ih (j + 1) _ (by omega) (by omega) (by rw [ex]; simp only [sp_sum, reduceIte, c_9])
  refine g_ls [(3, .int (nI 0)), (2, .int 0), (1, .ref (L 12 18)), (0, .ref (L 11 0))] ⟨rfl, rfl, rfl, rfl, trivial⟩ ?_
  exact lp_4 (b + 1) 0 0 (by omega) (by omega) rfl
set_option maxRecDepth 100000 in
set_option maxHeartbeats 4000000 in
theorem c_X5_sum19 {l : Launch} (hlt : l.stackTraces = false) {N n p : Nat} {ord : List Nat} {L : Nat → Nat → Nat} {Γ : Nat → Nat → Nat → Int32} {o : Int64} {h : am_H} (w : WI N n p ord L Γ o h) {b : Nat} (hb : b ≤ 8) (en : Γ 11 0 3 = nI b)  : am_Con l yX5_sum (.code yX5_sum cX5_sum 4 (some .int)) 1 0 0 [.ref (L 11 0), .ref (L 12 19)] h (fun v h' => v = some (.int (sp_sum (fun j => Γ 12 19 j) b)) ∧ h' = h) (fun _ _ => False) := by
  refine am_body hlt (by decide +kernel) (Nat.le_of_ble_eq_true rfl) (fun k hl hR h0 hno => ?_)
  subst hl
  obtain ⟨Qf, hQ⟩ : ∃ Qf, Qf = am_Q k 0 0 (fun v h' => v = some (.int (sp_sum (fun j => Γ 12 19 j) b)) ∧ h' = h) (fun _ _ => False) := ⟨_, rfl⟩
  rw [← hQ]
  refine g_iconst (v := 0) dX5_sum_0 (by decide) ?_
  refine g_istore_n dX5_sum_1 (by decide) rfl ?_
  refine g_iconst (v := 0) dX5_sum_2 (by decide) ?_
  refine g_istore_n dX5_sum_3 (by decide) rfl ?_
  have lp_4 : ∀ (f : Nat) (j : Nat) (x : Int32), j ≤ b → b - j < f → x = sp_sum (fun j => Γ 12 19 j) j → am_G k RX5 yX5_sum.name cX5_sum 4 (some .int) 0 0 Qf 4 [(3, .int (nI j)), (2, .int x), (1, .ref (L 12 19)), (0, .ref (L 11 0))] [] h := by
    intro f
    induction f with
    | zero => intro j x hj hf ex; omega
    | succ f ih =>
      intro j x hj hf ex
      refine g_iload_n dX5_sum_4 rfl ?_
      refine g_aload_n dX5_sum_5 rfl ?_
      refine w_getI w dX5_sum_6 fl_X5_93 rfl rfl (by first | rfl | assumption) ?_
      rw [en]
      refine gN_ge 24 dX5_sum_9 (by decide) (by omega) (by omega) (fun c_9 => ?_) (fun c_9 => ?_)
      · skip
        refine g_iload_n dX5_sum_24 rfl ?_
        rw [hQ]
        refine g_iret dX5_sum_25 rfl rfl (by decide) (by decide) ?_
        have ej : j = b := by omega
        subst ej
        exact ⟨by rw [ex], rfl⟩
      · skip
        refine g_iload_n dX5_sum_12 rfl ?_
        refine g_aload_n dX5_sum_13 rfl ?_
        refine g_iload_n dX5_sum_14 rfl ?_
        refine w_ald w dX5_sum_15 (by decide) (by first | rfl | assumption) (by first | assumption | omega | (show _ < 8; omega) | (show _ < 24; omega) | (show _ < 9; omega)) ?_
        refine g_iadd dX5_sum_16 ?_
        refine g_istore_n dX5_sum_17 (by decide) rfl ?_
        refine g_iinc dX5_sum_18 rfl (nI_i1 _) (by decide) rfl ?_
        refine g_goto 4 dX5_sum_21 (by decide) ?_
        refine g_ls [(3, .int (nI (j + 1))), (2, .int _), (1, .ref (L 12 19)), (0, .ref (L 11 0))] ⟨rfl, rfl, rfl, rfl, trivial⟩ ?_
        exact ih (j + 1) _ (by omega) (by omega) (by rw [ex]; simp only [sp_sum, reduceIte, c_9])
  refine g_ls [(3, .int (nI 0)), (2, .int 0), (1, .ref (L 12 19)), (0, .ref (L 11 0))] ⟨rfl, rfl, rfl, rfl, trivial⟩ ?_
  exact lp_4 (b + 1) 0 0 (by omega) (by omega) rfl
def sp_ma (Γ : Nat → Nat → Nat → Int32) (i j : Nat) : Int32 := if Γ 12 7 j < Γ 12 7 i then 1 else if Γ 12 7 i = Γ 12 7 j then (if Γ 12 9 j ≤ Γ 12 9 i then 0 else 1) else 0
/-- the place of i among the model's bids that stand -/
def sp_place (Γ : Nat → Nat → Nat → Int32) (b i : Nat) : Int32 := sp_sum (fun j => if Γ 13 10 j = 0 then 0 else if sp_ma Γ j i = 0 then 0 else 1) b
/-- which district stands at a place -/
def sp_at (Γ : Nat → Nat → Nat → Int32) (b : Nat) (pl : Int32) : Nat → Int32
  | 0 => -1
  | j + 1 => if Γ 13 10 j = 0 then sp_at Γ b pl j else if sp_place Γ b j = pl then nI j else sp_at Γ b pl j
set_option maxRecDepth 100000 in
set_option maxHeartbeats 4000000 in
theorem c_X5_placeOf {l : Launch} (hlt : l.stackTraces = false) {N n p : Nat} {ord : List Nat} {L : Nat → Nat → Nat} {Γ : Nat → Nat → Nat → Int32} {o : Int64} {h : am_H} (w : WI N n p ord L Γ o h) {b : Nat} (hb : b ≤ 8) (en : Γ 11 0 3 = nI b) {i : Nat} (hi : i < 8) : am_Con l yX5_placeOf (.code yX5_placeOf cX5_placeOf 4 (some .int)) 2 0 0 [.ref (L 11 0), .int (nI i)] h (fun v h' => v = some (.int (sp_sum (fun j => if Γ 13 10 j = 0 then 0 else if sp_ma Γ j i = 0 then 0 else 1) b)) ∧ h' = h) (fun _ _ => False) := by
  refine am_body hlt (by decide +kernel) (Nat.le_of_ble_eq_true rfl) (fun k hl hR h0 hno => ?_)
  subst hl
  obtain ⟨Qf, hQ⟩ : ∃ Qf, Qf = am_Q k 0 0 (fun v h' => v = some (.int (sp_sum (fun j => if Γ 13 10 j = 0 then 0 else if sp_ma Γ j i = 0 then 0 else 1) b)) ∧ h' = h) (fun _ _ => False) := ⟨_, rfl⟩
  rw [← hQ]
  refine g_iconst (v := 0) dX5_placeOf_0 (by decide) ?_
  refine g_istore_n dX5_placeOf_1 (by decide) rfl ?_
  refine g_iconst (v := 0) dX5_placeOf_2 (by decide) ?_
  refine g_istore_n dX5_placeOf_3 (by decide) rfl ?_
  have lp_4 : ∀ (f : Nat) (j : Nat) (x : Int32), j ≤ b → b - j < f → x = sp_sum (fun j => if Γ 13 10 j = 0 then 0 else if sp_ma Γ j i = 0 then 0 else 1) j → am_G k RX5 yX5_placeOf.name cX5_placeOf 4 (some .int) 0 0 Qf 4 [(3, .int (nI j)), (2, .int x), (1, .int (nI i)), (0, .ref (L 11 0))] [] h := by
    intro f
    induction f with
    | zero => intro j x hj hf ex; omega
    | succ f ih =>
      intro j x hj hf ex
      refine g_iload_n dX5_placeOf_4 rfl ?_
      refine g_aload_n dX5_placeOf_5 rfl ?_
      refine w_getI w dX5_placeOf_6 fl_X5_93 rfl rfl (by first | rfl | assumption) ?_
      rw [en]
      refine gN_ge 44 dX5_placeOf_9 (by decide) (by omega) (by omega) (fun c_9 => ?_) (fun c_9 => ?_)
      · skip
        refine g_iload_n dX5_placeOf_44 rfl ?_
        rw [hQ]
        refine g_iret dX5_placeOf_45 rfl rfl (by decide) (by decide) ?_
        have ej : j = b := by omega
        subst ej
        exact ⟨by rw [ex], rfl⟩
      · skip
        refine g_iload_n dX5_placeOf_12 rfl ?_
        refine g_aload_n dX5_placeOf_13 rfl ?_
        refine w_getR w dX5_placeOf_14 fl_X5_28 rfl rfl (by first | rfl | assumption) rfl ?_
        refine g_iload_n dX5_placeOf_17 rfl ?_
        refine w_zald w dX5_placeOf_18 (by first | rfl | assumption) (by first | assumption | omega | (show _ < 8; omega) | (show _ < 24; omega) | (show _ < 9; omega)) ?_
        refine g_if_eq 35 dX5_placeOf_19 (by decide) (fun c_19 => ?_) (fun c_19 => ?_)
        · skip
          refine g_iconst (v := 0) dX5_placeOf_35 (by decide) ?_
          refine g_iadd dX5_placeOf_36 ?_
          refine g_istore_n dX5_placeOf_37 (by decide) rfl ?_
          refine g_iinc dX5_placeOf_38 rfl (nI_i1 _) (by decide) rfl ?_
          refine g_goto 4 dX5_placeOf_41 (by decide) ?_
          refine g_ls [(3, .int (nI (j + 1))), (2, .int _), (1, .int (nI i)), (0, .ref (L 11 0))] ⟨rfl, rfl, rfl, rfl, trivial⟩ ?_
          exact ih (j + 1) _ (by omega) (by omega) (by rw [ex]; simp only [sp_sum, reduceIte, c_9, c_19])
        · skip
          refine g_aload_n dX5_placeOf_22 rfl ?_
          refine g_iload_n dX5_placeOf_23 rfl ?_
          refine g_iload_n dX5_placeOf_24 rfl ?_
          refine g_callV [_, _] dX5_placeOf_25 mc_X5_134 mi_X5_isAhead se_X5_isAhead (c_X5_isAhead hlt w (by omega) hi) (w.k (by first | rfl | assumption)) rfl rfl (Nat.le_of_ble_eq_true rfl) (am_rm hR (by decide)) (fun _ _ z => z) (fun v hx hq hE => ?_)
          obtain ⟨rfl, rfl⟩ := hq
          rw [show (if Γ 12 7 i < Γ 12 7 j then (1 : Int32) else if Γ 12 7 j = Γ 12 7 i then (if Γ 12 9 i ≤ Γ 12 9 j then 0 else 1) else 0) = sp_ma Γ j i from rfl]
          refine g_if_eq 35 dX5_placeOf_28 (by decide) (fun c_28 => ?_) (fun c_28 => ?_)
          · skip
            refine g_iconst (v := 0) dX5_placeOf_35 (by decide) ?_
            refine g_iadd dX5_placeOf_36 ?_
            refine g_istore_n dX5_placeOf_37 (by decide) rfl ?_
            refine g_iinc dX5_placeOf_38 rfl (nI_i1 _) (by decide) rfl ?_
            refine g_goto 4 dX5_placeOf_41 (by decide) ?_
            refine g_ls [(3, .int (nI (j + 1))), (2, .int _), (1, .int (nI i)), (0, .ref (L 11 0))] ⟨rfl, rfl, rfl, rfl, trivial⟩ ?_
            exact ih (j + 1) _ (by omega) (by omega) (by rw [ex]; simp only [sp_sum, reduceIte, c_9, c_19, c_28])
          · skip
            refine g_iconst (v := 1) dX5_placeOf_31 (by decide) ?_
            refine g_goto 36 dX5_placeOf_32 (by decide) ?_
            refine g_iadd dX5_placeOf_36 ?_
            refine g_istore_n dX5_placeOf_37 (by decide) rfl ?_
            refine g_iinc dX5_placeOf_38 rfl (nI_i1 _) (by decide) rfl ?_
            refine g_goto 4 dX5_placeOf_41 (by decide) ?_
            refine g_ls [(3, .int (nI (j + 1))), (2, .int _), (1, .int (nI i)), (0, .ref (L 11 0))] ⟨rfl, rfl, rfl, rfl, trivial⟩ ?_
            exact ih (j + 1) _ (by omega) (by omega) (by rw [ex]; simp only [sp_sum, reduceIte, c_9, c_19, c_28])
  refine g_ls [(3, .int (nI 0)), (2, .int 0), (1, .int (nI i)), (0, .ref (L 11 0))] ⟨rfl, rfl, rfl, rfl, trivial⟩ ?_
  exact lp_4 (b + 1) 0 0 (by omega) (by omega) rfl
set_option maxRecDepth 100000 in
set_option maxHeartbeats 4000000 in
theorem c_X5_at {l : Launch} (hlt : l.stackTraces = false) {N n p : Nat} {ord : List Nat} {L : Nat → Nat → Nat} {Γ : Nat → Nat → Nat → Int32} {o : Int64} {h : am_H} (w : WI N n p ord L Γ o h) {b : Nat} (hb : b ≤ 8) (en : Γ 11 0 3 = nI b) (pl : Int32) : am_Con l yX5_at (.code yX5_at cX5_at 4 (some .int)) 3 0 0 [.ref (L 11 0), .int pl] h (fun v h' => v = some (.int (sp_at Γ b pl b)) ∧ h' = h) (fun _ _ => False) := by
  refine am_body hlt (by decide +kernel) (Nat.le_of_ble_eq_true rfl) (fun k hl hR h0 hno => ?_)
  subst hl
  obtain ⟨Qf, hQ⟩ : ∃ Qf, Qf = am_Q k 0 0 (fun v h' => v = some (.int (sp_at Γ b pl b)) ∧ h' = h) (fun _ _ => False) := ⟨_, rfl⟩
  rw [← hQ]
  refine g_iconst (v := (-1)) dX5_at_0 (by decide) ?_
  refine g_istore_n dX5_at_1 (by decide) rfl ?_
  refine g_iconst (v := 0) dX5_at_2 (by decide) ?_
  refine g_istore_n dX5_at_3 (by decide) rfl ?_
  have lp_4 : ∀ (f : Nat) (j : Nat) (x : Int32), j ≤ b → b - j < f → x = sp_at Γ b pl j → am_G k RX5 yX5_at.name cX5_at 4 (some .int) 0 0 Qf 4 [(3, .int (nI j)), (2, .int x), (1, .int pl), (0, .ref (L 11 0))] [] h := by
    intro f
    induction f with
    | zero => intro j x hj hf ex; omega
    | succ f ih =>
      intro j x hj hf ex
      refine g_iload_n dX5_at_4 rfl ?_
      refine g_aload_n dX5_at_5 rfl ?_
      refine w_getI w dX5_at_6 fl_X5_93 rfl rfl (by first | rfl | assumption) ?_
      rw [en]
      refine gN_ge 42 dX5_at_9 (by decide) (by omega) (by omega) (fun c_9 => ?_) (fun c_9 => ?_)
      · skip
        refine g_iload_n dX5_at_42 rfl ?_
        rw [hQ]
        refine g_iret dX5_at_43 rfl rfl (by decide) (by decide) ?_
        have ej : j = b := by omega
        subst ej
        exact ⟨by rw [ex], rfl⟩
      · skip
        refine g_aload_n dX5_at_12 rfl ?_
        refine w_getR w dX5_at_13 fl_X5_28 rfl rfl (by first | rfl | assumption) rfl ?_
        refine g_iload_n dX5_at_16 rfl ?_
        refine w_zald w dX5_at_17 (by first | rfl | assumption) (by first | assumption | omega | (show _ < 8; omega) | (show _ < 24; omega) | (show _ < 9; omega)) ?_
        refine g_if_eq 34 dX5_at_18 (by decide) (fun c_18 => ?_) (fun c_18 => ?_)
        · skip
          refine g_iload_n dX5_at_34 rfl ?_
          refine g_istore_n dX5_at_35 (by decide) rfl ?_
          refine g_iinc dX5_at_36 rfl (nI_i1 _) (by decide) rfl ?_
          refine g_goto 4 dX5_at_39 (by decide) ?_
          refine g_ls [(3, .int (nI (j + 1))), (2, .int _), (1, .int pl), (0, .ref (L 11 0))] ⟨rfl, rfl, rfl, rfl, trivial⟩ ?_
          exact ih (j + 1) _ (by omega) (by omega) (by first | (simp only [sp_at, reduceIte, c_9, c_18]; done) | (rw [ex]; simp only [sp_at, reduceIte, c_9, c_18]))
        · skip
          refine g_aload_n dX5_at_21 rfl ?_
          refine g_iload_n dX5_at_22 rfl ?_
          refine g_callV [_] dX5_at_23 mc_X5_138 mi_X5_placeOf se_X5_placeOf (c_X5_placeOf hlt w hb en (by omega)) (w.k (by first | rfl | assumption)) rfl rfl (Nat.le_of_ble_eq_true rfl) (am_rm hR (by decide)) (fun _ _ z => z) (fun v hx hq hE => ?_)
          obtain ⟨rfl, rfl⟩ := hq
          rw [show sp_sum (fun j_1 => if Γ 13 10 j_1 = 0 then (0 : Int32) else if sp_ma Γ j_1 j = 0 then 0 else 1) b = sp_place Γ b j from rfl]
          refine g_iload_n dX5_at_26 rfl ?_
          refine g_icmp_ne 34 dX5_at_27 (by decide) (fun c_27 => ?_) (fun c_27 => ?_)
          · skip
            refine g_iload_n dX5_at_34 rfl ?_
            refine g_istore_n dX5_at_35 (by decide) rfl ?_
            refine g_iinc dX5_at_36 rfl (nI_i1 _) (by decide) rfl ?_
            refine g_goto 4 dX5_at_39 (by decide) ?_
            refine g_ls [(3, .int (nI (j + 1))), (2, .int _), (1, .int pl), (0, .ref (L 11 0))] ⟨rfl, rfl, rfl, rfl, trivial⟩ ?_
            exact ih (j + 1) _ (by omega) (by omega) (by first | (simp only [sp_at, reduceIte, c_9, c_18, c_27]; done) | (rw [ex]; simp only [sp_at, reduceIte, c_9, c_18, c_27]))
          · skip
            refine g_iload_n dX5_at_30 rfl ?_
            refine g_goto 35 dX5_at_31 (by decide) ?_
            refine g_istore_n dX5_at_35 (by decide) rfl ?_
            refine g_iinc dX5_at_36 rfl (nI_i1 _) (by decide) rfl ?_
            refine g_goto 4 dX5_at_39 (by decide) ?_
            refine g_ls [(3, .int (nI (j + 1))), (2, .int _), (1, .int pl), (0, .ref (L 11 0))] ⟨rfl, rfl, rfl, rfl, trivial⟩ ?_
            exact ih (j + 1) _ (by omega) (by omega) (by first | (simp only [sp_at, reduceIte, c_9, c_18, c_27]; done) | (rw [ex]; simp only [sp_at, reduceIte, c_9, c_18, c_27]))
  refine g_ls [(3, .int (nI 0)), (2, .int (-1)), (1, .int pl), (0, .ref (L 11 0))] ⟨rfl, rfl, rfl, rfl, trivial⟩ ?_
  exact lp_4 (b + 1) 0 (-1) (by omega) (by omega) rfl
def sp_dry (q : Nat) (Γ : Nat → Nat → Nat → Int32) : Nat → Nat → Nat → Int32 := sp_it (fun k Γ => u3 Γ 12 29 k 0) q (u3 Γ 11 0 30 0)
theorem sp_dry_s (Γ : Nat → Nat → Nat → Int32) (m : Nat) {c i j : Nat} (h : c ≠ 12) (h2 : c ≠ 11 ∨ j ≠ 30) : sp_dry m Γ c i j = Γ c i j := by
  unfold sp_dry
  rw [sp_it_pres (fun k Γ => by rw [u3_ap, if_neg (fun z => h z.1)])]
  rw [u3_ap, if_neg]
  omega
set_option maxRecDepth 100000 in
set_option maxHeartbeats 4000000 in
theorem c_X5_dries {l : Launch} (hlt : l.stackTraces = false) {N n p : Nat} {ord : List Nat} {L : Nat → Nat → Nat} {Γ : Nat → Nat → Nat → Int32} {o : Int64} {h : am_H} (w : WI N n p ord L Γ o h) {q : Nat} (hq : q ≤ 24) (ep : Γ 11 0 24 = nI q) : am_Con l yX5_dries (.code yX5_dries cX5_dries 2 none) 1 0 0 [.ref (L 11 0)] h (fun v h' => v = none ∧ WI N n p ord L (sp_dry q Γ) o h') (fun _ _ => False) := by
  refine am_body hlt (by decide +kernel) (Nat.le_of_ble_eq_true rfl) (fun k hl hR h0 hno => ?_)
  subst hl
  obtain ⟨Qf, hQ⟩ : ∃ Qf, Qf = am_Q k 0 0 (fun v h' => v = none ∧ WI N n p ord L (sp_dry q Γ) o h') (fun _ _ => False) := ⟨_, rfl⟩
  rw [← hQ]
  refine g_aload_n dX5_dries_0 rfl ?_
  refine g_iconst (v := 0) dX5_dries_1 (by decide) ?_
  refine w_putI w dX5_dries_2 fl_X5_116 rfl rfl (by decide) (fun q hq => by cases hq; rfl) (by first | rfl | assumption) rfl rfl (fun h1 w1 => ?_)
  refine g_iconst (v := 0) dX5_dries_5 (by decide) ?_
  refine g_istore_n dX5_dries_6 (by decide) rfl ?_
  have lp_7 : ∀ (f : Nat) (j : Nat) (h' : am_H), j ≤ q → q - j < f → WI N n p ord L (sp_it (fun k Γ => u3 Γ 12 29 k 0) j (u3 Γ 11 0 30 0)) o h' → am_G k RX5 yX5_dries.name cX5_dries 2 none 0 0 Qf 7 [(1, .int (nI j)), (0, .ref (L 11 0))] [] h' := by
    intro f
    induction f with
    | zero => intro j h' hj hf w'; omega
    | succ f ih =>
      intro j h' hj hf w'
      refine g_iload_n dX5_dries_7 rfl ?_
      refine g_aload_n dX5_dries_8 rfl ?_
      refine w_getI w' dX5_dries_9 fl_X5_100 rfl rfl (by first | rfl | assumption) ?_
      rw [show (sp_it (fun k Γ => u3 Γ 12 29 k 0) j (u3 Γ 11 0 30 0)) 11 0 24 = nI q from (sp_dry_s Γ j (by decide) (by decide)).trans ep]
      refine gN_ge 28 dX5_dries_12 (by decide) (by omega) (by omega) (fun c_12 => ?_) (fun c_12 => ?_)
      · skip
        rw [hQ]
        refine g_vret dX5_dries_28 rfl (by decide) (by decide) ?_
        have ej : j = q := by omega
        subst ej
        exact ⟨rfl, w'⟩
      · skip
        refine g_aload_n dX5_dries_15 rfl ?_
        refine w_getR w' dX5_dries_16 fl_X5_77 rfl rfl (by first | rfl | assumption) rfl ?_
        refine g_iload_n dX5_dries_19 rfl ?_
        refine g_iconst (v := 0) dX5_dries_20 (by decide) ?_
        refine w_ast w' dX5_dries_21 (by decide) (by first | rfl | assumption) (by first | assumption | omega | (show _ < 8; omega) | (show _ < 24; omega) | (show _ < 9; omega)) (fun h22 w22 => ?_)
        refine g_iinc dX5_dries_22 rfl (nI_i1 _) (by decide) rfl ?_
        refine g_goto 7 dX5_dries_25 (by decide) ?_
        refine g_ls [(1, .int (nI (j + 1))), (0, .ref (L 11 0))] ⟨rfl, rfl, trivial⟩ ?_
        exact ih (j + 1) _ (by omega) (by omega) w22
  refine g_ls [(1, .int (nI 0)), (0, .ref (L 11 0))] ⟨rfl, rfl, trivial⟩ ?_
  exact lp_7 (q + 1) 0 _ (by omega) (by omega) w1
end
section
theorem WI.len {N n p : Nat} {ord : List Nat} {L : Nat → Nat → Nat} {Γ : Nat → Nat → Nat → Int32} {o : Int64} {h : am_H} (w : WI N n p ord L Γ o h) {t : Nat} (ht : t < 3) : (wls n p ord t).length ≤ 24 := by
  obtain ⟨w0, -⟩ := w
  match t, ht with
  | 0, _ => show (List.range n).length ≤ 24; rw [List.length_range]; omega
  | 1, _ => show ord.length ≤ 24; omega
  | 2, _ => show (List.range p).length ≤ 24; rw [List.length_range]; omega
set_option maxRecDepth 100000 in
set_option maxHeartbeats 4000000 in
theorem c_size {l : Launch} (hlt : l.stackTraces = false) {N n p : Nat} {ord : List Nat} {L : Nat → Nat → Nat} {Γ : Nat → Nat → Nat → Int32} {o : Int64} {h : am_H} (w : WI N n p ord L Γ o h) {t : Nat} (ht : t < 3) : am_Con l yJx4a65c_size_8abf5 (.code yJx4a65c_size_8abf5 cJx4a65c_size_8abf5 1 (some .int)) 1 0 0 [.ref (L 6 t)] h (fun v h' => v = some (.int (nI (wls n p ord t).length)) ∧ h' = h) (fun _ _ => False) := by
  refine am_body hlt (by decide +kernel) (Nat.le_of_ble_eq_true rfl) (fun k hl hR h0 hno => ?_)
  subst hl
  obtain ⟨Qf, hQ⟩ : ∃ Qf, Qf = am_Q k 0 0 (fun v h' => v = some (.int (nI (wls n p ord t).length)) ∧ h' = h) (fun _ _ => False) := ⟨_, rfl⟩
  rw [← hQ]
  have hk : wdm n p 6 t = true := decide_eq_true ht
  refine g_aload_n dJx4a65c_size_8abf5_0 rfl ?_
  refine g_getI dJx4a65c_size_8abf5_1 fl_AL_48 rfl (w.k hk) ?_
  rw [(w.2.2.2.2.2.2.1 t ht).1]
  rw [hQ]
  refine g_iret dJx4a65c_size_8abf5_4 rfl rfl (by decide) (by decide) ?_
  exact ⟨rfl, rfl⟩
set_option maxRecDepth 100000 in
set_option maxHeartbeats 4000000 in
theorem c_checkIndex3 {l : Launch} (hlt : l.stackTraces = false) {h : am_H} {i m : Nat} (hi : i < m) (hm : m < 2 ^ 31) : am_Con l yJ3_checkIndex_8e157 (.code yJ3_checkIndex_8e157 cJ3_checkIndex_8e157 3 (some .int)) 1 0 0 [.int (nI i), .int (nI m), .null] h (fun v h' => v = some (.int (nI i)) ∧ h' = h) (fun _ _ => False) := by
  refine am_body hlt (by decide +kernel) (Nat.le_of_ble_eq_true rfl) (fun k hl hR h0 hno => ?_)
  subst hl
  obtain ⟨Qf, hQ⟩ : ∃ Qf, Qf = am_Q k 0 0 (fun v h' => v = some (.int (nI i)) ∧ h' = h) (fun _ _ => False) := ⟨_, rfl⟩
  rw [← hQ]
  refine g_iload_n dJ3_checkIndex_8e157_0 rfl ?_
  refine g_if_lt 9 dJ3_checkIndex_8e157_1 (by decide) (fun z => absurd z (nI_pos (by omega))) (fun c_1 => ?_)
  refine g_iload_n dJ3_checkIndex_8e157_4 rfl ?_
  refine g_iload_n dJ3_checkIndex_8e157_5 rfl ?_
  refine gN_lt 16 dJ3_checkIndex_8e157_6 (by decide) (by omega) (by omega) (fun c_6 => ?_) (fun z => absurd hi (by omega))
  refine g_iload_n dJ3_checkIndex_8e157_16 rfl ?_
  rw [hQ]
  refine g_iret dJ3_checkIndex_8e157_17 rfl rfl (by decide) (by decide) ?_
  exact ⟨rfl, rfl⟩
set_option maxRecDepth 100000 in
set_option maxHeartbeats 4000000 in
theorem c_checkIndex {l : Launch} (hlt : l.stackTraces = false) {h : am_H} {i m : Nat} (hi : i < m) (hm : m < 2 ^ 31) : am_Con l yJ15_checkIndex_7cf53 (.code yJ15_checkIndex_7cf53 cJ15_checkIndex_7cf53 2 (some .int)) 2 0 0 [.int (nI i), .int (nI m)] h (fun v h' => v = some (.int (nI i)) ∧ h' = h) (fun _ _ => False) := by
  refine am_body hlt (by decide +kernel) (Nat.le_of_ble_eq_true rfl) (fun k hl hR h0 hno => ?_)
  subst hl
  obtain ⟨Qf, hQ⟩ : ∃ Qf, Qf = am_Q k 0 0 (fun v h' => v = some (.int (nI i)) ∧ h' = h) (fun _ _ => False) := ⟨_, rfl⟩
  rw [← hQ]
  refine g_iload_n dJ15_checkIndex_7cf53_0 rfl ?_
  refine g_iload_n dJ15_checkIndex_7cf53_1 rfl ?_
  refine g_null dJ15_checkIndex_7cf53_2 ?_
  refine g_callS [_, _, _] dJ15_checkIndex_7cf53_3 mc_JO_105 ms_J3_checkIndex_8e157 (c_checkIndex3 hlt hi hm) rfl (Nat.le_of_ble_eq_true rfl) (am_rm hR (by decide)) (fun _ _ z => z) (fun v hx hq hE => ?_)
  obtain ⟨rfl, rfl⟩ := hq
  rw [hQ]
  refine g_iret dJ15_checkIndex_7cf53_6 rfl rfl (by decide) (by decide) ?_
  exact ⟨rfl, rfl⟩
set_option maxRecDepth 100000 in
set_option maxHeartbeats 4000000 in
theorem c_elementData {l : Launch} (hlt : l.stackTraces = false) {N n p : Nat} {ord : List Nat} {L : Nat → Nat → Nat} {Γ : Nat → Nat → Nat → Int32} {o : Int64} {h : am_H} (w : WI N n p ord L Γ o h) {t : Nat} (ht : t < 3) {j : Nat} (hj : j < (wls n p ord t).length) : am_Con l yJx4a65c_elementData_915e3 (.code yJx4a65c_elementData_915e3 cJx4a65c_elementData_915e3 2 (some (.object "java/lang/Object"))) 1 0 0 [.ref (L 6 t), .int (nI j)] h (fun v h' => v = some (.ref (L (wec t) ((wls n p ord t)[j]))) ∧ h' = h) (fun _ _ => False) := by
  refine am_body hlt (by decide +kernel) (Nat.le_of_ble_eq_true rfl) (fun k hl hR h0 hno => ?_)
  subst hl
  obtain ⟨Qf, hQ⟩ : ∃ Qf, Qf = am_Q k 0 0 (fun v h' => v = some (.ref (L (wec t) ((wls n p ord t)[j]))) ∧ h' = h) (fun _ _ => False) := ⟨_, rfl⟩
  rw [← hQ]
  have hk : wdm n p 6 t = true := decide_eq_true ht
  have hlen := w.len ht
  obtain ⟨l1, l2, l3, l4, -⟩ := w.2.2.2.2.2.2.1 t ht
  have l3' : am_K h (L 7 t) = 13 ∧ (wls n p ord t).length ≤ am_N h (L 7 t) ∧ am_N h (L 7 t) ≤ 100 := by
    rcases l3 with z | ⟨-, z, -⟩
    · exact z
    · rw [z] at hj
      exact absurd hj (Nat.not_lt_zero _)
  refine g_aload_n dJx4a65c_elementData_915e3_0 rfl ?_
  refine g_getR dJx4a65c_elementData_915e3_1 fl_AL_9 rfl (w.k hk) l2 ?_
  refine g_iload_n dJx4a65c_elementData_915e3_4 rfl ?_
  refine g_oald dJx4a65c_elementData_915e3_5 l3'.1 (vp_in_nI (by omega) (by omega)) ?_
  rw [nI_clamp (by omega), l4 j hj]
  rw [hQ]
  exact g_aret (r := some _) dJx4a65c_elementData_915e3_6 rfl (Or.inl ⟨_, rfl⟩) (by decide) (by decide) ⟨rfl, rfl⟩
set_option maxRecDepth 100000 in
set_option maxHeartbeats 4000000 in
theorem c_get {l : Launch} (hlt : l.stackTraces = false) {N n p : Nat} {ord : List Nat} {L : Nat → Nat → Nat} {Γ : Nat → Nat → Nat → Int32} {o : Int64} {h : am_H} (w : WI N n p ord L Γ o h) {t : Nat} (ht : t < 3) {j : Nat} (hj : j < (wls n p ord t).length) : am_Con l yJx4a65c_get_915e3 (.code yJx4a65c_get_915e3 cJx4a65c_get_915e3 2 (some (.object "java/lang/Object"))) 3 0 0 [.ref (L 6 t), .int (nI j)] h (fun v h' => v = some (.ref (L (wec t) ((wls n p ord t)[j]))) ∧ h' = h) (fun _ _ => False) := by
  refine am_body hlt (by decide +kernel) (Nat.le_of_ble_eq_true rfl) (fun k hl hR h0 hno => ?_)
  subst hl
  obtain ⟨Qf, hQ⟩ : ∃ Qf, Qf = am_Q k 0 0 (fun v h' => v = some (.ref (L (wec t) ((wls n p ord t)[j]))) ∧ h' = h) (fun _ _ => False) := ⟨_, rfl⟩
  rw [← hQ]
  have hk : wdm n p 6 t = true := decide_eq_true ht
  have hlen := w.len ht
  refine g_iload_n dJx4a65c_get_915e3_0 rfl ?_
  refine g_aload_n dJx4a65c_get_915e3_1 rfl ?_
  refine g_getI dJx4a65c_get_915e3_2 fl_AL_48 rfl (w.k hk) ?_
  rw [(w.2.2.2.2.2.2.1 t ht).1]
  refine g_callS [_, _] dJx4a65c_get_915e3_5 mc_AL_118 ms_J15_checkIndex_7cf53 (c_checkIndex hlt hj (by omega)) rfl (Nat.le_of_ble_eq_true rfl) (am_rm hR (by decide)) (fun _ _ z => z) (fun v hx hq hE => ?_)
  obtain ⟨rfl, rfl⟩ := hq
  refine g_pop dJx4a65c_get_915e3_8 rfl ?_
  refine g_aload_n dJx4a65c_get_915e3_9 rfl ?_
  refine g_iload_n dJx4a65c_get_915e3_10 rfl ?_
  refine g_callV [_] dJx4a65c_get_915e3_11 mc_AL_123 mi_Jx4a65c_elementData_915e3 se_Jx4a65c_elementData_915e3 (c_elementData hlt w ht hj) (w.k (by first | rfl | assumption)) rfl rfl (Nat.le_of_ble_eq_true rfl) (am_rm hR (by decide)) (fun _ _ z => z) (fun v hx hq hE => ?_)
  obtain ⟨rfl, rfl⟩ := hq
  rw [hQ]
  exact g_aret (r := some _) dJx4a65c_get_915e3_14 rfl (Or.inl ⟨_, rfl⟩) (by decide) (by decide) ⟨rfl, rfl⟩
theorem c_get0 {l : Launch} (hlt : l.stackTraces = false) {N n p : Nat} {ord : List Nat} {L : Nat → Nat → Nat} {Γ : Nat → Nat → Nat → Int32} {o : Int64} {h : am_H} (w : WI N n p ord L Γ o h) {j : Nat} (hj : j < n) : am_Con l yJx4a65c_get_915e3 (.code yJx4a65c_get_915e3 cJx4a65c_get_915e3 2 (some (.object "java/lang/Object"))) 3 0 0 [.ref (L 6 0), .int (nI j)] h (fun v h' => v = some (.ref (L 2 j)) ∧ h' = h) (fun _ _ => False) := by
  have := c_get hlt w (t := 0) (by decide) (j := j) (by show j < (List.range n).length; rw [List.length_range]; exact hj)
  simpa [wls, wec] using this
theorem c_get2 {l : Launch} (hlt : l.stackTraces = false) {N n p : Nat} {ord : List Nat} {L : Nat → Nat → Nat} {Γ : Nat → Nat → Nat → Int32} {o : Int64} {h : am_H} (w : WI N n p ord L Γ o h) {j : Nat} (hj : j < p) : am_Con l yJx4a65c_get_915e3 (.code yJx4a65c_get_915e3 cJx4a65c_get_915e3 2 (some (.object "java/lang/Object"))) 3 0 0 [.ref (L 6 2), .int (nI j)] h (fun v h' => v = some (.ref (L 4 j)) ∧ h' = h) (fun _ _ => False) := by
  have := c_get hlt w (t := 2) (by decide) (j := j) (by show j < (List.range p).length; rw [List.length_range]; exact hj)
  simpa [wls, wec] using this
theorem c_get1 {l : Launch} (hlt : l.stackTraces = false) {N n p : Nat} {ord : List Nat} {L : Nat → Nat → Nat} {Γ : Nat → Nat → Nat → Int32} {o : Int64} {h : am_H} (w : WI N n p ord L Γ o h) {j : Nat} (hj : j < ord.length) : am_Con l yJx4a65c_get_915e3 (.code yJx4a65c_get_915e3 cJx4a65c_get_915e3 2 (some (.object "java/lang/Object"))) 3 0 0 [.ref (L 6 1), .int (nI j)] h (fun v h' => v = some (.ref (L 2 (ord.getD j 0))) ∧ h' = h) (fun _ _ => False) := by
  have := c_get hlt w (t := 1) (by decide) (j := j) hj
  rw [show ord.getD j 0 = ord[j] from by rw [List.getD_eq_getElem?_getD, List.getElem?_eq_getElem hj]; rfl]
  exact this
theorem c_size0 {l : Launch} (hlt : l.stackTraces = false) {N n p : Nat} {ord : List Nat} {L : Nat → Nat → Nat} {Γ : Nat → Nat → Nat → Int32} {o : Int64} {h : am_H} (w : WI N n p ord L Γ o h) : am_Con l yJx4a65c_size_8abf5 (.code yJx4a65c_size_8abf5 cJx4a65c_size_8abf5 1 (some .int)) 1 0 0 [.ref (L 6 0)] h (fun v h' => v = some (.int (nI n)) ∧ h' = h) (fun _ _ => False) := by
  have := c_size hlt w (t := 0) (by decide)
  simpa [wls] using this
theorem c_size1 {l : Launch} (hlt : l.stackTraces = false) {N n p : Nat} {ord : List Nat} {L : Nat → Nat → Nat} {Γ : Nat → Nat → Nat → Int32} {o : Int64} {h : am_H} (w : WI N n p ord L Γ o h) : am_Con l yJx4a65c_size_8abf5 (.code yJx4a65c_size_8abf5 cJx4a65c_size_8abf5 1 (some .int)) 1 0 0 [.ref (L 6 1)] h (fun v h' => v = some (.int (nI ord.length)) ∧ h' = h) (fun _ _ => False) := c_size hlt w (t := 1) (by decide)
theorem c_size2 {l : Launch} (hlt : l.stackTraces = false) {N n p : Nat} {ord : List Nat} {L : Nat → Nat → Nat} {Γ : Nat → Nat → Nat → Int32} {o : Int64} {h : am_H} (w : WI N n p ord L Γ o h) : am_Con l yJx4a65c_size_8abf5 (.code yJx4a65c_size_8abf5 cJx4a65c_size_8abf5 1 (some .int)) 1 0 0 [.ref (L 6 2)] h (fun v h' => v = some (.int (nI p)) ∧ h' = h) (fun _ _ => False) := by
  have := c_size hlt w (t := 2) (by decide)
  simpa [wls] using this
end
section
set_option maxRecDepth 100000 in
set_option maxHeartbeats 4000000 in
theorem c_isOutside_0 {l : Launch} (hlt : l.stackTraces = false) {h : am_H} {a lo hi : Int32} (h1 : ¬ a < lo) (h2 : a ≤ hi) : am_Con l yX4_isOutside (.code yX4_isOutside cX4_isOutside 3 (some .boolean)) 1 0 0 [.int a, .int lo, .int hi] h (fun v h' => v = some (.int 0) ∧ h' = h) (fun _ _ => False) := by
  refine am_body hlt (by decide +kernel) (Nat.le_of_ble_eq_true rfl) (fun k hl hR h0 hno => ?_)
  subst hl
  obtain ⟨Qf, hQ⟩ : ∃ Qf, Qf = am_Q k 0 0 (fun v h' => v = some (.int 0) ∧ h' = h) (fun _ _ => False) := ⟨_, rfl⟩
  rw [← hQ]
  refine g_iload_n dX4_isOutside_0 rfl ?_
  refine g_iload_n dX4_isOutside_1 rfl ?_
  refine g_icmp_lt 10 dX4_isOutside_2 (by decide) (fun z => absurd z h1) (fun c_2 => ?_)
  refine g_iload_n dX4_isOutside_5 rfl ?_
  refine g_iload_n dX4_isOutside_6 rfl ?_
  refine g_icmp_le 14 dX4_isOutside_7 (by decide) (fun c_7 => ?_) (fun z => absurd h2 z)
  refine g_iconst (v := 0) dX4_isOutside_14 (by decide) ?_
  rw [hQ]
  refine g_iret dX4_isOutside_15 rfl rfl (by decide) (by decide) ?_
  exact ⟨rfl, rfl⟩
set_option maxRecDepth 100000 in
set_option maxHeartbeats 4000000 in
theorem c_isOutside_1 {l : Launch} (hlt : l.stackTraces = false) {h : am_H} {a lo hi : Int32} (hb : a < lo ∨ ¬ a ≤ hi) : am_Con l yX4_isOutside (.code yX4_isOutside cX4_isOutside 3 (some .boolean)) 1 0 0 [.int a, .int lo, .int hi] h (fun v h' => v = some (.int 1) ∧ h' = h) (fun _ _ => False) := by
  refine am_body hlt (by decide +kernel) (Nat.le_of_ble_eq_true rfl) (fun k hl hR h0 hno => ?_)
  subst hl
  obtain ⟨Qf, hQ⟩ : ∃ Qf, Qf = am_Q k 0 0 (fun v h' => v = some (.int 1) ∧ h' = h) (fun _ _ => False) := ⟨_, rfl⟩
  rw [← hQ]
  refine g_iload_n dX4_isOutside_0 rfl ?_
  refine g_iload_n dX4_isOutside_1 rfl ?_
  refine g_icmp_lt 10 dX4_isOutside_2 (by decide) (fun c_2 => ?_) (fun c_2 => ?_)
  · skip
    refine g_iconst (v := 1) dX4_isOutside_10 (by decide) ?_
    refine g_goto 15 dX4_isOutside_11 (by decide) ?_
    rw [hQ]
    refine g_iret dX4_isOutside_15 rfl rfl (by decide) (by decide) ?_
    exact ⟨rfl, rfl⟩
  · skip
    refine g_iload_n dX4_isOutside_5 rfl ?_
    refine g_iload_n dX4_isOutside_6 rfl ?_
    refine g_icmp_le 14 dX4_isOutside_7 (by decide) (fun c_7 => ?_) (fun c_7 => ?_)
    · skip
      exact absurd hb (by intro z; rcases z with z | z; exact c_2 z; exact z c_7)
    · skip
      refine g_iconst (v := 1) dX4_isOutside_10 (by decide) ?_
      refine g_goto 15 dX4_isOutside_11 (by decide) ?_
      rw [hQ]
      refine g_iret dX4_isOutside_15 rfl rfl (by decide) (by decide) ?_
      exact ⟨rfl, rfl⟩
set_option maxRecDepth 100000 in
set_option maxHeartbeats 4000000 in
theorem c_isNoDistrict_0 {l : Launch} (hlt : l.stackTraces = false) {N n p : Nat} {ord : List Nat} {L : Nat → Nat → Nat} {Γ : Nat → Nat → Nat → Int32} {o : Int64} {h : am_H} (w : WI N n p ord L Γ o h) {i : Nat} (hi : i < n) : am_Con l yX4_isNoDistrict (.code yX4_isNoDistrict cX4_isNoDistrict 2 (some .boolean)) 2 0 0 [.ref (L 5 0), .int (nI i)] h (fun v h' => v = some (.int 0) ∧ h' = h) (fun _ _ => False) := by
  refine am_body hlt (by decide +kernel) (Nat.le_of_ble_eq_true rfl) (fun k hl hR h0 hno => ?_)
  subst hl
  obtain ⟨Qf, hQ⟩ : ∃ Qf, Qf = am_Q k 0 0 (fun v h' => v = some (.int 0) ∧ h' = h) (fun _ _ => False) := ⟨_, rfl⟩
  rw [← hQ]
  have hx0 : wdm n p 5 0 = true := rfl
  have hn8 : n ≤ 8 := w.1.1
  have hp24 : p ≤ 24 := w.1.2.1
  have ho8 : ord.length ≤ 8 := w.1.2.2.2.2
  refine g_iload_n dX4_isNoDistrict_0 rfl ?_
  refine g_if_lt 15 dX4_isNoDistrict_1 (by decide) (fun z => absurd z (nI_pos (by omega))) (fun c_1 => ?_)
  refine g_iload_n dX4_isNoDistrict_4 rfl ?_
  refine g_aload_n dX4_isNoDistrict_5 rfl ?_
  refine w_getR w dX4_isNoDistrict_6 fl_X4_12 rfl rfl (by first | rfl | assumption) rfl ?_
  refine g_callV [] dX4_isNoDistrict_9 mc_X4_57 mi_Jx4a65c_size_8abf5 se_Jx4a65c_size_8abf5 (c_size0 hlt w) (w.k (by first | rfl | assumption)) rfl rfl (Nat.le_of_ble_eq_true rfl) (am_rm hR (by decide)) (fun _ _ z => z) (fun v hx hq hE => ?_)
  obtain ⟨rfl, rfl⟩ := hq
  refine gN_lt 19 dX4_isNoDistrict_12 (by decide) (by omega) (by omega) (fun c_12 => ?_) (fun z => absurd hi (by omega))
  refine g_iconst (v := 0) dX4_isNoDistrict_19 (by decide) ?_
  rw [hQ]
  refine g_iret dX4_isNoDistrict_20 rfl rfl (by decide) (by decide) ?_
  exact ⟨rfl, rfl⟩
set_option maxRecDepth 100000 in
set_option maxHeartbeats 4000000 in
theorem c_isNoDistrict_1 {l : Launch} (hlt : l.stackTraces = false) {N n p : Nat} {ord : List Nat} {L : Nat → Nat → Nat} {Γ : Nat → Nat → Nat → Int32} {o : Int64} {h : am_H} (w : WI N n p ord L Γ o h) {a : Int32} (hb : a < 0 ∨ nI n ≤ a) : am_Con l yX4_isNoDistrict (.code yX4_isNoDistrict cX4_isNoDistrict 2 (some .boolean)) 2 0 0 [.ref (L 5 0), .int a] h (fun v h' => v = some (.int 1) ∧ h' = h) (fun _ _ => False) := by
  refine am_body hlt (by decide +kernel) (Nat.le_of_ble_eq_true rfl) (fun k hl hR h0 hno => ?_)
  subst hl
  obtain ⟨Qf, hQ⟩ : ∃ Qf, Qf = am_Q k 0 0 (fun v h' => v = some (.int 1) ∧ h' = h) (fun _ _ => False) := ⟨_, rfl⟩
  rw [← hQ]
  have hx0 : wdm n p 5 0 = true := rfl
  have hn8 : n ≤ 8 := w.1.1
  have hp24 : p ≤ 24 := w.1.2.1
  have ho8 : ord.length ≤ 8 := w.1.2.2.2.2
  refine g_iload_n dX4_isNoDistrict_0 rfl ?_
  refine g_if_lt 15 dX4_isNoDistrict_1 (by decide) (fun c_1 => ?_) (fun c_1 => ?_)
  · skip
    refine g_iconst (v := 1) dX4_isNoDistrict_15 (by decide) ?_
    refine g_goto 20 dX4_isNoDistrict_16 (by decide) ?_
    rw [hQ]
    refine g_iret dX4_isNoDistrict_20 rfl rfl (by decide) (by decide) ?_
    exact ⟨rfl, rfl⟩
  · skip
    refine g_iload_n dX4_isNoDistrict_4 rfl ?_
    refine g_aload_n dX4_isNoDistrict_5 rfl ?_
    refine w_getR w dX4_isNoDistrict_6 fl_X4_12 rfl rfl (by first | rfl | assumption) rfl ?_
    refine g_callV [] dX4_isNoDistrict_9 mc_X4_57 mi_Jx4a65c_size_8abf5 se_Jx4a65c_size_8abf5 (c_size0 hlt w) (w.k (by first | rfl | assumption)) rfl rfl (Nat.le_of_ble_eq_true rfl) (am_rm hR (by decide)) (fun _ _ z => z) (fun v hx hq hE => ?_)
    obtain ⟨rfl, rfl⟩ := hq
    refine g_icmp_lt 19 dX4_isNoDistrict_12 (by decide) (fun c_12 => ?_) (fun c_12 => ?_)
    · skip
      exact absurd hb (by intro z; rcases z with z | z; exact c_1 z; exact (Int32.not_lt.mpr z) c_12)
    · skip
      refine g_iconst (v := 1) dX4_isNoDistrict_15 (by decide) ?_
      refine g_goto 20 dX4_isNoDistrict_16 (by decide) ?_
      rw [hQ]
      refine g_iret dX4_isNoDistrict_20 rfl rfl (by decide) (by decide) ?_
      exact ⟨rfl, rfl⟩
set_option maxRecDepth 100000 in
set_option maxHeartbeats 4000000 in
theorem c_isNoPipe_0 {l : Launch} (hlt : l.stackTraces = false) {N n p : Nat} {ord : List Nat} {L : Nat → Nat → Nat} {Γ : Nat → Nat → Nat → Int32} {o : Int64} {h : am_H} (w : WI N n p ord L Γ o h) {i : Nat} (hi : i < p) : am_Con l yX4_isNoPipe (.code yX4_isNoPipe cX4_isNoPipe 2 (some .boolean)) 2 0 0 [.ref (L 5 0), .int (nI i)] h (fun v h' => v = some (.int 0) ∧ h' = h) (fun _ _ => False) := by
  refine am_body hlt (by decide +kernel) (Nat.le_of_ble_eq_true rfl) (fun k hl hR h0 hno => ?_)
  subst hl
  obtain ⟨Qf, hQ⟩ : ∃ Qf, Qf = am_Q k 0 0 (fun v h' => v = some (.int 0) ∧ h' = h) (fun _ _ => False) := ⟨_, rfl⟩
  rw [← hQ]
  have hx0 : wdm n p 5 0 = true := rfl
  have hn8 : n ≤ 8 := w.1.1
  have hp24 : p ≤ 24 := w.1.2.1
  have ho8 : ord.length ≤ 8 := w.1.2.2.2.2
  refine g_iload_n dX4_isNoPipe_0 rfl ?_
  refine g_if_lt 18 dX4_isNoPipe_1 (by decide) (fun z => absurd z (nI_pos (by omega))) (fun c_1 => ?_)
  refine g_iload_n dX4_isNoPipe_4 rfl ?_
  refine g_aload_n dX4_isNoPipe_5 rfl ?_
  refine w_getR w dX4_isNoPipe_6 fl_X4_19 rfl rfl (by first | rfl | assumption) rfl ?_
  refine w_getR w dX4_isNoPipe_9 fl_X4_86 rfl rfl (by first | rfl | assumption) rfl ?_
  refine g_callV [] dX4_isNoPipe_12 mc_X4_57 mi_Jx4a65c_size_8abf5 se_Jx4a65c_size_8abf5 (c_size2 hlt w) (w.k (by first | rfl | assumption)) rfl rfl (Nat.le_of_ble_eq_true rfl) (am_rm hR (by decide)) (fun _ _ z => z) (fun v hx hq hE => ?_)
  obtain ⟨rfl, rfl⟩ := hq
  refine gN_lt 22 dX4_isNoPipe_15 (by decide) (by omega) (by omega) (fun c_15 => ?_) (fun z => absurd hi (by omega))
  refine g_iconst (v := 0) dX4_isNoPipe_22 (by decide) ?_
  rw [hQ]
  refine g_iret dX4_isNoPipe_23 rfl rfl (by decide) (by decide) ?_
  exact ⟨rfl, rfl⟩
set_option maxRecDepth 100000 in
set_option maxHeartbeats 4000000 in
theorem c_isNoPipe_1 {l : Launch} (hlt : l.stackTraces = false) {N n p : Nat} {ord : List Nat} {L : Nat → Nat → Nat} {Γ : Nat → Nat → Nat → Int32} {o : Int64} {h : am_H} (w : WI N n p ord L Γ o h) {a : Int32} (hb : a < 0 ∨ nI p ≤ a) : am_Con l yX4_isNoPipe (.code yX4_isNoPipe cX4_isNoPipe 2 (some .boolean)) 2 0 0 [.ref (L 5 0), .int a] h (fun v h' => v = some (.int 1) ∧ h' = h) (fun _ _ => False) := by
  refine am_body hlt (by decide +kernel) (Nat.le_of_ble_eq_true rfl) (fun k hl hR h0 hno => ?_)
  subst hl
  obtain ⟨Qf, hQ⟩ : ∃ Qf, Qf = am_Q k 0 0 (fun v h' => v = some (.int 1) ∧ h' = h) (fun _ _ => False) := ⟨_, rfl⟩
  rw [← hQ]
  have hx0 : wdm n p 5 0 = true := rfl
  have hn8 : n ≤ 8 := w.1.1
  have hp24 : p ≤ 24 := w.1.2.1
  have ho8 : ord.length ≤ 8 := w.1.2.2.2.2
  refine g_iload_n dX4_isNoPipe_0 rfl ?_
  refine g_if_lt 18 dX4_isNoPipe_1 (by decide) (fun c_1 => ?_) (fun c_1 => ?_)
  · skip
    refine g_iconst (v := 1) dX4_isNoPipe_18 (by decide) ?_
    refine g_goto 23 dX4_isNoPipe_19 (by decide) ?_
    rw [hQ]
    refine g_iret dX4_isNoPipe_23 rfl rfl (by decide) (by decide) ?_
    exact ⟨rfl, rfl⟩
  · skip
    refine g_iload_n dX4_isNoPipe_4 rfl ?_
    refine g_aload_n dX4_isNoPipe_5 rfl ?_
    refine w_getR w dX4_isNoPipe_6 fl_X4_19 rfl rfl (by first | rfl | assumption) rfl ?_
    refine w_getR w dX4_isNoPipe_9 fl_X4_86 rfl rfl (by first | rfl | assumption) rfl ?_
    refine g_callV [] dX4_isNoPipe_12 mc_X4_57 mi_Jx4a65c_size_8abf5 se_Jx4a65c_size_8abf5 (c_size2 hlt w) (w.k (by first | rfl | assumption)) rfl rfl (Nat.le_of_ble_eq_true rfl) (am_rm hR (by decide)) (fun _ _ z => z) (fun v hx hq hE => ?_)
    obtain ⟨rfl, rfl⟩ := hq
    refine g_icmp_lt 22 dX4_isNoPipe_15 (by decide) (fun c_15 => ?_) (fun c_15 => ?_)
    · skip
      exact absurd hb (by intro z; rcases z with z | z; exact c_1 z; exact (Int32.not_lt.mpr z) c_15)
    · skip
      refine g_iconst (v := 1) dX4_isNoPipe_18 (by decide) ?_
      refine g_goto 23 dX4_isNoPipe_19 (by decide) ?_
      rw [hQ]
      refine g_iret dX4_isNoPipe_23 rfl rfl (by decide) (by decide) ?_
      exact ⟨rfl, rfl⟩
set_option maxRecDepth 100000 in
set_option maxHeartbeats 4000000 in
theorem c_X4_sumGot {l : Launch} (hlt : l.stackTraces = false) {N n p : Nat} {ord : List Nat} {L : Nat → Nat → Nat} {Γ : Nat → Nat → Nat → Int32} {o : Int64} {h : am_H} (w : WI N n p ord L Γ o h)  : am_Con l yX4_sumGot (.code yX4_sumGot cX4_sumGot 3 (some .int)) 4 0 0 [.ref (L 5 0)] h (fun v h' => v = some (.int (sp_sum (fun j => Γ 2 j 8) n)) ∧ h' = h) (fun _ _ => False) := by
  refine am_body hlt (by decide +kernel) (Nat.le_of_ble_eq_true rfl) (fun k hl hR h0 hno => ?_)
  subst hl
  obtain ⟨Qf, hQ⟩ : ∃ Qf, Qf = am_Q k 0 0 (fun v h' => v = some (.int (sp_sum (fun j => Γ 2 j 8) n)) ∧ h' = h) (fun _ _ => False) := ⟨_, rfl⟩
  rw [← hQ]
  have hx0 : wdm n p 5 0 = true := rfl
  have hn8 : n ≤ 8 := w.1.1
  have hp24 : p ≤ 24 := w.1.2.1
  have ho8 : ord.length ≤ 8 := w.1.2.2.2.2
  refine g_iconst (v := 0) dX4_sumGot_0 (by decide) ?_
  refine g_istore_n dX4_sumGot_1 (by decide) rfl ?_
  refine g_iconst (v := 0) dX4_sumGot_2 (by decide) ?_
  refine g_istore_n dX4_sumGot_3 (by decide) rfl ?_
  have lp_4 : ∀ (f : Nat) (j : Nat) (x : Int32), j ≤ n → n - j < f → x = sp_sum (fun j => Γ 2 j 8) j → am_G k RX4 yX4_sumGot.name cX4_sumGot 3 (some .int) 0 0 Qf 4 [(2, .int (nI j)), (1, .int x), (0, .ref (L 5 0))] [] h := by
    intro f
    induction f with
    | zero => intro j x hj hf ex; omega
    | succ f ih =>
      intro j x hj hf ex
      refine g_iload_n dX4_sumGot_4 rfl ?_
      refine g_aload_n dX4_sumGot_5 rfl ?_
      refine w_getR w dX4_sumGot_6 fl_X4_12 rfl rfl (by first | rfl | assumption) rfl ?_
      refine g_callV [] dX4_sumGot_9 mc_X4_57 mi_Jx4a65c_size_8abf5 se_Jx4a65c_size_8abf5 (c_size0 hlt w) (w.k (by first | rfl | assumption)) rfl rfl (Nat.le_of_ble_eq_true rfl) (am_rm hR (by decide)) (fun _ _ z => z) (fun v hx hq hE => ?_)
      obtain ⟨rfl, rfl⟩ := hq
      refine gN_ge 38 dX4_sumGot_12 (by decide) (by omega) (by omega) (fun c_12 => ?_) (fun c_12 => ?_)
      · skip
        refine g_iload_n dX4_sumGot_38 rfl ?_
        rw [hQ]
        refine g_iret dX4_sumGot_39 rfl rfl (by decide) (by decide) ?_
        have ej : j = n := by omega
        subst ej
        exact ⟨by rw [ex], rfl⟩
      · skip
        refine g_iload_n dX4_sumGot_15 rfl ?_
        refine g_aload_n dX4_sumGot_16 rfl ?_
        refine w_getR w dX4_sumGot_17 fl_X4_12 rfl rfl (by first | rfl | assumption) rfl ?_
        refine g_iload_n dX4_sumGot_20 rfl ?_
        refine g_callV [_] dX4_sumGot_21 mc_X4_103 mi_Jx4a65c_get_915e3 se_Jx4a65c_get_915e3 (c_get0 hlt w (by first | assumption | omega)) (w.k (by first | rfl | assumption)) rfl rfl (Nat.le_of_ble_eq_true rfl) (am_rm hR (by decide)) (fun _ _ z => z) (fun v hx hq hE => ?_)
        obtain ⟨rfl, rfl⟩ := hq
        have hdj : wdm n p 2 j = true := decide_eq_true (by omega)
        refine g_castS (q := (RX1, TX1, 14)) dX4_sumGot_24 kl_X4_66 (w.k (by first | rfl | assumption)) rfl ?_
        refine w_getI w dX4_sumGot_27 fl_X4_160 rfl rfl (by first | rfl | assumption) ?_
        refine g_iadd dX4_sumGot_30 ?_
        refine g_istore_n dX4_sumGot_31 (by decide) rfl ?_
        refine g_iinc dX4_sumGot_32 rfl (nI_i1 _) (by decide) rfl ?_
        refine g_goto 4 dX4_sumGot_35 (by decide) ?_
        refine g_ls [(2, .int (nI (j + 1))), (1, .int _), (0, .ref (L 5 0))] ⟨rfl, rfl, rfl, trivial⟩ ?_
        exact ih (j + 1) _ (by omega) (by omega) (by rw [ex]; simp only [sp_sum, reduceIte, c_12])
  refine g_ls [(2, .int (nI 0)), (1, .int 0), (0, .ref (L 5 0))] ⟨rfl, rfl, rfl, trivial⟩ ?_
  exact lp_4 (n + 1) 0 0 (by omega) (by omega) rfl
set_option maxRecDepth 100000 in
set_option maxHeartbeats 4000000 in
theorem c_X4_sumWater {l : Launch} (hlt : l.stackTraces = false) {N n p : Nat} {ord : List Nat} {L : Nat → Nat → Nat} {Γ : Nat → Nat → Nat → Int32} {o : Int64} {h : am_H} (w : WI N n p ord L Γ o h)  : am_Con l yX4_sumWater (.code yX4_sumWater cX4_sumWater 3 (some .int)) 4 0 0 [.ref (L 5 0)] h (fun v h' => v = some (.int (sp_sum (fun j => Γ 2 j 3) n)) ∧ h' = h) (fun _ _ => False) := by
  refine am_body hlt (by decide +kernel) (Nat.le_of_ble_eq_true rfl) (fun k hl hR h0 hno => ?_)
  subst hl
  obtain ⟨Qf, hQ⟩ : ∃ Qf, Qf = am_Q k 0 0 (fun v h' => v = some (.int (sp_sum (fun j => Γ 2 j 3) n)) ∧ h' = h) (fun _ _ => False) := ⟨_, rfl⟩
  rw [← hQ]
  have hx0 : wdm n p 5 0 = true := rfl
  have hn8 : n ≤ 8 := w.1.1
  have hp24 : p ≤ 24 := w.1.2.1
  have ho8 : ord.length ≤ 8 := w.1.2.2.2.2
  refine g_iconst (v := 0) dX4_sumWater_0 (by decide) ?_
  refine g_istore_n dX4_sumWater_1 (by decide) rfl ?_
  refine g_iconst (v := 0) dX4_sumWater_2 (by decide) ?_
  refine g_istore_n dX4_sumWater_3 (by decide) rfl ?_
  have lp_4 : ∀ (f : Nat) (j : Nat) (x : Int32), j ≤ n → n - j < f → x = sp_sum (fun j => Γ 2 j 3) j → am_G k RX4 yX4_sumWater.name cX4_sumWater 3 (some .int) 0 0 Qf 4 [(2, .int (nI j)), (1, .int x), (0, .ref (L 5 0))] [] h := by
    intro f
    induction f with
    | zero => intro j x hj hf ex; omega
    | succ f ih =>
      intro j x hj hf ex
      refine g_iload_n dX4_sumWater_4 rfl ?_
      refine g_aload_n dX4_sumWater_5 rfl ?_
      refine w_getR w dX4_sumWater_6 fl_X4_12 rfl rfl (by first | rfl | assumption) rfl ?_
      refine g_callV [] dX4_sumWater_9 mc_X4_57 mi_Jx4a65c_size_8abf5 se_Jx4a65c_size_8abf5 (c_size0 hlt w) (w.k (by first | rfl | assumption)) rfl rfl (Nat.le_of_ble_eq_true rfl) (am_rm hR (by decide)) (fun _ _ z => z) (fun v hx hq hE => ?_)
      obtain ⟨rfl, rfl⟩ := hq
      refine gN_ge 38 dX4_sumWater_12 (by decide) (by omega) (by omega) (fun c_12 => ?_) (fun c_12 => ?_)
      · skip
        refine g_iload_n dX4_sumWater_38 rfl ?_
        rw [hQ]
        refine g_iret dX4_sumWater_39 rfl rfl (by decide) (by decide) ?_
        have ej : j = n := by omega
        subst ej
        exact ⟨by rw [ex], rfl⟩
      · skip
        refine g_iload_n dX4_sumWater_15 rfl ?_
        refine g_aload_n dX4_sumWater_16 rfl ?_
        refine w_getR w dX4_sumWater_17 fl_X4_12 rfl rfl (by first | rfl | assumption) rfl ?_
        refine g_iload_n dX4_sumWater_20 rfl ?_
        refine g_callV [_] dX4_sumWater_21 mc_X4_103 mi_Jx4a65c_get_915e3 se_Jx4a65c_get_915e3 (c_get0 hlt w (by first | assumption | omega)) (w.k (by first | rfl | assumption)) rfl rfl (Nat.le_of_ble_eq_true rfl) (am_rm hR (by decide)) (fun _ _ z => z) (fun v hx hq hE => ?_)
        obtain ⟨rfl, rfl⟩ := hq
        have hdj : wdm n p 2 j = true := decide_eq_true (by omega)
        refine g_castS (q := (RX1, TX1, 14)) dX4_sumWater_24 kl_X4_66 (w.k (by first | rfl | assumption)) rfl ?_
        refine w_getI w dX4_sumWater_27 fl_X4_175 rfl rfl (by first | rfl | assumption) ?_
        refine g_iadd dX4_sumWater_30 ?_
        refine g_istore_n dX4_sumWater_31 (by decide) rfl ?_
        refine g_iinc dX4_sumWater_32 rfl (nI_i1 _) (by decide) rfl ?_
        refine g_goto 4 dX4_sumWater_35 (by decide) ?_
        refine g_ls [(2, .int (nI (j + 1))), (1, .int _), (0, .ref (L 5 0))] ⟨rfl, rfl, rfl, trivial⟩ ?_
        exact ih (j + 1) _ (by omega) (by omega) (by rw [ex]; simp only [sp_sum, reduceIte, c_12])
  refine g_ls [(2, .int (nI 0)), (1, .int 0), (0, .ref (L 5 0))] ⟨rfl, rfl, rfl, trivial⟩ ?_
  exact lp_4 (n + 1) 0 0 (by omega) (by omega) rfl
set_option maxRecDepth 100000 in
set_option maxHeartbeats 4000000 in
theorem c_X4_sumPaid {l : Launch} (hlt : l.stackTraces = false) {N n p : Nat} {ord : List Nat} {L : Nat → Nat → Nat} {Γ : Nat → Nat → Nat → Int32} {o : Int64} {h : am_H} (w : WI N n p ord L Γ o h)  : am_Con l yX4_sumPaidLessPaidBack (.code yX4_sumPaidLessPaidBack cX4_sumPaidLessPaidBack 4 (some .int)) 4 0 0 [.ref (L 5 0)] h (fun v h' => v = some (.int (sp_sum (fun j => Γ 2 j 9 - Γ 2 j 10) n)) ∧ h' = h) (fun _ _ => False) := by
  refine am_body hlt (by decide +kernel) (Nat.le_of_ble_eq_true rfl) (fun k hl hR h0 hno => ?_)
  subst hl
  obtain ⟨Qf, hQ⟩ : ∃ Qf, Qf = am_Q k 0 0 (fun v h' => v = some (.int (sp_sum (fun j => Γ 2 j 9 - Γ 2 j 10) n)) ∧ h' = h) (fun _ _ => False) := ⟨_, rfl⟩
  rw [← hQ]
  have hx0 : wdm n p 5 0 = true := rfl
  have hn8 : n ≤ 8 := w.1.1
  have hp24 : p ≤ 24 := w.1.2.1
  have ho8 : ord.length ≤ 8 := w.1.2.2.2.2
  refine g_iconst (v := 0) dX4_sumPaidLessPaidBack_0 (by decide) ?_
  refine g_istore_n dX4_sumPaidLessPaidBack_1 (by decide) rfl ?_
  refine g_iconst (v := 0) dX4_sumPaidLessPaidBack_2 (by decide) ?_
  refine g_istore_n dX4_sumPaidLessPaidBack_3 (by decide) rfl ?_
  have lp_4 : ∀ (f : Nat) (j : Nat) (x : Int32), j ≤ n → n - j < f → x = sp_sum (fun j => Γ 2 j 9 - Γ 2 j 10) j → am_G k RX4 yX4_sumPaidLessPaidBack.name cX4_sumPaidLessPaidBack 4 (some .int) 0 0 Qf 4 [(2, .int (nI j)), (1, .int x), (0, .ref (L 5 0))] [] h := by
    intro f
    induction f with
    | zero => intro j x hj hf ex; omega
    | succ f ih =>
      intro j x hj hf ex
      refine g_iload_n dX4_sumPaidLessPaidBack_4 rfl ?_
      refine g_aload_n dX4_sumPaidLessPaidBack_5 rfl ?_
      refine w_getR w dX4_sumPaidLessPaidBack_6 fl_X4_12 rfl rfl (by first | rfl | assumption) rfl ?_
      refine g_callV [] dX4_sumPaidLessPaidBack_9 mc_X4_57 mi_Jx4a65c_size_8abf5 se_Jx4a65c_size_8abf5 (c_size0 hlt w) (w.k (by first | rfl | assumption)) rfl rfl (Nat.le_of_ble_eq_true rfl) (am_rm hR (by decide)) (fun _ _ z => z) (fun v hx hq hE => ?_)
      obtain ⟨rfl, rfl⟩ := hq
      refine gN_ge 45 dX4_sumPaidLessPaidBack_12 (by decide) (by omega) (by omega) (fun c_12 => ?_) (fun c_12 => ?_)
      · skip
        refine g_iload_n dX4_sumPaidLessPaidBack_45 rfl ?_
        rw [hQ]
        refine g_iret dX4_sumPaidLessPaidBack_46 rfl rfl (by decide) (by decide) ?_
        have ej : j = n := by omega
        subst ej
        exact ⟨by rw [ex], rfl⟩
      · skip
        refine g_aload_n dX4_sumPaidLessPaidBack_15 rfl ?_
        refine w_getR w dX4_sumPaidLessPaidBack_16 fl_X4_12 rfl rfl (by first | rfl | assumption) rfl ?_
        refine g_iload_n dX4_sumPaidLessPaidBack_19 rfl ?_
        refine g_callV [_] dX4_sumPaidLessPaidBack_20 mc_X4_103 mi_Jx4a65c_get_915e3 se_Jx4a65c_get_915e3 (c_get0 hlt w (by first | assumption | omega)) (w.k (by first | rfl | assumption)) rfl rfl (Nat.le_of_ble_eq_true rfl) (am_rm hR (by decide)) (fun _ _ z => z) (fun v hx hq hE => ?_)
        obtain ⟨rfl, rfl⟩ := hq
        have hdj : wdm n p 2 j = true := decide_eq_true (by omega)
        refine g_castS (q := (RX1, TX1, 14)) dX4_sumPaidLessPaidBack_23 kl_X4_66 (w.k (by first | rfl | assumption)) rfl ?_
        refine g_astore_n dX4_sumPaidLessPaidBack_26 (by decide) rfl ?_
        refine g_iload_n dX4_sumPaidLessPaidBack_27 rfl ?_
        refine g_aload_n dX4_sumPaidLessPaidBack_28 rfl ?_
        refine w_getI w dX4_sumPaidLessPaidBack_29 fl_X4_181 rfl rfl (by first | rfl | assumption) ?_
        refine g_aload_n dX4_sumPaidLessPaidBack_32 rfl ?_
        refine w_getI w dX4_sumPaidLessPaidBack_33 fl_X4_184 rfl rfl (by first | rfl | assumption) ?_
        refine g_isub dX4_sumPaidLessPaidBack_36 ?_
        refine g_iadd dX4_sumPaidLessPaidBack_37 ?_
        refine g_istore_n dX4_sumPaidLessPaidBack_38 (by decide) rfl ?_
        refine g_iinc dX4_sumPaidLessPaidBack_39 rfl (nI_i1 _) (by decide) rfl ?_
        refine g_goto 4 dX4_sumPaidLessPaidBack_42 (by decide) ?_
        refine g_ls [(2, .int (nI (j + 1))), (1, .int _), (0, .ref (L 5 0))] ⟨rfl, rfl, rfl, trivial⟩ ?_
        exact ih (j + 1) _ (by omega) (by omega) (by rw [ex]; simp only [sp_sum, reduceIte, c_12])
  refine g_ls [(2, .int (nI 0)), (1, .int 0), (0, .ref (L 5 0))] ⟨rfl, rfl, rfl, trivial⟩ ?_
  exact lp_4 (n + 1) 0 0 (by omega) (by omega) rfl
set_option maxRecDepth 100000 in
set_option maxHeartbeats 4000000 in
theorem c_X2_countBurst {l : Launch} (hlt : l.stackTraces = false) {N n p : Nat} {ord : List Nat} {L : Nat → Nat → Nat} {Γ : Nat → Nat → Nat → Int32} {o : Int64} {h : am_H} (w : WI N n p ord L Γ o h)  : am_Con l yX2_countBurst (.code yX2_countBurst cX2_countBurst 3 (some .int)) 4 0 0 [.ref (L 3 0)] h (fun v h' => v = some (.int (sp_sum (fun j => if Γ 4 j 3 = 0 then 0 else 1) p)) ∧ h' = h) (fun _ _ => False) := by
  refine am_body hlt (by decide +kernel) (Nat.le_of_ble_eq_true rfl) (fun k hl hR h0 hno => ?_)
  subst hl
  obtain ⟨Qf, hQ⟩ : ∃ Qf, Qf = am_Q k 0 0 (fun v h' => v = some (.int (sp_sum (fun j => if Γ 4 j 3 = 0 then 0 else 1) p)) ∧ h' = h) (fun _ _ => False) := ⟨_, rfl⟩
  rw [← hQ]
  have hx0 : wdm n p 5 0 = true := rfl
  have hn8 : n ≤ 8 := w.1.1
  have hp24 : p ≤ 24 := w.1.2.1
  have ho8 : ord.length ≤ 8 := w.1.2.2.2.2
  have hm : wdm n p 3 0 = true := rfl
  refine g_iconst (v := 0) dX2_countBurst_0 (by decide) ?_
  refine g_istore_n dX2_countBurst_1 (by decide) rfl ?_
  refine g_iconst (v := 0) dX2_countBurst_2 (by decide) ?_
  refine g_istore_n dX2_countBurst_3 (by decide) rfl ?_
  have lp_4 : ∀ (f : Nat) (j : Nat) (x : Int32), j ≤ p → p - j < f → x = sp_sum (fun j => if Γ 4 j 3 = 0 then 0 else 1) j → am_G k RX2 yX2_countBurst.name cX2_countBurst 3 (some .int) 0 0 Qf 4 [(2, .int (nI j)), (1, .int x), (0, .ref (L 3 0))] [] h := by
    intro f
    induction f with
    | zero => intro j x hj hf ex; omega
    | succ f ih =>
      intro j x hj hf ex
      refine g_iload_n dX2_countBurst_4 rfl ?_
      refine g_aload_n dX2_countBurst_5 rfl ?_
      refine w_getR w dX2_countBurst_6 fl_X2_12 rfl rfl (by first | rfl | assumption) rfl ?_
      refine g_callV [] dX2_countBurst_9 mc_X2_40 mi_Jx4a65c_size_8abf5 se_Jx4a65c_size_8abf5 (c_size2 hlt w) (w.k (by first | rfl | assumption)) rfl rfl (Nat.le_of_ble_eq_true rfl) (am_rm hR (by decide)) (fun _ _ z => z) (fun v hx hq hE => ?_)
      obtain ⟨rfl, rfl⟩ := hq
      refine gN_ge 41 dX2_countBurst_12 (by decide) (by omega) (by omega) (fun c_12 => ?_) (fun c_12 => ?_)
      · skip
        refine g_iload_n dX2_countBurst_41 rfl ?_
        rw [hQ]
        refine g_iret dX2_countBurst_42 rfl rfl (by decide) (by decide) ?_
        have ej : j = p := by omega
        subst ej
        exact ⟨by rw [ex], rfl⟩
      · skip
        refine g_aload_n dX2_countBurst_15 rfl ?_
        refine w_getR w dX2_countBurst_16 fl_X2_12 rfl rfl (by first | rfl | assumption) rfl ?_
        refine g_iload_n dX2_countBurst_19 rfl ?_
        refine g_callV [_] dX2_countBurst_20 mc_X2_44 mi_Jx4a65c_get_915e3 se_Jx4a65c_get_915e3 (c_get2 hlt w (by first | assumption | omega)) (w.k (by first | rfl | assumption)) rfl rfl (Nat.le_of_ble_eq_true rfl) (am_rm hR (by decide)) (fun _ _ z => z) (fun v hx hq hE => ?_)
        obtain ⟨rfl, rfl⟩ := hq
        have hdj : wdm n p 4 j = true := decide_eq_true (by omega)
        refine g_castS (q := (RX3, TX3, 4)) dX2_countBurst_23 kl_X2_48 (w.k (by first | rfl | assumption)) rfl ?_
        refine w_getI w dX2_countBurst_26 fl_X2_50 rfl rfl (by first | rfl | assumption) ?_
        refine g_if_eq 35 dX2_countBurst_29 (by decide) (fun c_29 => ?_) (fun c_29 => ?_)
        · skip
          refine g_iinc dX2_countBurst_35 rfl (nI_i1 _) (by decide) rfl ?_
          refine g_goto 4 dX2_countBurst_38 (by decide) ?_
          refine g_ls [(2, .int (nI (j + 1))), (1, .int _), (0, .ref (L 3 0))] ⟨rfl, rfl, rfl, trivial⟩ ?_
          exact ih (j + 1) _ (by omega) (by omega) (by first | (rw [ex]; simp only [sp_sum, reduceIte, c_12, c_29]; done) | (rw [ex]; simp only [sp_sum, reduceIte, c_12, c_29, Int32.add_zero]; done) | (rw [ex]; simp only [sp_sum, reduceIte, c_12, c_29]; rfl))
        · skip
          refine g_iinc dX2_countBurst_32 rfl rfl (by decide) rfl ?_
          refine g_iinc dX2_countBurst_35 rfl (nI_i1 _) (by decide) rfl ?_
          refine g_goto 4 dX2_countBurst_38 (by decide) ?_
          refine g_ls [(2, .int (nI (j + 1))), (1, .int _), (0, .ref (L 3 0))] ⟨rfl, rfl, rfl, trivial⟩ ?_
          exact ih (j + 1) _ (by omega) (by omega) (by first | (rw [ex]; simp only [sp_sum, reduceIte, c_12, c_29]; done) | (rw [ex]; simp only [sp_sum, reduceIte, c_12, c_29, Int32.add_zero]; done) | (rw [ex]; simp only [sp_sum, reduceIte, c_12, c_29]; rfl))
  refine g_ls [(2, .int (nI 0)), (1, .int 0), (0, .ref (L 3 0))] ⟨rfl, rfl, rfl, trivial⟩ ?_
  exact lp_4 (p + 1) 0 0 (by omega) (by omega) rfl
set_option maxRecDepth 100000 in
set_option maxHeartbeats 4000000 in
theorem c_X4_bidsAheadOf {l : Launch} (hlt : l.stackTraces = false) {N n p : Nat} {ord : List Nat} {L : Nat → Nat → Nat} {Γ : Nat → Nat → Nat → Int32} {o : Int64} {h : am_H} (w : WI N n p ord L Γ o h) {i : Nat} (hi : wdm n p 2 i = true) : am_Con l yX4_bidsAheadOf (.code yX4_bidsAheadOf cX4_bidsAheadOf 4 (some .int)) 4 0 0 [.ref (L 5 0), .ref (L 2 i)] h (fun v h' => v = some (.int (sp_sum (fun j => if sp_ahead Γ (ord.getD j 0) i = 0 then 0 else 1) ord.length)) ∧ h' = h) (fun _ _ => False) := by
  refine am_body hlt (by decide +kernel) (Nat.le_of_ble_eq_true rfl) (fun k hl hR h0 hno => ?_)
  subst hl
  obtain ⟨Qf, hQ⟩ : ∃ Qf, Qf = am_Q k 0 0 (fun v h' => v = some (.int (sp_sum (fun j => if sp_ahead Γ (ord.getD j 0) i = 0 then 0 else 1) ord.length)) ∧ h' = h) (fun _ _ => False) := ⟨_, rfl⟩
  rw [← hQ]
  have hx0 : wdm n p 5 0 = true := rfl
  have hn8 : n ≤ 8 := w.1.1
  have hp24 : p ≤ 24 := w.1.2.1
  have ho8 : ord.length ≤ 8 := w.1.2.2.2.2
  refine g_iconst (v := 0) dX4_bidsAheadOf_0 (by decide) ?_
  refine g_istore_n dX4_bidsAheadOf_1 (by decide) rfl ?_
  refine g_iconst (v := 0) dX4_bidsAheadOf_2 (by decide) ?_
  refine g_istore_n dX4_bidsAheadOf_3 (by decide) rfl ?_
  have lp_4 : ∀ (f : Nat) (j : Nat) (x : Int32), j ≤ ord.length → ord.length - j < f → x = sp_sum (fun j => if sp_ahead Γ (ord.getD j 0) i = 0 then 0 else 1) j → am_G k RX4 yX4_bidsAheadOf.name cX4_bidsAheadOf 4 (some .int) 0 0 Qf 4 [(3, .int (nI j)), (2, .int x), (1, .ref (L 2 i)), (0, .ref (L 5 0))] [] h := by
    intro f
    induction f with
    | zero => intro j x hj hf ex; omega
    | succ f ih =>
      intro j x hj hf ex
      refine g_iload_n dX4_bidsAheadOf_4 rfl ?_
      refine g_aload_n dX4_bidsAheadOf_5 rfl ?_
      refine w_getR w dX4_bidsAheadOf_6 fl_X4_23 rfl rfl (by first | rfl | assumption) rfl ?_
      refine g_callV [] dX4_bidsAheadOf_9 mc_X4_57 mi_Jx4a65c_size_8abf5 se_Jx4a65c_size_8abf5 (c_size1 hlt w) (w.k (by first | rfl | assumption)) rfl rfl (Nat.le_of_ble_eq_true rfl) (am_rm hR (by decide)) (fun _ _ z => z) (fun v hx hq hE => ?_)
      obtain ⟨rfl, rfl⟩ := hq
      refine gN_ge 48 dX4_bidsAheadOf_12 (by decide) (by omega) (by omega) (fun c_12 => ?_) (fun c_12 => ?_)
      · skip
        refine g_iload_n dX4_bidsAheadOf_48 rfl ?_
        rw [hQ]
        refine g_iret dX4_bidsAheadOf_49 rfl rfl (by decide) (by decide) ?_
        have ej : j = ord.length := by omega
        exact ⟨by rw [ex, ej], rfl⟩
      · skip
        refine g_aload_n dX4_bidsAheadOf_15 rfl ?_
        refine w_getR w dX4_bidsAheadOf_16 fl_X4_23 rfl rfl (by first | rfl | assumption) rfl ?_
        refine g_iload_n dX4_bidsAheadOf_19 rfl ?_
        refine g_callV [_] dX4_bidsAheadOf_20 mc_X4_103 mi_Jx4a65c_get_915e3 se_Jx4a65c_get_915e3 (c_get1 hlt w (by first | assumption | omega)) (w.k (by first | rfl | assumption)) rfl rfl (Nat.le_of_ble_eq_true rfl) (am_rm hR (by decide)) (fun _ _ z => z) (fun v hx hq hE => ?_)
        obtain ⟨rfl, rfl⟩ := hq
        have hdj : wdm n p 2 (ord.getD j 0) = true := decide_eq_true (w.1.2.2.2.1 _ (by rw [List.getD_eq_getElem?_getD, List.getElem?_eq_getElem (show j < ord.length by omega)]; exact List.getElem_mem _))
        refine g_castS (q := (RX1, TX1, 14)) dX4_bidsAheadOf_23 kl_X4_66 (w.k (by first | rfl | assumption)) rfl ?_
        refine w_getR w dX4_bidsAheadOf_26 fl_X4_112 rfl rfl (by first | rfl | assumption) rfl ?_
        refine g_aload_n dX4_bidsAheadOf_29 rfl ?_
        refine w_getR w dX4_bidsAheadOf_30 fl_X4_112 rfl rfl (by first | rfl | assumption) rfl ?_
        refine g_callV [_] dX4_bidsAheadOf_33 mc_X4_233 mi_X0_isAheadOf se_X0_isAheadOf (c_X0_isAheadOf hlt w (by assumption) (by assumption)) (w.k (by first | rfl | assumption)) rfl rfl (Nat.le_of_ble_eq_true rfl) (am_rm hR (by decide)) (fun _ _ z => z) (fun v hx hq hE => ?_)
        obtain ⟨rfl, rfl⟩ := hq
        refine g_if_eq 42 dX4_bidsAheadOf_36 (by decide) (fun c_36 => ?_) (fun c_36 => ?_)
        · skip
          refine g_iinc dX4_bidsAheadOf_42 rfl (nI_i1 _) (by decide) rfl ?_
          refine g_goto 4 dX4_bidsAheadOf_45 (by decide) ?_
          refine g_ls [(3, .int (nI (j + 1))), (2, .int _), (1, .ref (L 2 i)), (0, .ref (L 5 0))] ⟨rfl, rfl, rfl, rfl, trivial⟩ ?_
          exact ih (j + 1) _ (by omega) (by omega) (by first | (rw [ex]; simp only [sp_sum, reduceIte, c_12, c_36]; done) | (rw [ex]; simp only [sp_sum, reduceIte, c_12, c_36, Int32.add_zero]; done) | (rw [ex]; simp only [sp_sum, reduceIte, c_12, c_36]; rfl))
        · skip
          refine g_iinc dX4_bidsAheadOf_39 rfl rfl (by decide) rfl ?_
          refine g_iinc dX4_bidsAheadOf_42 rfl (nI_i1 _) (by decide) rfl ?_
          refine g_goto 4 dX4_bidsAheadOf_45 (by decide) ?_
          refine g_ls [(3, .int (nI (j + 1))), (2, .int _), (1, .ref (L 2 i)), (0, .ref (L 5 0))] ⟨rfl, rfl, rfl, rfl, trivial⟩ ?_
          exact ih (j + 1) _ (by omega) (by omega) (by first | (rw [ex]; simp only [sp_sum, reduceIte, c_12, c_36]; done) | (rw [ex]; simp only [sp_sum, reduceIte, c_12, c_36, Int32.add_zero]; done) | (rw [ex]; simp only [sp_sum, reduceIte, c_12, c_36]; rfl))
  refine g_ls [(3, .int (nI 0)), (2, .int 0), (1, .ref (L 2 i)), (0, .ref (L 5 0))] ⟨rfl, rfl, rfl, rfl, trivial⟩ ?_
  exact lp_4 (ord.length + 1) 0 0 (by omega) (by omega) rfl
set_option maxRecDepth 100000 in
set_option maxHeartbeats 4000000 in
theorem c_X4_hour {l : Launch} (hlt : l.stackTraces = false) {N n p : Nat} {ord : List Nat} {L : Nat → Nat → Nat} {Γ : Nat → Nat → Nat → Int32} {o : Int64} {h : am_H} (w : WI N n p ord L Γ o h)  : am_Con l yX4_hour (.code yX4_hour cX4_hour 1 (some .int)) 1 0 0 [.ref (L 5 0)] h (fun v h' => v = some (.int (Γ 5 0 3)) ∧ h' = h) (fun _ _ => False) := by
  refine am_body hlt (by decide +kernel) (Nat.le_of_ble_eq_true rfl) (fun k hl hR h0 hno => ?_)
  subst hl
  obtain ⟨Qf, hQ⟩ : ∃ Qf, Qf = am_Q k 0 0 (fun v h' => v = some (.int (Γ 5 0 3)) ∧ h' = h) (fun _ _ => False) := ⟨_, rfl⟩
  rw [← hQ]
  have hx0 : wdm n p 5 0 = true := rfl
  have hn8 : n ≤ 8 := w.1.1
  have hp24 : p ≤ 24 := w.1.2.1
  have ho8 : ord.length ≤ 8 := w.1.2.2.2.2
  refine g_aload_n dX4_hour_0 rfl ?_
  refine w_getI w dX4_hour_1 fl_X4_26 rfl rfl (by first | rfl | assumption) ?_
  rw [hQ]
  refine g_iret dX4_hour_4 rfl rfl (by decide) (by decide) ?_
  exact ⟨rfl, rfl⟩
set_option maxRecDepth 100000 in
set_option maxHeartbeats 4000000 in
theorem c_X4_round {l : Launch} (hlt : l.stackTraces = false) {N n p : Nat} {ord : List Nat} {L : Nat → Nat → Nat} {Γ : Nat → Nat → Nat → Int32} {o : Int64} {h : am_H} (w : WI N n p ord L Γ o h)  : am_Con l yX4_round (.code yX4_round cX4_round 1 (some .int)) 1 0 0 [.ref (L 5 0)] h (fun v h' => v = some (.int (if Γ 5 0 5 = 0 then Γ 5 0 4 else -1)) ∧ h' = h) (fun _ _ => False) := by
  refine am_body hlt (by decide +kernel) (Nat.le_of_ble_eq_true rfl) (fun k hl hR h0 hno => ?_)
  subst hl
  obtain ⟨Qf, hQ⟩ : ∃ Qf, Qf = am_Q k 0 0 (fun v h' => v = some (.int (if Γ 5 0 5 = 0 then Γ 5 0 4 else -1)) ∧ h' = h) (fun _ _ => False) := ⟨_, rfl⟩
  rw [← hQ]
  have hx0 : wdm n p 5 0 = true := rfl
  have hn8 : n ≤ 8 := w.1.1
  have hp24 : p ≤ 24 := w.1.2.1
  have ho8 : ord.length ≤ 8 := w.1.2.2.2.2
  refine g_aload_n dX4_round_0 rfl ?_
  refine w_getI w dX4_round_1 fl_X4_33 rfl rfl (by first | rfl | assumption) ?_
  refine g_if_eq 11 dX4_round_4 (by decide) (fun c_4 => ?_) (fun c_4 => ?_)
  · skip
    refine g_aload_n dX4_round_11 rfl ?_
    refine w_getI w dX4_round_12 fl_X4_30 rfl rfl (by first | rfl | assumption) ?_
    rw [hQ]
    refine g_iret dX4_round_15 rfl rfl (by decide) (by decide) ?_
    exact ⟨by simp only [reduceIte, c_4], rfl⟩
  · skip
    refine g_iconst (v := (-1)) dX4_round_7 (by decide) ?_
    refine g_goto 15 dX4_round_8 (by decide) ?_
    rw [hQ]
    refine g_iret dX4_round_15 rfl rfl (by decide) (by decide) ?_
    exact ⟨by simp only [reduceIte, c_4], rfl⟩
end
section
set_option maxRecDepth 100000 in
set_option maxHeartbeats 4000000 in
theorem c_X4_need_1 {l : Launch} (hlt : l.stackTraces = false) {N n p : Nat} {ord : List Nat} {L : Nat → Nat → Nat} {Γ : Nat → Nat → Nat → Int32} {o : Int64} {h : am_H} (w : WI N n p ord L Γ o h) {a b : Int32} (hb : a < 0 ∨ nI n ≤ a) : am_Con l yX4_need (.code yX4_need cX4_need 5 (some .int)) 20 1 6 [.ref (L 5 0), .int a, .int b] h (fun v h' => False) (fun E h' => E = "java/lang/IndexOutOfBoundsException" ∧ h' = h) := by
  refine am_body hlt (by decide +kernel) (Nat.le_of_ble_eq_true rfl) (fun k hl hR h0 hno => ?_)
  subst hl
  obtain ⟨Qf, hQ⟩ : ∃ Qf, Qf = am_Q k 1 6 (fun v h' => False) (fun E h' => E = "java/lang/IndexOutOfBoundsException" ∧ h' = h) := ⟨_, rfl⟩
  rw [← hQ]
  have hx0 : wdm n p 5 0 = true := rfl
  have hn0 : wdm n p 3 0 = true := rfl
  have hn8 : n ≤ 8 := w.1.1
  have hp24 : p ≤ 24 := w.1.2.1
  have ho8 : ord.length ≤ 8 := w.1.2.2.2.2
  refine g_aload_n dX4_need_0 rfl ?_
  refine g_iload_n dX4_need_1 rfl ?_
  refine g_callV [_] dX4_need_2 mc_X4_75 mi_X4_isNoDistrict se_X4_isNoDistrict (c_isNoDistrict_1 hlt w (by assumption)) (w.k (by first | rfl | assumption)) rfl rfl (Nat.le_of_ble_eq_true rfl) (am_rm hR (by decide)) (fun _ _ z => z) (fun v hx hq hE => ?_)
  obtain ⟨rfl, rfl⟩ := hq
  refine g_if_eq 18 dX4_need_5 (by decide) (fun z => absurd z (by decide)) (fun _ => ?_)
  rw [hQ]
  refine g_throw (text := "no such district") dX4_need_8 dX4_need_11 dX4_need_12 dX4_need_14 dX4_need_17 tw_79 (by simp [am_strs]) hno (by rw [hR]; decide) (by rw [hR]; exact Nat.le_of_ble_eq_true rfl) (by rw [hR]; decide) (by rw [hR]; decide) (by decide) (by decide) ?_
  exact ⟨rfl, rfl⟩
set_option maxRecDepth 100000 in
set_option maxHeartbeats 4000000 in
theorem c_X4_need_2 {l : Launch} (hlt : l.stackTraces = false) {N n p : Nat} {ord : List Nat} {L : Nat → Nat → Nat} {Γ : Nat → Nat → Nat → Int32} {o : Int64} {h : am_H} (w : WI N n p ord L Γ o h) {i : Nat} (hi : i < n) {b : Int32} (bb : b < 0 ∨ ¬ b ≤ 999) : am_Con l yX4_need (.code yX4_need cX4_need 5 (some .int)) 20 1 6 [.ref (L 5 0), .int (nI i), .int b] h (fun v h' => False) (fun E h' => E = "java/lang/IllegalArgumentException" ∧ h' = h) := by
  refine am_body hlt (by decide +kernel) (Nat.le_of_ble_eq_true rfl) (fun k hl hR h0 hno => ?_)
  subst hl
  obtain ⟨Qf, hQ⟩ : ∃ Qf, Qf = am_Q k 1 6 (fun v h' => False) (fun E h' => E = "java/lang/IllegalArgumentException" ∧ h' = h) := ⟨_, rfl⟩
  rw [← hQ]
  have hx0 : wdm n p 5 0 = true := rfl
  have hn0 : wdm n p 3 0 = true := rfl
  have hn8 : n ≤ 8 := w.1.1
  have hp24 : p ≤ 24 := w.1.2.1
  have ho8 : ord.length ≤ 8 := w.1.2.2.2.2
  refine g_aload_n dX4_need_0 rfl ?_
  refine g_iload_n dX4_need_1 rfl ?_
  refine g_callV [_] dX4_need_2 mc_X4_75 mi_X4_isNoDistrict se_X4_isNoDistrict (c_isNoDistrict_0 hlt w (by assumption)) (w.k (by first | rfl | assumption)) rfl rfl (Nat.le_of_ble_eq_true rfl) (am_rm hR (by decide)) (fun _ _ z => z) (fun v hx hq hE => ?_)
  obtain ⟨rfl, rfl⟩ := hq
  refine g_if_eq 18 dX4_need_5 (by decide) (fun _ => ?_) (fun z => absurd z (by decide))
  refine g_iload_n dX4_need_18 rfl ?_
  refine g_iconst (v := 0) dX4_need_19 (by decide) ?_
  refine g_sipush (v := 999) dX4_need_20 (by decide) ?_
  refine g_callS [_, _, _] dX4_need_23 mc_X4_46 ms_X4_isOutside (c_isOutside_1 hlt bb) rfl (Nat.le_of_ble_eq_true rfl) (am_rm hR (by decide)) (fun _ _ z => z) (fun v hx hq hE => ?_)
  obtain ⟨rfl, rfl⟩ := hq
  refine g_if_eq 39 dX4_need_26 (by decide) (fun z => absurd z (by decide)) (fun _ => ?_)
  rw [hQ]
  refine g_throw (text := "need is out of range") dX4_need_29 dX4_need_32 dX4_need_33 dX4_need_35 dX4_need_38 tw_50 (by simp [am_strs]) hno (by rw [hR]; decide) (by rw [hR]; exact Nat.le_of_ble_eq_true rfl) (by rw [hR]; decide) (by rw [hR]; decide) (by decide) (by decide) ?_
  exact ⟨rfl, rfl⟩
set_option maxRecDepth 100000 in
set_option maxHeartbeats 4000000 in
theorem c_X4_need_0 {l : Launch} (hlt : l.stackTraces = false) {N n p : Nat} {ord : List Nat} {L : Nat → Nat → Nat} {Γ : Nat → Nat → Nat → Int32} {o : Int64} {h : am_H} (w : WI N n p ord L Γ o h) {i : Nat} (hi : i < n) {b : Int32} (b1 : ¬ b < 0) (b2 : b ≤ 999) : am_Con l yX4_need (.code yX4_need cX4_need 5 (some .int)) 20 0 0 [.ref (L 5 0), .int (nI i), .int b] h (fun v h' => v = some (.int (Γ 2 i 2)) ∧ WI N n p ord L (u3 Γ 2 i 2 b) o h') (fun _ _ => False) := by
  refine am_body hlt (by decide +kernel) (Nat.le_of_ble_eq_true rfl) (fun k hl hR h0 hno => ?_)
  subst hl
  obtain ⟨Qf, hQ⟩ : ∃ Qf, Qf = am_Q k 0 0 (fun v h' => v = some (.int (Γ 2 i 2)) ∧ WI N n p ord L (u3 Γ 2 i 2 b) o h') (fun _ _ => False) := ⟨_, rfl⟩
  rw [← hQ]
  have hx0 : wdm n p 5 0 = true := rfl
  have hn0 : wdm n p 3 0 = true := rfl
  have hn8 : n ≤ 8 := w.1.1
  have hp24 : p ≤ 24 := w.1.2.1
  have ho8 : ord.length ≤ 8 := w.1.2.2.2.2
  have hdi : wdm n p 2 i = true := decide_eq_true hi
  have hdi1 : wdm n p 1 i = true := decide_eq_true hi
  have hdi0 : wdm n p 0 i = true := decide_eq_true hi
  refine g_aload_n dX4_need_0 rfl ?_
  refine g_iload_n dX4_need_1 rfl ?_
  refine g_callV [_] dX4_need_2 mc_X4_75 mi_X4_isNoDistrict se_X4_isNoDistrict (c_isNoDistrict_0 hlt w (by assumption)) (w.k (by first | rfl | assumption)) rfl rfl (Nat.le_of_ble_eq_true rfl) (am_rm hR (by decide)) (fun _ _ z => z) (fun v hx hq hE => ?_)
  obtain ⟨rfl, rfl⟩ := hq
  refine g_if_eq 18 dX4_need_5 (by decide) (fun _ => ?_) (fun z => absurd z (by decide))
  refine g_iload_n dX4_need_18 rfl ?_
  refine g_iconst (v := 0) dX4_need_19 (by decide) ?_
  refine g_sipush (v := 999) dX4_need_20 (by decide) ?_
  refine g_callS [_, _, _] dX4_need_23 mc_X4_46 ms_X4_isOutside (c_isOutside_0 hlt b1 b2) rfl (Nat.le_of_ble_eq_true rfl) (am_rm hR (by decide)) (fun _ _ z => z) (fun v hx hq hE => ?_)
  obtain ⟨rfl, rfl⟩ := hq
  refine g_if_eq 39 dX4_need_26 (by decide) (fun _ => ?_) (fun z => absurd z (by decide))
  refine g_aload_n dX4_need_39 rfl ?_
  refine w_getR w dX4_need_40 fl_X4_12 rfl rfl (by first | rfl | assumption) rfl ?_
  refine g_iload_n dX4_need_43 rfl ?_
  refine g_callV [_] dX4_need_44 mc_X4_103 mi_Jx4a65c_get_915e3 se_Jx4a65c_get_915e3 (c_get0 hlt w (by first | assumption | omega)) (w.k (by first | rfl | assumption)) rfl rfl (Nat.le_of_ble_eq_true rfl) (am_rm hR (by decide)) (fun _ _ z => z) (fun v hx hq hE => ?_)
  obtain ⟨rfl, rfl⟩ := hq
  refine g_castS (q := (RX1, TX1, 14)) dX4_need_47 kl_X4_66 (w.k (by first | rfl | assumption)) rfl ?_
  refine g_astore_n dX4_need_50 (by decide) rfl ?_
  refine g_aload_n dX4_need_51 rfl ?_
  refine w_getI w dX4_need_52 fl_X4_107 rfl rfl (by first | rfl | assumption) ?_
  refine g_istore dX4_need_55 (by decide) rfl ?_
  refine g_aload_n dX4_need_57 rfl ?_
  refine g_iload_n dX4_need_58 rfl ?_
  refine w_putI w dX4_need_59 fl_X4_107 rfl rfl (by decide) (fun q hq => by cases hq; rfl) (by first | rfl | assumption) rfl rfl (fun h1 w1 => ?_)
  refine g_iload dX4_need_62 rfl ?_
  rw [hQ]
  refine g_iret dX4_need_64 rfl rfl (by decide) (by decide) ?_
  exact ⟨rfl, w1⟩
set_option maxRecDepth 100000 in
set_option maxHeartbeats 4000000 in
theorem c_X4_source_1 {l : Launch} (hlt : l.stackTraces = false) {N n p : Nat} {ord : List Nat} {L : Nat → Nat → Nat} {Γ : Nat → Nat → Nat → Int32} {o : Int64} {h : am_H} (w : WI N n p ord L Γ o h) {a : Int32} (ab : a < 0 ∨ ¬ a ≤ 9999) : am_Con l yX4_source (.code yX4_source cX4_source 3 (some .int)) 20 1 6 [.ref (L 5 0), .int a] h (fun v h' => False) (fun E h' => E = "java/lang/IllegalArgumentException" ∧ h' = h) := by
  refine am_body hlt (by decide +kernel) (Nat.le_of_ble_eq_true rfl) (fun k hl hR h0 hno => ?_)
  subst hl
  obtain ⟨Qf, hQ⟩ : ∃ Qf, Qf = am_Q k 1 6 (fun v h' => False) (fun E h' => E = "java/lang/IllegalArgumentException" ∧ h' = h) := ⟨_, rfl⟩
  rw [← hQ]
  have hx0 : wdm n p 5 0 = true := rfl
  have hn0 : wdm n p 3 0 = true := rfl
  have hn8 : n ≤ 8 := w.1.1
  have hp24 : p ≤ 24 := w.1.2.1
  have ho8 : ord.length ≤ 8 := w.1.2.2.2.2
  refine g_iload_n dX4_source_0 rfl ?_
  refine g_iconst (v := 0) dX4_source_1 (by decide) ?_
  refine g_sipush (v := 9999) dX4_source_2 (by decide) ?_
  refine g_callS [_, _, _] dX4_source_5 mc_X4_46 ms_X4_isOutside (c_isOutside_1 hlt ab) rfl (Nat.le_of_ble_eq_true rfl) (am_rm hR (by decide)) (fun _ _ z => z) (fun v hx hq hE => ?_)
  obtain ⟨rfl, rfl⟩ := hq
  refine g_if_eq 21 dX4_source_8 (by decide) (fun z => absurd z (by decide)) (fun _ => ?_)
  rw [hQ]
  refine g_throw (text := "units is out of range") dX4_source_11 dX4_source_14 dX4_source_15 dX4_source_17 dX4_source_20 tw_50 (by simp [am_strs]) hno (by rw [hR]; decide) (by rw [hR]; exact Nat.le_of_ble_eq_true rfl) (by rw [hR]; decide) (by rw [hR]; decide) (by decide) (by decide) ?_
  exact ⟨rfl, rfl⟩
set_option maxRecDepth 100000 in
set_option maxHeartbeats 4000000 in
theorem c_X4_source_2 {l : Launch} (hlt : l.stackTraces = false) {N n p : Nat} {ord : List Nat} {L : Nat → Nat → Nat} {Γ : Nat → Nat → Nat → Int32} {o : Int64} {h : am_H} (w : WI N n p ord L Γ o h) {a : Int32} (a1 : ¬ a < 0) (a2 : a ≤ 9999) (hf : ¬ Γ 5 0 5 = 0) : am_Con l yX4_source (.code yX4_source cX4_source 3 (some .int)) 20 1 6 [.ref (L 5 0), .int a] h (fun v h' => False) (fun E h' => E = "java/lang/IllegalStateException" ∧ h' = h) := by
  refine am_body hlt (by decide +kernel) (Nat.le_of_ble_eq_true rfl) (fun k hl hR h0 hno => ?_)
  subst hl
  obtain ⟨Qf, hQ⟩ : ∃ Qf, Qf = am_Q k 1 6 (fun v h' => False) (fun E h' => E = "java/lang/IllegalStateException" ∧ h' = h) := ⟨_, rfl⟩
  rw [← hQ]
  have hx0 : wdm n p 5 0 = true := rfl
  have hn0 : wdm n p 3 0 = true := rfl
  have hn8 : n ≤ 8 := w.1.1
  have hp24 : p ≤ 24 := w.1.2.1
  have ho8 : ord.length ≤ 8 := w.1.2.2.2.2
  refine g_iload_n dX4_source_0 rfl ?_
  refine g_iconst (v := 0) dX4_source_1 (by decide) ?_
  refine g_sipush (v := 9999) dX4_source_2 (by decide) ?_
  refine g_callS [_, _, _] dX4_source_5 mc_X4_46 ms_X4_isOutside (c_isOutside_0 hlt a1 a2) rfl (Nat.le_of_ble_eq_true rfl) (am_rm hR (by decide)) (fun _ _ z => z) (fun v hx hq hE => ?_)
  obtain ⟨rfl, rfl⟩ := hq
  refine g_if_eq 21 dX4_source_8 (by decide) (fun _ => ?_) (fun z => absurd z (by decide))
  refine g_aload_n dX4_source_21 rfl ?_
  refine w_getI w dX4_source_22 fl_X4_33 rfl rfl (by first | rfl | assumption) ?_
  refine g_if_eq 38 dX4_source_25 (by decide) (fun z => absurd z hf) (fun c_25 => ?_)
  rw [hQ]
  refine g_throw (text := "all is FLOWING") dX4_source_28 dX4_source_31 dX4_source_32 dX4_source_34 dX4_source_37 tw_61 (by simp [am_strs]) hno (by rw [hR]; decide) (by rw [hR]; exact Nat.le_of_ble_eq_true rfl) (by rw [hR]; decide) (by rw [hR]; decide) (by decide) (by decide) ?_
  exact ⟨rfl, rfl⟩
set_option maxRecDepth 100000 in
set_option maxHeartbeats 4000000 in
theorem c_X4_source_0 {l : Launch} (hlt : l.stackTraces = false) {N n p : Nat} {ord : List Nat} {L : Nat → Nat → Nat} {Γ : Nat → Nat → Nat → Int32} {o : Int64} {h : am_H} (w : WI N n p ord L Γ o h) {a : Int32} (a1 : ¬ a < 0) (a2 : a ≤ 9999) (hf : Γ 5 0 5 = 0) : am_Con l yX4_source (.code yX4_source cX4_source 3 (some .int)) 20 0 0 [.ref (L 5 0), .int a] h (fun v h' => v = some (.int (Γ 3 0 1)) ∧ WI N n p ord L (u3 Γ 3 0 1 a) o h') (fun _ _ => False) := by
  refine am_body hlt (by decide +kernel) (Nat.le_of_ble_eq_true rfl) (fun k hl hR h0 hno => ?_)
  subst hl
  obtain ⟨Qf, hQ⟩ : ∃ Qf, Qf = am_Q k 0 0 (fun v h' => v = some (.int (Γ 3 0 1)) ∧ WI N n p ord L (u3 Γ 3 0 1 a) o h') (fun _ _ => False) := ⟨_, rfl⟩
  rw [← hQ]
  have hx0 : wdm n p 5 0 = true := rfl
  have hn0 : wdm n p 3 0 = true := rfl
  have hn8 : n ≤ 8 := w.1.1
  have hp24 : p ≤ 24 := w.1.2.1
  have ho8 : ord.length ≤ 8 := w.1.2.2.2.2
  refine g_iload_n dX4_source_0 rfl ?_
  refine g_iconst (v := 0) dX4_source_1 (by decide) ?_
  refine g_sipush (v := 9999) dX4_source_2 (by decide) ?_
  refine g_callS [_, _, _] dX4_source_5 mc_X4_46 ms_X4_isOutside (c_isOutside_0 hlt a1 a2) rfl (Nat.le_of_ble_eq_true rfl) (am_rm hR (by decide)) (fun _ _ z => z) (fun v hx hq hE => ?_)
  obtain ⟨rfl, rfl⟩ := hq
  refine g_if_eq 21 dX4_source_8 (by decide) (fun _ => ?_) (fun z => absurd z (by decide))
  refine g_aload_n dX4_source_21 rfl ?_
  refine w_getI w dX4_source_22 fl_X4_33 rfl rfl (by first | rfl | assumption) ?_
  refine g_if_eq 38 dX4_source_25 (by decide) (fun c_25 => ?_) (fun z => absurd hf z)
  refine g_aload_n dX4_source_38 rfl ?_
  refine w_getR w dX4_source_39 fl_X4_19 rfl rfl (by first | rfl | assumption) rfl ?_
  refine w_getI w dX4_source_42 fl_X4_98 rfl rfl (by first | rfl | assumption) ?_
  refine g_istore_n dX4_source_45 (by decide) rfl ?_
  refine g_aload_n dX4_source_46 rfl ?_
  refine w_getR w dX4_source_47 fl_X4_19 rfl rfl (by first | rfl | assumption) rfl ?_
  refine g_iload_n dX4_source_50 rfl ?_
  refine w_putI w dX4_source_51 fl_X4_98 rfl rfl (by decide) (fun q hq => by cases hq; rfl) (by first | rfl | assumption) rfl rfl (fun h1 w1 => ?_)
  refine g_iload_n dX4_source_54 rfl ?_
  rw [hQ]
  refine g_iret dX4_source_55 rfl rfl (by decide) (by decide) ?_
  exact ⟨rfl, w1⟩
set_option maxRecDepth 100000 in
set_option maxHeartbeats 4000000 in
theorem c_X4_bid_1 {l : Launch} (hlt : l.stackTraces = false) {N n p : Nat} {ord : List Nat} {L : Nat → Nat → Nat} {Γ : Nat → Nat → Nat → Int32} {o : Int64} {h : am_H} (w : WI N n p ord L Γ o h) {c a b : Int32} (hb : c < 0 ∨ nI n ≤ c) : am_Con l yX4_bid (.code yX4_bid cX4_bid 5 (some .int)) 20 1 6 [.ref (L 5 0), .int c, .int a, .int b] h (fun v h' => False) (fun E h' => E = "java/lang/IndexOutOfBoundsException" ∧ h' = h) := by
  refine am_body hlt (by decide +kernel) (Nat.le_of_ble_eq_true rfl) (fun k hl hR h0 hno => ?_)
  subst hl
  obtain ⟨Qf, hQ⟩ : ∃ Qf, Qf = am_Q k 1 6 (fun v h' => False) (fun E h' => E = "java/lang/IndexOutOfBoundsException" ∧ h' = h) := ⟨_, rfl⟩
  rw [← hQ]
  have hx0 : wdm n p 5 0 = true := rfl
  have hn0 : wdm n p 3 0 = true := rfl
  have hn8 : n ≤ 8 := w.1.1
  have hp24 : p ≤ 24 := w.1.2.1
  have ho8 : ord.length ≤ 8 := w.1.2.2.2.2
  refine g_aload_n dX4_bid_0 rfl ?_
  refine g_iload_n dX4_bid_1 rfl ?_
  refine g_callV [_] dX4_bid_2 mc_X4_75 mi_X4_isNoDistrict se_X4_isNoDistrict (c_isNoDistrict_1 hlt w (by assumption)) (w.k (by first | rfl | assumption)) rfl rfl (Nat.le_of_ble_eq_true rfl) (am_rm hR (by decide)) (fun _ _ z => z) (fun v hx hq hE => ?_)
  obtain ⟨rfl, rfl⟩ := hq
  refine g_if_eq 18 dX4_bid_5 (by decide) (fun z => absurd z (by decide)) (fun _ => ?_)
  rw [hQ]
  refine g_throw (text := "no such district") dX4_bid_8 dX4_bid_11 dX4_bid_12 dX4_bid_14 dX4_bid_17 tw_79 (by simp [am_strs]) hno (by rw [hR]; decide) (by rw [hR]; exact Nat.le_of_ble_eq_true rfl) (by rw [hR]; decide) (by rw [hR]; decide) (by decide) (by decide) ?_
  exact ⟨rfl, rfl⟩
set_option maxRecDepth 100000 in
set_option maxHeartbeats 4000000 in
theorem c_X4_bid_2a {l : Launch} (hlt : l.stackTraces = false) {N n p : Nat} {ord : List Nat} {L : Nat → Nat → Nat} {Γ : Nat → Nat → Nat → Int32} {o : Int64} {h : am_H} (w : WI N n p ord L Γ o h) {i : Nat} (hi : i < n) {a b : Int32} (ab : a < 0 ∨ ¬ a ≤ 99) : am_Con l yX4_bid (.code yX4_bid cX4_bid 5 (some .int)) 20 1 6 [.ref (L 5 0), .int (nI i), .int a, .int b] h (fun v h' => False) (fun E h' => E = "java/lang/IllegalArgumentException" ∧ h' = h) := by
  refine am_body hlt (by decide +kernel) (Nat.le_of_ble_eq_true rfl) (fun k hl hR h0 hno => ?_)
  subst hl
  obtain ⟨Qf, hQ⟩ : ∃ Qf, Qf = am_Q k 1 6 (fun v h' => False) (fun E h' => E = "java/lang/IllegalArgumentException" ∧ h' = h) := ⟨_, rfl⟩
  rw [← hQ]
  have hx0 : wdm n p 5 0 = true := rfl
  have hn0 : wdm n p 3 0 = true := rfl
  have hn8 : n ≤ 8 := w.1.1
  have hp24 : p ≤ 24 := w.1.2.1
  have ho8 : ord.length ≤ 8 := w.1.2.2.2.2
  refine g_aload_n dX4_bid_0 rfl ?_
  refine g_iload_n dX4_bid_1 rfl ?_
  refine g_callV [_] dX4_bid_2 mc_X4_75 mi_X4_isNoDistrict se_X4_isNoDistrict (c_isNoDistrict_0 hlt w (by assumption)) (w.k (by first | rfl | assumption)) rfl rfl (Nat.le_of_ble_eq_true rfl) (am_rm hR (by decide)) (fun _ _ z => z) (fun v hx hq hE => ?_)
  obtain ⟨rfl, rfl⟩ := hq
  refine g_if_eq 18 dX4_bid_5 (by decide) (fun _ => ?_) (fun z => absurd z (by decide))
  refine g_iload_n dX4_bid_18 rfl ?_
  refine g_iconst (v := 0) dX4_bid_19 (by decide) ?_
  refine g_bipush (v := 99) dX4_bid_20 (by decide) ?_
  refine g_callS [_, _, _] dX4_bid_22 mc_X4_46 ms_X4_isOutside (c_isOutside_1 hlt ab) rfl (Nat.le_of_ble_eq_true rfl) (am_rm hR (by decide)) (fun _ _ z => z) (fun v hx hq hE => ?_)
  obtain ⟨rfl, rfl⟩ := hq
  refine g_if_ne 39 dX4_bid_25 (by decide) (fun _ => ?_) (fun z => absurd z (by decide))
  rw [hQ]
  refine g_throw (text := "price or units is out of range") dX4_bid_39 dX4_bid_42 dX4_bid_43 dX4_bid_45 dX4_bid_48 tw_50 (by simp [am_strs]) hno (by rw [hR]; decide) (by rw [hR]; exact Nat.le_of_ble_eq_true rfl) (by rw [hR]; decide) (by rw [hR]; decide) (by decide) (by decide) ?_
  exact ⟨rfl, rfl⟩
set_option maxRecDepth 100000 in
set_option maxHeartbeats 4000000 in
theorem c_X4_bid_2b {l : Launch} (hlt : l.stackTraces = false) {N n p : Nat} {ord : List Nat} {L : Nat → Nat → Nat} {Γ : Nat → Nat → Nat → Int32} {o : Int64} {h : am_H} (w : WI N n p ord L Γ o h) {i : Nat} (hi : i < n) {a b : Int32} (a1 : ¬ a < 0) (a2 : a ≤ 99) (bb : b < 0 ∨ ¬ b ≤ 999) : am_Con l yX4_bid (.code yX4_bid cX4_bid 5 (some .int)) 20 1 6 [.ref (L 5 0), .int (nI i), .int a, .int b] h (fun v h' => False) (fun E h' => E = "java/lang/IllegalArgumentException" ∧ h' = h) := by
  refine am_body hlt (by decide +kernel) (Nat.le_of_ble_eq_true rfl) (fun k hl hR h0 hno => ?_)
  subst hl
  obtain ⟨Qf, hQ⟩ : ∃ Qf, Qf = am_Q k 1 6 (fun v h' => False) (fun E h' => E = "java/lang/IllegalArgumentException" ∧ h' = h) := ⟨_, rfl⟩
  rw [← hQ]
  have hx0 : wdm n p 5 0 = true := rfl
  have hn0 : wdm n p 3 0 = true := rfl
  have hn8 : n ≤ 8 := w.1.1
  have hp24 : p ≤ 24 := w.1.2.1
  have ho8 : ord.length ≤ 8 := w.1.2.2.2.2
  refine g_aload_n dX4_bid_0 rfl ?_
  refine g_iload_n dX4_bid_1 rfl ?_
  refine g_callV [_] dX4_bid_2 mc_X4_75 mi_X4_isNoDistrict se_X4_isNoDistrict (c_isNoDistrict_0 hlt w (by assumption)) (w.k (by first | rfl | assumption)) rfl rfl (Nat.le_of_ble_eq_true rfl) (am_rm hR (by decide)) (fun _ _ z => z) (fun v hx hq hE => ?_)
  obtain ⟨rfl, rfl⟩ := hq
  refine g_if_eq 18 dX4_bid_5 (by decide) (fun _ => ?_) (fun z => absurd z (by decide))
  refine g_iload_n dX4_bid_18 rfl ?_
  refine g_iconst (v := 0) dX4_bid_19 (by decide) ?_
  refine g_bipush (v := 99) dX4_bid_20 (by decide) ?_
  refine g_callS [_, _, _] dX4_bid_22 mc_X4_46 ms_X4_isOutside (c_isOutside_0 hlt a1 a2) rfl (Nat.le_of_ble_eq_true rfl) (am_rm hR (by decide)) (fun _ _ z => z) (fun v hx hq hE => ?_)
  obtain ⟨rfl, rfl⟩ := hq
  refine g_if_ne 39 dX4_bid_25 (by decide) (fun z => absurd z (by decide)) (fun _ => ?_)
  refine g_iload_n dX4_bid_28 rfl ?_
  refine g_iconst (v := 0) dX4_bid_29 (by decide) ?_
  refine g_sipush (v := 999) dX4_bid_30 (by decide) ?_
  refine g_callS [_, _, _] dX4_bid_33 mc_X4_46 ms_X4_isOutside (c_isOutside_1 hlt bb) rfl (Nat.le_of_ble_eq_true rfl) (am_rm hR (by decide)) (fun _ _ z => z) (fun v hx hq hE => ?_)
  obtain ⟨rfl, rfl⟩ := hq
  refine g_if_eq 49 dX4_bid_36 (by decide) (fun z => absurd z (by decide)) (fun _ => ?_)
  rw [hQ]
  refine g_throw (text := "price or units is out of range") dX4_bid_39 dX4_bid_42 dX4_bid_43 dX4_bid_45 dX4_bid_48 tw_50 (by simp [am_strs]) hno (by rw [hR]; decide) (by rw [hR]; exact Nat.le_of_ble_eq_true rfl) (by rw [hR]; decide) (by rw [hR]; decide) (by decide) (by decide) ?_
  exact ⟨rfl, rfl⟩
set_option maxRecDepth 100000 in
set_option maxHeartbeats 4000000 in
theorem c_X4_bid_3a {l : Launch} (hlt : l.stackTraces = false) {N n p : Nat} {ord : List Nat} {L : Nat → Nat → Nat} {Γ : Nat → Nat → Nat → Int32} {o : Int64} {h : am_H} (w : WI N n p ord L Γ o h) {i : Nat} (hi : i < n) {a b : Int32} (a1 : ¬ a < 0) (a2 : a ≤ 99) (b1 : ¬ b < 0) (b2 : b ≤ 999) (hf : ¬ Γ 5 0 5 = 0) : am_Con l yX4_bid (.code yX4_bid cX4_bid 5 (some .int)) 20 1 6 [.ref (L 5 0), .int (nI i), .int a, .int b] h (fun v h' => False) (fun E h' => E = "java/lang/IllegalStateException" ∧ h' = h) := by
  refine am_body hlt (by decide +kernel) (Nat.le_of_ble_eq_true rfl) (fun k hl hR h0 hno => ?_)
  subst hl
  obtain ⟨Qf, hQ⟩ : ∃ Qf, Qf = am_Q k 1 6 (fun v h' => False) (fun E h' => E = "java/lang/IllegalStateException" ∧ h' = h) := ⟨_, rfl⟩
  rw [← hQ]
  have hx0 : wdm n p 5 0 = true := rfl
  have hn0 : wdm n p 3 0 = true := rfl
  have hn8 : n ≤ 8 := w.1.1
  have hp24 : p ≤ 24 := w.1.2.1
  have ho8 : ord.length ≤ 8 := w.1.2.2.2.2
  have hdi : wdm n p 2 i = true := decide_eq_true hi
  have hdi1 : wdm n p 1 i = true := decide_eq_true hi
  have hdi0 : wdm n p 0 i = true := decide_eq_true hi
  refine g_aload_n dX4_bid_0 rfl ?_
  refine g_iload_n dX4_bid_1 rfl ?_
  refine g_callV [_] dX4_bid_2 mc_X4_75 mi_X4_isNoDistrict se_X4_isNoDistrict (c_isNoDistrict_0 hlt w (by assumption)) (w.k (by first | rfl | assumption)) rfl rfl (Nat.le_of_ble_eq_true rfl) (am_rm hR (by decide)) (fun _ _ z => z) (fun v hx hq hE => ?_)
  obtain ⟨rfl, rfl⟩ := hq
  refine g_if_eq 18 dX4_bid_5 (by decide) (fun _ => ?_) (fun z => absurd z (by decide))
  refine g_iload_n dX4_bid_18 rfl ?_
  refine g_iconst (v := 0) dX4_bid_19 (by decide) ?_
  refine g_bipush (v := 99) dX4_bid_20 (by decide) ?_
  refine g_callS [_, _, _] dX4_bid_22 mc_X4_46 ms_X4_isOutside (c_isOutside_0 hlt a1 a2) rfl (Nat.le_of_ble_eq_true rfl) (am_rm hR (by decide)) (fun _ _ z => z) (fun v hx hq hE => ?_)
  obtain ⟨rfl, rfl⟩ := hq
  refine g_if_ne 39 dX4_bid_25 (by decide) (fun z => absurd z (by decide)) (fun _ => ?_)
  refine g_iload_n dX4_bid_28 rfl ?_
  refine g_iconst (v := 0) dX4_bid_29 (by decide) ?_
  refine g_sipush (v := 999) dX4_bid_30 (by decide) ?_
  refine g_callS [_, _, _] dX4_bid_33 mc_X4_46 ms_X4_isOutside (c_isOutside_0 hlt b1 b2) rfl (Nat.le_of_ble_eq_true rfl) (am_rm hR (by decide)) (fun _ _ z => z) (fun v hx hq hE => ?_)
  obtain ⟨rfl, rfl⟩ := hq
  refine g_if_eq 49 dX4_bid_36 (by decide) (fun _ => ?_) (fun z => absurd z (by decide))
  refine g_aload_n dX4_bid_49 rfl ?_
  refine w_getR w dX4_bid_50 fl_X4_12 rfl rfl (by first | rfl | assumption) rfl ?_
  refine g_iload_n dX4_bid_53 rfl ?_
  refine g_callV [_] dX4_bid_54 mc_X4_103 mi_Jx4a65c_get_915e3 se_Jx4a65c_get_915e3 (c_get0 hlt w (by first | assumption | omega)) (w.k (by first | rfl | assumption)) rfl rfl (Nat.le_of_ble_eq_true rfl) (am_rm hR (by decide)) (fun _ _ z => z) (fun v hx hq hE => ?_)
  obtain ⟨rfl, rfl⟩ := hq
  refine g_castS (q := (RX1, TX1, 14)) dX4_bid_57 kl_X4_66 (w.k (by first | rfl | assumption)) rfl ?_
  refine g_astore dX4_bid_60 (by decide) rfl ?_
  refine g_aload_n dX4_bid_62 rfl ?_
  refine w_getI w dX4_bid_63 fl_X4_33 rfl rfl (by first | rfl | assumption) ?_
  refine g_if_ne 92 dX4_bid_66 (by decide) (fun c_66 => ?_) (fun z => absurd z hf)
  rw [hQ]
  refine g_throw (text := "no BIDDING, or the price is below that of the bid that stands") dX4_bid_92 dX4_bid_95 dX4_bid_96 dX4_bid_98 dX4_bid_101 tw_61 (by simp [am_strs]) hno (by rw [hR]; decide) (by rw [hR]; exact Nat.le_of_ble_eq_true rfl) (by rw [hR]; decide) (by rw [hR]; decide) (by decide) (by decide) ?_
  exact ⟨rfl, rfl⟩
set_option maxRecDepth 100000 in
set_option maxHeartbeats 4000000 in
theorem c_X4_bid_3b {l : Launch} (hlt : l.stackTraces = false) {N n p : Nat} {ord : List Nat} {L : Nat → Nat → Nat} {Γ : Nat → Nat → Nat → Int32} {o : Int64} {h : am_H} (w : WI N n p ord L Γ o h) {i : Nat} (hi : i < n) {a b : Int32} (a1 : ¬ a < 0) (a2 : a ≤ 99) (b1 : ¬ b < 0) (b2 : b ≤ 999) (hf : Γ 5 0 5 = 0) (hs : ¬ Γ 0 i 0 = 0) (hl : ¬ Γ 0 i 1 ≤ a) : am_Con l yX4_bid (.code yX4_bid cX4_bid 5 (some .int)) 20 1 6 [.ref (L 5 0), .int (nI i), .int a, .int b] h (fun v h' => False) (fun E h' => E = "java/lang/IllegalStateException" ∧ h' = h) := by
  refine am_body hlt (by decide +kernel) (Nat.le_of_ble_eq_true rfl) (fun k hl hR h0 hno => ?_)
  subst hl
  obtain ⟨Qf, hQ⟩ : ∃ Qf, Qf = am_Q k 1 6 (fun v h' => False) (fun E h' => E = "java/lang/IllegalStateException" ∧ h' = h) := ⟨_, rfl⟩
  rw [← hQ]
  have hx0 : wdm n p 5 0 = true := rfl
  have hn0 : wdm n p 3 0 = true := rfl
  have hn8 : n ≤ 8 := w.1.1
  have hp24 : p ≤ 24 := w.1.2.1
  have ho8 : ord.length ≤ 8 := w.1.2.2.2.2
  have hdi : wdm n p 2 i = true := decide_eq_true hi
  have hdi1 : wdm n p 1 i = true := decide_eq_true hi
  have hdi0 : wdm n p 0 i = true := decide_eq_true hi
  refine g_aload_n dX4_bid_0 rfl ?_
  refine g_iload_n dX4_bid_1 rfl ?_
  refine g_callV [_] dX4_bid_2 mc_X4_75 mi_X4_isNoDistrict se_X4_isNoDistrict (c_isNoDistrict_0 hlt w (by assumption)) (w.k (by first | rfl | assumption)) rfl rfl (Nat.le_of_ble_eq_true rfl) (am_rm hR (by decide)) (fun _ _ z => z) (fun v hx hq hE => ?_)
  obtain ⟨rfl, rfl⟩ := hq
  refine g_if_eq 18 dX4_bid_5 (by decide) (fun _ => ?_) (fun z => absurd z (by decide))
  refine g_iload_n dX4_bid_18 rfl ?_
  refine g_iconst (v := 0) dX4_bid_19 (by decide) ?_
  refine g_bipush (v := 99) dX4_bid_20 (by decide) ?_
  refine g_callS [_, _, _] dX4_bid_22 mc_X4_46 ms_X4_isOutside (c_isOutside_0 hlt a1 a2) rfl (Nat.le_of_ble_eq_true rfl) (am_rm hR (by decide)) (fun _ _ z => z) (fun v hx hq hE => ?_)
  obtain ⟨rfl, rfl⟩ := hq
  refine g_if_ne 39 dX4_bid_25 (by decide) (fun z => absurd z (by decide)) (fun _ => ?_)
  refine g_iload_n dX4_bid_28 rfl ?_
  refine g_iconst (v := 0) dX4_bid_29 (by decide) ?_
  refine g_sipush (v := 999) dX4_bid_30 (by decide) ?_
  refine g_callS [_, _, _] dX4_bid_33 mc_X4_46 ms_X4_isOutside (c_isOutside_0 hlt b1 b2) rfl (Nat.le_of_ble_eq_true rfl) (am_rm hR (by decide)) (fun _ _ z => z) (fun v hx hq hE => ?_)
  obtain ⟨rfl, rfl⟩ := hq
  refine g_if_eq 49 dX4_bid_36 (by decide) (fun _ => ?_) (fun z => absurd z (by decide))
  refine g_aload_n dX4_bid_49 rfl ?_
  refine w_getR w dX4_bid_50 fl_X4_12 rfl rfl (by first | rfl | assumption) rfl ?_
  refine g_iload_n dX4_bid_53 rfl ?_
  refine g_callV [_] dX4_bid_54 mc_X4_103 mi_Jx4a65c_get_915e3 se_Jx4a65c_get_915e3 (c_get0 hlt w (by first | assumption | omega)) (w.k (by first | rfl | assumption)) rfl rfl (Nat.le_of_ble_eq_true rfl) (am_rm hR (by decide)) (fun _ _ z => z) (fun v hx hq hE => ?_)
  obtain ⟨rfl, rfl⟩ := hq
  refine g_castS (q := (RX1, TX1, 14)) dX4_bid_57 kl_X4_66 (w.k (by first | rfl | assumption)) rfl ?_
  refine g_astore dX4_bid_60 (by decide) rfl ?_
  refine g_aload_n dX4_bid_62 rfl ?_
  refine w_getI w dX4_bid_63 fl_X4_33 rfl rfl (by first | rfl | assumption) ?_
  refine g_if_ne 92 dX4_bid_66 (by decide) (fun z => absurd hf z) (fun c_66 => ?_)
  refine g_aload dX4_bid_69 rfl ?_
  refine w_getR w dX4_bid_71 fl_X4_112 rfl rfl (by first | rfl | assumption) rfl ?_
  refine w_getI w dX4_bid_74 fl_X4_116 rfl rfl (by first | rfl | assumption) ?_
  refine g_if_eq 102 dX4_bid_77 (by decide) (fun z => absurd z hs) (fun c_77 => ?_)
  refine g_iload_n dX4_bid_80 rfl ?_
  refine g_aload dX4_bid_81 rfl ?_
  refine w_getR w dX4_bid_83 fl_X4_112 rfl rfl (by first | rfl | assumption) rfl ?_
  refine w_getI w dX4_bid_86 fl_X4_121 rfl rfl (by first | rfl | assumption) ?_
  refine g_icmp_ge 102 dX4_bid_89 (by decide) (fun z => absurd z hl) (fun c_89 => ?_)
  rw [hQ]
  refine g_throw (text := "no BIDDING, or the price is below that of the bid that stands") dX4_bid_92 dX4_bid_95 dX4_bid_96 dX4_bid_98 dX4_bid_101 tw_61 (by simp [am_strs]) hno (by rw [hR]; decide) (by rw [hR]; exact Nat.le_of_ble_eq_true rfl) (by rw [hR]; decide) (by rw [hR]; decide) (by decide) (by decide) ?_
  exact ⟨rfl, rfl⟩
/-- what a bid of the class leaves -/
def sp_cbid (Γ : Nat → Nat → Nat → Int32) (i : Nat) (a b : Int32) : Nat → Nat → Nat → Int32 :=
  let Γ1 := if Γ 1 i 0 = 0 then u3 Γ 5 0 6 (Γ 5 0 6 + 1) else Γ
  u3 (u3 (u3 (u3 (u3 Γ1 1 i 0 1) 1 i 1 a) 1 i 2 b) 1 i 3 (Γ 5 0 7)) 5 0 7 (Γ 5 0 7 + 1)
set_option maxRecDepth 100000 in
set_option maxHeartbeats 4000000 in
theorem c_X4_bid_0a {l : Launch} (hlt : l.stackTraces = false) {N n p : Nat} {ord : List Nat} {L : Nat → Nat → Nat} {Γ : Nat → Nat → Nat → Int32} {o : Int64} {h : am_H} (w : WI N n p ord L Γ o h) {i : Nat} (hi : i < n) {a b : Int32} (a1 : ¬ a < 0) (a2 : a ≤ 99) (b1 : ¬ b < 0) (b2 : b ≤ 999) (hf : Γ 5 0 5 = 0) (hs : Γ 0 i 0 = 0) : am_Con l yX4_bid (.code yX4_bid cX4_bid 5 (some .int)) 20 0 0 [.ref (L 5 0), .int (nI i), .int a, .int b] h (fun v h' => v = some (.int (sp_cbid Γ i a b 5 0 6)) ∧ WI N n p ord L (sp_cbid Γ i a b) o h') (fun _ _ => False) := by
  refine am_body hlt (by decide +kernel) (Nat.le_of_ble_eq_true rfl) (fun k hl hR h0 hno => ?_)
  subst hl
  obtain ⟨Qf, hQ⟩ : ∃ Qf, Qf = am_Q k 0 0 (fun v h' => v = some (.int (sp_cbid Γ i a b 5 0 6)) ∧ WI N n p ord L (sp_cbid Γ i a b) o h') (fun _ _ => False) := ⟨_, rfl⟩
  rw [← hQ]
  have hx0 : wdm n p 5 0 = true := rfl
  have hn0 : wdm n p 3 0 = true := rfl
  have hn8 : n ≤ 8 := w.1.1
  have hp24 : p ≤ 24 := w.1.2.1
  have ho8 : ord.length ≤ 8 := w.1.2.2.2.2
  have hdi : wdm n p 2 i = true := decide_eq_true hi
  have hdi1 : wdm n p 1 i = true := decide_eq_true hi
  have hdi0 : wdm n p 0 i = true := decide_eq_true hi
  refine g_aload_n dX4_bid_0 rfl ?_
  refine g_iload_n dX4_bid_1 rfl ?_
  refine g_callV [_] dX4_bid_2 mc_X4_75 mi_X4_isNoDistrict se_X4_isNoDistrict (c_isNoDistrict_0 hlt w (by assumption)) (w.k (by first | rfl | assumption)) rfl rfl (Nat.le_of_ble_eq_true rfl) (am_rm hR (by decide)) (fun _ _ z => z) (fun v hx hq hE => ?_)
  obtain ⟨rfl, rfl⟩ := hq
  refine g_if_eq 18 dX4_bid_5 (by decide) (fun _ => ?_) (fun z => absurd z (by decide))
  refine g_iload_n dX4_bid_18 rfl ?_
  refine g_iconst (v := 0) dX4_bid_19 (by decide) ?_
  refine g_bipush (v := 99) dX4_bid_20 (by decide) ?_
  refine g_callS [_, _, _] dX4_bid_22 mc_X4_46 ms_X4_isOutside (c_isOutside_0 hlt a1 a2) rfl (Nat.le_of_ble_eq_true rfl) (am_rm hR (by decide)) (fun _ _ z => z) (fun v hx hq hE => ?_)
  obtain ⟨rfl, rfl⟩ := hq
  refine g_if_ne 39 dX4_bid_25 (by decide) (fun z => absurd z (by decide)) (fun _ => ?_)
  refine g_iload_n dX4_bid_28 rfl ?_
  refine g_iconst (v := 0) dX4_bid_29 (by decide) ?_
  refine g_sipush (v := 999) dX4_bid_30 (by decide) ?_
  refine g_callS [_, _, _] dX4_bid_33 mc_X4_46 ms_X4_isOutside (c_isOutside_0 hlt b1 b2) rfl (Nat.le_of_ble_eq_true rfl) (am_rm hR (by decide)) (fun _ _ z => z) (fun v hx hq hE => ?_)
  obtain ⟨rfl, rfl⟩ := hq
  refine g_if_eq 49 dX4_bid_36 (by decide) (fun _ => ?_) (fun z => absurd z (by decide))
  refine g_aload_n dX4_bid_49 rfl ?_
  refine w_getR w dX4_bid_50 fl_X4_12 rfl rfl (by first | rfl | assumption) rfl ?_
  refine g_iload_n dX4_bid_53 rfl ?_
  refine g_callV [_] dX4_bid_54 mc_X4_103 mi_Jx4a65c_get_915e3 se_Jx4a65c_get_915e3 (c_get0 hlt w (by first | assumption | omega)) (w.k (by first | rfl | assumption)) rfl rfl (Nat.le_of_ble_eq_true rfl) (am_rm hR (by decide)) (fun _ _ z => z) (fun v hx hq hE => ?_)
  obtain ⟨rfl, rfl⟩ := hq
  refine g_castS (q := (RX1, TX1, 14)) dX4_bid_57 kl_X4_66 (w.k (by first | rfl | assumption)) rfl ?_
  refine g_astore dX4_bid_60 (by decide) rfl ?_
  refine g_aload_n dX4_bid_62 rfl ?_
  refine w_getI w dX4_bid_63 fl_X4_33 rfl rfl (by first | rfl | assumption) ?_
  refine g_if_ne 92 dX4_bid_66 (by decide) (fun z => absurd hf z) (fun c_66 => ?_)
  refine g_aload dX4_bid_69 rfl ?_
  refine w_getR w dX4_bid_71 fl_X4_112 rfl rfl (by first | rfl | assumption) rfl ?_
  refine w_getI w dX4_bid_74 fl_X4_116 rfl rfl (by first | rfl | assumption) ?_
  refine g_if_eq 102 dX4_bid_77 (by decide) (fun c_77 => ?_) (fun z => absurd hs z)
  refine g_aload dX4_bid_102 rfl ?_
  refine w_getR w dX4_bid_104 fl_X4_126 rfl rfl (by first | rfl | assumption) rfl ?_
  refine w_getI w dX4_bid_107 fl_X4_116 rfl rfl (by first | rfl | assumption) ?_
  refine g_if_ne 123 dX4_bid_110 (by decide) (fun c_110 => ?_) (fun c_110 => ?_)
  · skip
    refine g_aload dX4_bid_123 rfl ?_
    refine w_getR w dX4_bid_125 fl_X4_126 rfl rfl (by first | rfl | assumption) rfl ?_
    refine g_iload_n dX4_bid_128 rfl ?_
    refine g_iload_n dX4_bid_129 rfl ?_
    refine g_aload_n dX4_bid_130 rfl ?_
    refine w_getI w dX4_bid_131 fl_X4_40 rfl rfl (by first | rfl | assumption) ?_
    refine g_callV [_, _, _] dX4_bid_134 mc_X4_129 mi_X0_set se_X0_set (c_X0_set_t hlt w (by assumption) _ _ _) (w.k (by first | rfl | assumption)) rfl rfl (Nat.le_of_ble_eq_true rfl) (am_rm hR (by decide)) (fun _ _ z => z) (fun v hx hq hE => ?_)
    obtain ⟨rfl, w1⟩ := hq
    refine g_aload_n dX4_bid_137 rfl ?_
    refine g_dup dX4_bid_138 rfl ?_
    refine w_getI w1 dX4_bid_139 fl_X4_40 rfl rfl (by first | rfl | assumption) ?_
    refine g_iconst (v := 1) dX4_bid_142 (by decide) ?_
    refine g_iadd dX4_bid_143 ?_
    refine w_putI w1 dX4_bid_144 fl_X4_40 rfl rfl (by decide) (fun q hq => by cases hq; rfl) (by first | rfl | assumption) rfl rfl (fun h2 w2 => ?_)
    refine g_aload_n dX4_bid_147 rfl ?_
    refine w_getI w2 dX4_bid_148 fl_X4_37 rfl rfl (by first | rfl | assumption) ?_
    rw [hQ]
    refine g_iret dX4_bid_151 rfl rfl (by decide) (by decide) ?_
    exact ⟨by simp [sp_cbid, u3_ap, c_66, c_77, c_110], by simpa [sp_cbid, u3_ap, c_66, c_77, c_110] using w2⟩
  · skip
    refine g_aload_n dX4_bid_113 rfl ?_
    refine g_dup dX4_bid_114 rfl ?_
    refine w_getI w dX4_bid_115 fl_X4_37 rfl rfl (by first | rfl | assumption) ?_
    refine g_iconst (v := 1) dX4_bid_118 (by decide) ?_
    refine g_iadd dX4_bid_119 ?_
    refine w_putI w dX4_bid_120 fl_X4_37 rfl rfl (by decide) (fun q hq => by cases hq; rfl) (by first | rfl | assumption) rfl rfl (fun h3 w3 => ?_)
    refine g_aload dX4_bid_123 rfl ?_
    refine w_getR w3 dX4_bid_125 fl_X4_126 rfl rfl (by first | rfl | assumption) rfl ?_
    refine g_iload_n dX4_bid_128 rfl ?_
    refine g_iload_n dX4_bid_129 rfl ?_
    refine g_aload_n dX4_bid_130 rfl ?_
    refine w_getI w3 dX4_bid_131 fl_X4_40 rfl rfl (by first | rfl | assumption) ?_
    refine g_callV [_, _, _] dX4_bid_134 mc_X4_129 mi_X0_set se_X0_set (c_X0_set_t hlt w3 (by assumption) _ _ _) (w3.k (by first | rfl | assumption)) rfl rfl (Nat.le_of_ble_eq_true rfl) (am_rm hR (by decide)) (fun _ _ z => z) (fun v hx hq hE => ?_)
    obtain ⟨rfl, w4⟩ := hq
    refine g_aload_n dX4_bid_137 rfl ?_
    refine g_dup dX4_bid_138 rfl ?_
    refine w_getI w4 dX4_bid_139 fl_X4_40 rfl rfl (by first | rfl | assumption) ?_
    refine g_iconst (v := 1) dX4_bid_142 (by decide) ?_
    refine g_iadd dX4_bid_143 ?_
    refine w_putI w4 dX4_bid_144 fl_X4_40 rfl rfl (by decide) (fun q hq => by cases hq; rfl) (by first | rfl | assumption) rfl rfl (fun h5 w5 => ?_)
    refine g_aload_n dX4_bid_147 rfl ?_
    refine w_getI w5 dX4_bid_148 fl_X4_37 rfl rfl (by first | rfl | assumption) ?_
    rw [hQ]
    refine g_iret dX4_bid_151 rfl rfl (by decide) (by decide) ?_
    exact ⟨by simp [sp_cbid, u3_ap, c_66, c_77, c_110], by simpa [sp_cbid, u3_ap, c_66, c_77, c_110] using w5⟩
set_option maxRecDepth 100000 in
set_option maxHeartbeats 4000000 in
theorem c_X4_bid_0b {l : Launch} (hlt : l.stackTraces = false) {N n p : Nat} {ord : List Nat} {L : Nat → Nat → Nat} {Γ : Nat → Nat → Nat → Int32} {o : Int64} {h : am_H} (w : WI N n p ord L Γ o h) {i : Nat} (hi : i < n) {a b : Int32} (a1 : ¬ a < 0) (a2 : a ≤ 99) (b1 : ¬ b < 0) (b2 : b ≤ 999) (hf : Γ 5 0 5 = 0) (hs : ¬ Γ 0 i 0 = 0) (hl : Γ 0 i 1 ≤ a) : am_Con l yX4_bid (.code yX4_bid cX4_bid 5 (some .int)) 20 0 0 [.ref (L 5 0), .int (nI i), .int a, .int b] h (fun v h' => v = some (.int (sp_cbid Γ i a b 5 0 6)) ∧ WI N n p ord L (sp_cbid Γ i a b) o h') (fun _ _ => False) := by
  refine am_body hlt (by decide +kernel) (Nat.le_of_ble_eq_true rfl) (fun k hl hR h0 hno => ?_)
  subst hl
  obtain ⟨Qf, hQ⟩ : ∃ Qf, Qf = am_Q k 0 0 (fun v h' => v = some (.int (sp_cbid Γ i a b 5 0 6)) ∧ WI N n p ord L (sp_cbid Γ i a b) o h') (fun _ _ => False) := ⟨_, rfl⟩
  rw [← hQ]
  have hx0 : wdm n p 5 0 = true := rfl
  have hn0 : wdm n p 3 0 = true := rfl
  have hn8 : n ≤ 8 := w.1.1
  have hp24 : p ≤ 24 := w.1.2.1
  have ho8 : ord.length ≤ 8 := w.1.2.2.2.2
  have hdi : wdm n p 2 i = true := decide_eq_true hi
  have hdi1 : wdm n p 1 i = true := decide_eq_true hi
  have hdi0 : wdm n p 0 i = true := decide_eq_true hi
  refine g_aload_n dX4_bid_0 rfl ?_
  refine g_iload_n dX4_bid_1 rfl ?_
  refine g_callV [_] dX4_bid_2 mc_X4_75 mi_X4_isNoDistrict se_X4_isNoDistrict (c_isNoDistrict_0 hlt w (by assumption)) (w.k (by first | rfl | assumption)) rfl rfl (Nat.le_of_ble_eq_true rfl) (am_rm hR (by decide)) (fun _ _ z => z) (fun v hx hq hE => ?_)
  obtain ⟨rfl, rfl⟩ := hq
  refine g_if_eq 18 dX4_bid_5 (by decide) (fun _ => ?_) (fun z => absurd z (by decide))
  refine g_iload_n dX4_bid_18 rfl ?_
  refine g_iconst (v := 0) dX4_bid_19 (by decide) ?_
  refine g_bipush (v := 99) dX4_bid_20 (by decide) ?_
  refine g_callS [_, _, _] dX4_bid_22 mc_X4_46 ms_X4_isOutside (c_isOutside_0 hlt a1 a2) rfl (Nat.le_of_ble_eq_true rfl) (am_rm hR (by decide)) (fun _ _ z => z) (fun v hx hq hE => ?_)
  obtain ⟨rfl, rfl⟩ := hq
  refine g_if_ne 39 dX4_bid_25 (by decide) (fun z => absurd z (by decide)) (fun _ => ?_)
  refine g_iload_n dX4_bid_28 rfl ?_
  refine g_iconst (v := 0) dX4_bid_29 (by decide) ?_
  refine g_sipush (v := 999) dX4_bid_30 (by decide) ?_
  refine g_callS [_, _, _] dX4_bid_33 mc_X4_46 ms_X4_isOutside (c_isOutside_0 hlt b1 b2) rfl (Nat.le_of_ble_eq_true rfl) (am_rm hR (by decide)) (fun _ _ z => z) (fun v hx hq hE => ?_)
  obtain ⟨rfl, rfl⟩ := hq
  refine g_if_eq 49 dX4_bid_36 (by decide) (fun _ => ?_) (fun z => absurd z (by decide))
  refine g_aload_n dX4_bid_49 rfl ?_
  refine w_getR w dX4_bid_50 fl_X4_12 rfl rfl (by first | rfl | assumption) rfl ?_
  refine g_iload_n dX4_bid_53 rfl ?_
  refine g_callV [_] dX4_bid_54 mc_X4_103 mi_Jx4a65c_get_915e3 se_Jx4a65c_get_915e3 (c_get0 hlt w (by first | assumption | omega)) (w.k (by first | rfl | assumption)) rfl rfl (Nat.le_of_ble_eq_true rfl) (am_rm hR (by decide)) (fun _ _ z => z) (fun v hx hq hE => ?_)
  obtain ⟨rfl, rfl⟩ := hq
  refine g_castS (q := (RX1, TX1, 14)) dX4_bid_57 kl_X4_66 (w.k (by first | rfl | assumption)) rfl ?_
  refine g_astore dX4_bid_60 (by decide) rfl ?_
  refine g_aload_n dX4_bid_62 rfl ?_
  refine w_getI w dX4_bid_63 fl_X4_33 rfl rfl (by first | rfl | assumption) ?_
  refine g_if_ne 92 dX4_bid_66 (by decide) (fun z => absurd hf z) (fun c_66 => ?_)
  refine g_aload dX4_bid_69 rfl ?_
  refine w_getR w dX4_bid_71 fl_X4_112 rfl rfl (by first | rfl | assumption) rfl ?_
  refine w_getI w dX4_bid_74 fl_X4_116 rfl rfl (by first | rfl | assumption) ?_
  refine g_if_eq 102 dX4_bid_77 (by decide) (fun z => absurd z hs) (fun c_77 => ?_)
  refine g_iload_n dX4_bid_80 rfl ?_
  refine g_aload dX4_bid_81 rfl ?_
  refine w_getR w dX4_bid_83 fl_X4_112 rfl rfl (by first | rfl | assumption) rfl ?_
  refine w_getI w dX4_bid_86 fl_X4_121 rfl rfl (by first | rfl | assumption) ?_
  refine g_icmp_ge 102 dX4_bid_89 (by decide) (fun c_89 => ?_) (fun z => absurd hl z)
  refine g_aload dX4_bid_102 rfl ?_
  refine w_getR w dX4_bid_104 fl_X4_126 rfl rfl (by first | rfl | assumption) rfl ?_
  refine w_getI w dX4_bid_107 fl_X4_116 rfl rfl (by first | rfl | assumption) ?_
  refine g_if_ne 123 dX4_bid_110 (by decide) (fun c_110 => ?_) (fun c_110 => ?_)
  · skip
    refine g_aload dX4_bid_123 rfl ?_
    refine w_getR w dX4_bid_125 fl_X4_126 rfl rfl (by first | rfl | assumption) rfl ?_
    refine g_iload_n dX4_bid_128 rfl ?_
    refine g_iload_n dX4_bid_129 rfl ?_
    refine g_aload_n dX4_bid_130 rfl ?_
    refine w_getI w dX4_bid_131 fl_X4_40 rfl rfl (by first | rfl | assumption) ?_
    refine g_callV [_, _, _] dX4_bid_134 mc_X4_129 mi_X0_set se_X0_set (c_X0_set_t hlt w (by assumption) _ _ _) (w.k (by first | rfl | assumption)) rfl rfl (Nat.le_of_ble_eq_true rfl) (am_rm hR (by decide)) (fun _ _ z => z) (fun v hx hq hE => ?_)
    obtain ⟨rfl, w1⟩ := hq
    refine g_aload_n dX4_bid_137 rfl ?_
    refine g_dup dX4_bid_138 rfl ?_
    refine w_getI w1 dX4_bid_139 fl_X4_40 rfl rfl (by first | rfl | assumption) ?_
    refine g_iconst (v := 1) dX4_bid_142 (by decide) ?_
    refine g_iadd dX4_bid_143 ?_
    refine w_putI w1 dX4_bid_144 fl_X4_40 rfl rfl (by decide) (fun q hq => by cases hq; rfl) (by first | rfl | assumption) rfl rfl (fun h2 w2 => ?_)
    refine g_aload_n dX4_bid_147 rfl ?_
    refine w_getI w2 dX4_bid_148 fl_X4_37 rfl rfl (by first | rfl | assumption) ?_
    rw [hQ]
    refine g_iret dX4_bid_151 rfl rfl (by decide) (by decide) ?_
    exact ⟨by simp [sp_cbid, u3_ap, c_66, c_77, c_89, c_110], by simpa [sp_cbid, u3_ap, c_66, c_77, c_89, c_110] using w2⟩
  · skip
    refine g_aload_n dX4_bid_113 rfl ?_
    refine g_dup dX4_bid_114 rfl ?_
    refine w_getI w dX4_bid_115 fl_X4_37 rfl rfl (by first | rfl | assumption) ?_
    refine g_iconst (v := 1) dX4_bid_118 (by decide) ?_
    refine g_iadd dX4_bid_119 ?_
    refine w_putI w dX4_bid_120 fl_X4_37 rfl rfl (by decide) (fun q hq => by cases hq; rfl) (by first | rfl | assumption) rfl rfl (fun h3 w3 => ?_)
    refine g_aload dX4_bid_123 rfl ?_
    refine w_getR w3 dX4_bid_125 fl_X4_126 rfl rfl (by first | rfl | assumption) rfl ?_
    refine g_iload_n dX4_bid_128 rfl ?_
    refine g_iload_n dX4_bid_129 rfl ?_
    refine g_aload_n dX4_bid_130 rfl ?_
    refine w_getI w3 dX4_bid_131 fl_X4_40 rfl rfl (by first | rfl | assumption) ?_
    refine g_callV [_, _, _] dX4_bid_134 mc_X4_129 mi_X0_set se_X0_set (c_X0_set_t hlt w3 (by assumption) _ _ _) (w3.k (by first | rfl | assumption)) rfl rfl (Nat.le_of_ble_eq_true rfl) (am_rm hR (by decide)) (fun _ _ z => z) (fun v hx hq hE => ?_)
    obtain ⟨rfl, w4⟩ := hq
    refine g_aload_n dX4_bid_137 rfl ?_
    refine g_dup dX4_bid_138 rfl ?_
    refine w_getI w4 dX4_bid_139 fl_X4_40 rfl rfl (by first | rfl | assumption) ?_
    refine g_iconst (v := 1) dX4_bid_142 (by decide) ?_
    refine g_iadd dX4_bid_143 ?_
    refine w_putI w4 dX4_bid_144 fl_X4_40 rfl rfl (by decide) (fun q hq => by cases hq; rfl) (by first | rfl | assumption) rfl rfl (fun h5 w5 => ?_)
    refine g_aload_n dX4_bid_147 rfl ?_
    refine w_getI w5 dX4_bid_148 fl_X4_37 rfl rfl (by first | rfl | assumption) ?_
    rw [hQ]
    refine g_iret dX4_bid_151 rfl rfl (by decide) (by decide) ?_
    exact ⟨by simp [sp_cbid, u3_ap, c_66, c_77, c_89, c_110], by simpa [sp_cbid, u3_ap, c_66, c_77, c_89, c_110] using w5⟩
set_option maxRecDepth 100000 in
set_option maxHeartbeats 4000000 in
theorem c_X4_repair_1 {l : Launch} (hlt : l.stackTraces = false) {N n p : Nat} {ord : List Nat} {L : Nat → Nat → Nat} {Γ : Nat → Nat → Nat → Int32} {o : Int64} {h : am_H} (w : WI N n p ord L Γ o h) {a : Int32} (hb : a < 0 ∨ nI p ≤ a) : am_Con l yX4_repair (.code yX4_repair cX4_repair 3 none) 20 1 6 [.ref (L 5 0), .int a] h (fun v h' => False) (fun E h' => E = "java/lang/IndexOutOfBoundsException" ∧ h' = h) := by
  refine am_body hlt (by decide +kernel) (Nat.le_of_ble_eq_true rfl) (fun k hl hR h0 hno => ?_)
  subst hl
  obtain ⟨Qf, hQ⟩ : ∃ Qf, Qf = am_Q k 1 6 (fun v h' => False) (fun E h' => E = "java/lang/IndexOutOfBoundsException" ∧ h' = h) := ⟨_, rfl⟩
  rw [← hQ]
  have hx0 : wdm n p 5 0 = true := rfl
  have hn0 : wdm n p 3 0 = true := rfl
  have hn8 : n ≤ 8 := w.1.1
  have hp24 : p ≤ 24 := w.1.2.1
  have ho8 : ord.length ≤ 8 := w.1.2.2.2.2
  refine g_aload_n dX4_repair_0 rfl ?_
  refine g_iload_n dX4_repair_1 rfl ?_
  refine g_callV [_] dX4_repair_2 mc_X4_143 mi_X4_isNoPipe se_X4_isNoPipe (c_isNoPipe_1 hlt w (by assumption)) (w.k (by first | rfl | assumption)) rfl rfl (Nat.le_of_ble_eq_true rfl) (am_rm hR (by decide)) (fun _ _ z => z) (fun v hx hq hE => ?_)
  obtain ⟨rfl, rfl⟩ := hq
  refine g_if_eq 18 dX4_repair_5 (by decide) (fun z => absurd z (by decide)) (fun _ => ?_)
  rw [hQ]
  refine g_throw (text := "no such pipe") dX4_repair_8 dX4_repair_11 dX4_repair_12 dX4_repair_14 dX4_repair_17 tw_79 (by simp [am_strs]) hno (by rw [hR]; decide) (by rw [hR]; exact Nat.le_of_ble_eq_true rfl) (by rw [hR]; decide) (by rw [hR]; decide) (by decide) (by decide) ?_
  exact ⟨rfl, rfl⟩
set_option maxRecDepth 100000 in
set_option maxHeartbeats 4000000 in
theorem c_X4_repair_2a {l : Launch} (hlt : l.stackTraces = false) {N n p : Nat} {ord : List Nat} {L : Nat → Nat → Nat} {Γ : Nat → Nat → Nat → Int32} {o : Int64} {h : am_H} (w : WI N n p ord L Γ o h) {i : Nat} (hi : i < p) (hf : Γ 4 i 3 = 0) : am_Con l yX4_repair (.code yX4_repair cX4_repair 3 none) 20 1 6 [.ref (L 5 0), .int (nI i)] h (fun v h' => False) (fun E h' => E = "java/lang/IllegalStateException" ∧ h' = h) := by
  refine am_body hlt (by decide +kernel) (Nat.le_of_ble_eq_true rfl) (fun k hl hR h0 hno => ?_)
  subst hl
  obtain ⟨Qf, hQ⟩ : ∃ Qf, Qf = am_Q k 1 6 (fun v h' => False) (fun E h' => E = "java/lang/IllegalStateException" ∧ h' = h) := ⟨_, rfl⟩
  rw [← hQ]
  have hx0 : wdm n p 5 0 = true := rfl
  have hn0 : wdm n p 3 0 = true := rfl
  have hn8 : n ≤ 8 := w.1.1
  have hp24 : p ≤ 24 := w.1.2.1
  have ho8 : ord.length ≤ 8 := w.1.2.2.2.2
  have hdi : wdm n p 4 i = true := decide_eq_true hi
  refine g_aload_n dX4_repair_0 rfl ?_
  refine g_iload_n dX4_repair_1 rfl ?_
  refine g_callV [_] dX4_repair_2 mc_X4_143 mi_X4_isNoPipe se_X4_isNoPipe (c_isNoPipe_0 hlt w (by assumption)) (w.k (by first | rfl | assumption)) rfl rfl (Nat.le_of_ble_eq_true rfl) (am_rm hR (by decide)) (fun _ _ z => z) (fun v hx hq hE => ?_)
  obtain ⟨rfl, rfl⟩ := hq
  refine g_if_eq 18 dX4_repair_5 (by decide) (fun _ => ?_) (fun z => absurd z (by decide))
  refine g_aload_n dX4_repair_18 rfl ?_
  refine w_getR w dX4_repair_19 fl_X4_19 rfl rfl (by first | rfl | assumption) rfl ?_
  refine w_getR w dX4_repair_22 fl_X4_86 rfl rfl (by first | rfl | assumption) rfl ?_
  refine g_iload_n dX4_repair_25 rfl ?_
  refine g_callV [_] dX4_repair_26 mc_X4_103 mi_Jx4a65c_get_915e3 se_Jx4a65c_get_915e3 (c_get2 hlt w (by first | assumption | omega)) (w.k (by first | rfl | assumption)) rfl rfl (Nat.le_of_ble_eq_true rfl) (am_rm hR (by decide)) (fun _ _ z => z) (fun v hx hq hE => ?_)
  obtain ⟨rfl, rfl⟩ := hq
  refine g_castS (q := (RX3, TX3, 4)) dX4_repair_29 kl_X4_91 (w.k (by first | rfl | assumption)) rfl ?_
  refine g_astore_n dX4_repair_32 (by decide) rfl ?_
  refine g_aload_n dX4_repair_33 rfl ?_
  refine w_getI w dX4_repair_34 fl_X4_148 rfl rfl (by first | rfl | assumption) ?_
  refine g_if_eq 47 dX4_repair_37 (by decide) (fun c_37 => ?_) (fun z => absurd hf z)
  rw [hQ]
  refine g_throw (text := "it has not burst, or all is FLOWING") dX4_repair_47 dX4_repair_50 dX4_repair_51 dX4_repair_53 dX4_repair_56 tw_61 (by simp [am_strs]) hno (by rw [hR]; decide) (by rw [hR]; exact Nat.le_of_ble_eq_true rfl) (by rw [hR]; decide) (by rw [hR]; decide) (by decide) (by decide) ?_
  exact ⟨rfl, rfl⟩
set_option maxRecDepth 100000 in
set_option maxHeartbeats 4000000 in
theorem c_X4_repair_2b {l : Launch} (hlt : l.stackTraces = false) {N n p : Nat} {ord : List Nat} {L : Nat → Nat → Nat} {Γ : Nat → Nat → Nat → Int32} {o : Int64} {h : am_H} (w : WI N n p ord L Γ o h) {i : Nat} (hi : i < p) (hf : ¬ Γ 4 i 3 = 0) (hg : ¬ Γ 5 0 5 = 0) : am_Con l yX4_repair (.code yX4_repair cX4_repair 3 none) 20 1 6 [.ref (L 5 0), .int (nI i)] h (fun v h' => False) (fun E h' => E = "java/lang/IllegalStateException" ∧ h' = h) := by
  refine am_body hlt (by decide +kernel) (Nat.le_of_ble_eq_true rfl) (fun k hl hR h0 hno => ?_)
  subst hl
  obtain ⟨Qf, hQ⟩ : ∃ Qf, Qf = am_Q k 1 6 (fun v h' => False) (fun E h' => E = "java/lang/IllegalStateException" ∧ h' = h) := ⟨_, rfl⟩
  rw [← hQ]
  have hx0 : wdm n p 5 0 = true := rfl
  have hn0 : wdm n p 3 0 = true := rfl
  have hn8 : n ≤ 8 := w.1.1
  have hp24 : p ≤ 24 := w.1.2.1
  have ho8 : ord.length ≤ 8 := w.1.2.2.2.2
  have hdi : wdm n p 4 i = true := decide_eq_true hi
  refine g_aload_n dX4_repair_0 rfl ?_
  refine g_iload_n dX4_repair_1 rfl ?_
  refine g_callV [_] dX4_repair_2 mc_X4_143 mi_X4_isNoPipe se_X4_isNoPipe (c_isNoPipe_0 hlt w (by assumption)) (w.k (by first | rfl | assumption)) rfl rfl (Nat.le_of_ble_eq_true rfl) (am_rm hR (by decide)) (fun _ _ z => z) (fun v hx hq hE => ?_)
  obtain ⟨rfl, rfl⟩ := hq
  refine g_if_eq 18 dX4_repair_5 (by decide) (fun _ => ?_) (fun z => absurd z (by decide))
  refine g_aload_n dX4_repair_18 rfl ?_
  refine w_getR w dX4_repair_19 fl_X4_19 rfl rfl (by first | rfl | assumption) rfl ?_
  refine w_getR w dX4_repair_22 fl_X4_86 rfl rfl (by first | rfl | assumption) rfl ?_
  refine g_iload_n dX4_repair_25 rfl ?_
  refine g_callV [_] dX4_repair_26 mc_X4_103 mi_Jx4a65c_get_915e3 se_Jx4a65c_get_915e3 (c_get2 hlt w (by first | assumption | omega)) (w.k (by first | rfl | assumption)) rfl rfl (Nat.le_of_ble_eq_true rfl) (am_rm hR (by decide)) (fun _ _ z => z) (fun v hx hq hE => ?_)
  obtain ⟨rfl, rfl⟩ := hq
  refine g_castS (q := (RX3, TX3, 4)) dX4_repair_29 kl_X4_91 (w.k (by first | rfl | assumption)) rfl ?_
  refine g_astore_n dX4_repair_32 (by decide) rfl ?_
  refine g_aload_n dX4_repair_33 rfl ?_
  refine w_getI w dX4_repair_34 fl_X4_148 rfl rfl (by first | rfl | assumption) ?_
  refine g_if_eq 47 dX4_repair_37 (by decide) (fun z => absurd z hf) (fun c_37 => ?_)
  refine g_aload_n dX4_repair_40 rfl ?_
  refine w_getI w dX4_repair_41 fl_X4_33 rfl rfl (by first | rfl | assumption) ?_
  refine g_if_eq 57 dX4_repair_44 (by decide) (fun z => absurd z hg) (fun c_44 => ?_)
  rw [hQ]
  refine g_throw (text := "it has not burst, or all is FLOWING") dX4_repair_47 dX4_repair_50 dX4_repair_51 dX4_repair_53 dX4_repair_56 tw_61 (by simp [am_strs]) hno (by rw [hR]; decide) (by rw [hR]; exact Nat.le_of_ble_eq_true rfl) (by rw [hR]; decide) (by rw [hR]; decide) (by decide) (by decide) ?_
  exact ⟨rfl, rfl⟩
set_option maxRecDepth 100000 in
set_option maxHeartbeats 4000000 in
theorem c_X4_repair_0 {l : Launch} (hlt : l.stackTraces = false) {N n p : Nat} {ord : List Nat} {L : Nat → Nat → Nat} {Γ : Nat → Nat → Nat → Int32} {o : Int64} {h : am_H} (w : WI N n p ord L Γ o h) {i : Nat} (hi : i < p) (hf : ¬ Γ 4 i 3 = 0) (hg : Γ 5 0 5 = 0) : am_Con l yX4_repair (.code yX4_repair cX4_repair 3 none) 20 0 0 [.ref (L 5 0), .int (nI i)] h (fun v h' => v = none ∧ WI N n p ord L (u3 Γ 4 i 3 0) o h') (fun _ _ => False) := by
  refine am_body hlt (by decide +kernel) (Nat.le_of_ble_eq_true rfl) (fun k hl hR h0 hno => ?_)
  subst hl
  obtain ⟨Qf, hQ⟩ : ∃ Qf, Qf = am_Q k 0 0 (fun v h' => v = none ∧ WI N n p ord L (u3 Γ 4 i 3 0) o h') (fun _ _ => False) := ⟨_, rfl⟩
  rw [← hQ]
  have hx0 : wdm n p 5 0 = true := rfl
  have hn0 : wdm n p 3 0 = true := rfl
  have hn8 : n ≤ 8 := w.1.1
  have hp24 : p ≤ 24 := w.1.2.1
  have ho8 : ord.length ≤ 8 := w.1.2.2.2.2
  have hdi : wdm n p 4 i = true := decide_eq_true hi
  refine g_aload_n dX4_repair_0 rfl ?_
  refine g_iload_n dX4_repair_1 rfl ?_
  refine g_callV [_] dX4_repair_2 mc_X4_143 mi_X4_isNoPipe se_X4_isNoPipe (c_isNoPipe_0 hlt w (by assumption)) (w.k (by first | rfl | assumption)) rfl rfl (Nat.le_of_ble_eq_true rfl) (am_rm hR (by decide)) (fun _ _ z => z) (fun v hx hq hE => ?_)
  obtain ⟨rfl, rfl⟩ := hq
  refine g_if_eq 18 dX4_repair_5 (by decide) (fun _ => ?_) (fun z => absurd z (by decide))
  refine g_aload_n dX4_repair_18 rfl ?_
  refine w_getR w dX4_repair_19 fl_X4_19 rfl rfl (by first | rfl | assumption) rfl ?_
  refine w_getR w dX4_repair_22 fl_X4_86 rfl rfl (by first | rfl | assumption) rfl ?_
  refine g_iload_n dX4_repair_25 rfl ?_
  refine g_callV [_] dX4_repair_26 mc_X4_103 mi_Jx4a65c_get_915e3 se_Jx4a65c_get_915e3 (c_get2 hlt w (by first | assumption | omega)) (w.k (by first | rfl | assumption)) rfl rfl (Nat.le_of_ble_eq_true rfl) (am_rm hR (by decide)) (fun _ _ z => z) (fun v hx hq hE => ?_)
  obtain ⟨rfl, rfl⟩ := hq
  refine g_castS (q := (RX3, TX3, 4)) dX4_repair_29 kl_X4_91 (w.k (by first | rfl | assumption)) rfl ?_
  refine g_astore_n dX4_repair_32 (by decide) rfl ?_
  refine g_aload_n dX4_repair_33 rfl ?_
  refine w_getI w dX4_repair_34 fl_X4_148 rfl rfl (by first | rfl | assumption) ?_
  refine g_if_eq 47 dX4_repair_37 (by decide) (fun z => absurd z hf) (fun c_37 => ?_)
  refine g_aload_n dX4_repair_40 rfl ?_
  refine w_getI w dX4_repair_41 fl_X4_33 rfl rfl (by first | rfl | assumption) ?_
  refine g_if_eq 57 dX4_repair_44 (by decide) (fun c_44 => ?_) (fun z => absurd hg z)
  refine g_aload_n dX4_repair_57 rfl ?_
  refine g_iconst (v := 0) dX4_repair_58 (by decide) ?_
  refine w_putI w dX4_repair_59 fl_X4_148 rfl rfl (by decide) (fun q hq => by cases hq; rfl) (by first | rfl | assumption) rfl rfl (fun h1 w1 => ?_)
  rw [hQ]
  refine g_vret dX4_repair_62 rfl (by decide) (by decide) ?_
  exact ⟨rfl, w1⟩
set_option maxRecDepth 100000 in
set_option maxHeartbeats 4000000 in
theorem c_X4_burst_1 {l : Launch} (hlt : l.stackTraces = false) {N n p : Nat} {ord : List Nat} {L : Nat → Nat → Nat} {Γ : Nat → Nat → Nat → Int32} {o : Int64} {h : am_H} (w : WI N n p ord L Γ o h) {a : Int32} (hb : a < 0 ∨ nI p ≤ a) : am_Con l yX4_burst (.code yX4_burst cX4_burst 3 (some .int)) 20 1 6 [.ref (L 5 0), .int a] h (fun v h' => False) (fun E h' => E = "java/lang/IndexOutOfBoundsException" ∧ h' = h) := by
  refine am_body hlt (by decide +kernel) (Nat.le_of_ble_eq_true rfl) (fun k hl hR h0 hno => ?_)
  subst hl
  obtain ⟨Qf, hQ⟩ : ∃ Qf, Qf = am_Q k 1 6 (fun v h' => False) (fun E h' => E = "java/lang/IndexOutOfBoundsException" ∧ h' = h) := ⟨_, rfl⟩
  rw [← hQ]
  have hx0 : wdm n p 5 0 = true := rfl
  have hn0 : wdm n p 3 0 = true := rfl
  have hn8 : n ≤ 8 := w.1.1
  have hp24 : p ≤ 24 := w.1.2.1
  have ho8 : ord.length ≤ 8 := w.1.2.2.2.2
  refine g_aload_n dX4_burst_0 rfl ?_
  refine g_iload_n dX4_burst_1 rfl ?_
  refine g_callV [_] dX4_burst_2 mc_X4_143 mi_X4_isNoPipe se_X4_isNoPipe (c_isNoPipe_1 hlt w (by assumption)) (w.k (by first | rfl | assumption)) rfl rfl (Nat.le_of_ble_eq_true rfl) (am_rm hR (by decide)) (fun _ _ z => z) (fun v hx hq hE => ?_)
  obtain ⟨rfl, rfl⟩ := hq
  refine g_if_eq 18 dX4_burst_5 (by decide) (fun z => absurd z (by decide)) (fun _ => ?_)
  rw [hQ]
  refine g_throw (text := "no such pipe") dX4_burst_8 dX4_burst_11 dX4_burst_12 dX4_burst_14 dX4_burst_17 tw_79 (by simp [am_strs]) hno (by rw [hR]; decide) (by rw [hR]; exact Nat.le_of_ble_eq_true rfl) (by rw [hR]; decide) (by rw [hR]; decide) (by decide) (by decide) ?_
  exact ⟨rfl, rfl⟩
set_option maxRecDepth 100000 in
set_option maxHeartbeats 4000000 in
theorem c_X4_burst_2 {l : Launch} (hlt : l.stackTraces = false) {N n p : Nat} {ord : List Nat} {L : Nat → Nat → Nat} {Γ : Nat → Nat → Nat → Int32} {o : Int64} {h : am_H} (w : WI N n p ord L Γ o h) {i : Nat} (hi : i < p) (hf : ¬ Γ 4 i 3 = 0) : am_Con l yX4_burst (.code yX4_burst cX4_burst 3 (some .int)) 20 1 6 [.ref (L 5 0), .int (nI i)] h (fun v h' => False) (fun E h' => E = "java/lang/IllegalStateException" ∧ h' = h) := by
  refine am_body hlt (by decide +kernel) (Nat.le_of_ble_eq_true rfl) (fun k hl hR h0 hno => ?_)
  subst hl
  obtain ⟨Qf, hQ⟩ : ∃ Qf, Qf = am_Q k 1 6 (fun v h' => False) (fun E h' => E = "java/lang/IllegalStateException" ∧ h' = h) := ⟨_, rfl⟩
  rw [← hQ]
  have hx0 : wdm n p 5 0 = true := rfl
  have hn0 : wdm n p 3 0 = true := rfl
  have hn8 : n ≤ 8 := w.1.1
  have hp24 : p ≤ 24 := w.1.2.1
  have ho8 : ord.length ≤ 8 := w.1.2.2.2.2
  have hdi : wdm n p 4 i = true := decide_eq_true hi
  refine g_aload_n dX4_burst_0 rfl ?_
  refine g_iload_n dX4_burst_1 rfl ?_
  refine g_callV [_] dX4_burst_2 mc_X4_143 mi_X4_isNoPipe se_X4_isNoPipe (c_isNoPipe_0 hlt w (by assumption)) (w.k (by first | rfl | assumption)) rfl rfl (Nat.le_of_ble_eq_true rfl) (am_rm hR (by decide)) (fun _ _ z => z) (fun v hx hq hE => ?_)
  obtain ⟨rfl, rfl⟩ := hq
  refine g_if_eq 18 dX4_burst_5 (by decide) (fun _ => ?_) (fun z => absurd z (by decide))
  refine g_aload_n dX4_burst_18 rfl ?_
  refine w_getR w dX4_burst_19 fl_X4_19 rfl rfl (by first | rfl | assumption) rfl ?_
  refine w_getR w dX4_burst_22 fl_X4_86 rfl rfl (by first | rfl | assumption) rfl ?_
  refine g_iload_n dX4_burst_25 rfl ?_
  refine g_callV [_] dX4_burst_26 mc_X4_103 mi_Jx4a65c_get_915e3 se_Jx4a65c_get_915e3 (c_get2 hlt w (by first | assumption | omega)) (w.k (by first | rfl | assumption)) rfl rfl (Nat.le_of_ble_eq_true rfl) (am_rm hR (by decide)) (fun _ _ z => z) (fun v hx hq hE => ?_)
  obtain ⟨rfl, rfl⟩ := hq
  refine g_castS (q := (RX3, TX3, 4)) dX4_burst_29 kl_X4_91 (w.k (by first | rfl | assumption)) rfl ?_
  refine g_astore_n dX4_burst_32 (by decide) rfl ?_
  refine g_aload_n dX4_burst_33 rfl ?_
  refine w_getI w dX4_burst_34 fl_X4_148 rfl rfl (by first | rfl | assumption) ?_
  refine g_if_eq 50 dX4_burst_37 (by decide) (fun z => absurd z hf) (fun c_37 => ?_)
  rw [hQ]
  refine g_throw (text := "it has burst") dX4_burst_40 dX4_burst_43 dX4_burst_44 dX4_burst_46 dX4_burst_49 tw_61 (by simp [am_strs]) hno (by rw [hR]; decide) (by rw [hR]; exact Nat.le_of_ble_eq_true rfl) (by rw [hR]; decide) (by rw [hR]; decide) (by decide) (by decide) ?_
  exact ⟨rfl, rfl⟩
set_option maxRecDepth 100000 in
set_option maxHeartbeats 4000000 in
theorem c_X4_burst_0a {l : Launch} (hlt : l.stackTraces = false) {N n p : Nat} {ord : List Nat} {L : Nat → Nat → Nat} {Γ : Nat → Nat → Nat → Int32} {o : Int64} {h : am_H} (w : WI N n p ord L Γ o h) {i : Nat} (hi : i < p) (hf : Γ 4 i 3 = 0) (hg : Γ 5 0 5 = 0) : am_Con l yX4_burst (.code yX4_burst cX4_burst 3 (some .int)) 20 0 0 [.ref (L 5 0), .int (nI i)] h (fun v h' => v = some (.int 0) ∧ WI N n p ord L (u3 Γ 4 i 3 1) o h') (fun _ _ => False) := by
  refine am_body hlt (by decide +kernel) (Nat.le_of_ble_eq_true rfl) (fun k hl hR h0 hno => ?_)
  subst hl
  obtain ⟨Qf, hQ⟩ : ∃ Qf, Qf = am_Q k 0 0 (fun v h' => v = some (.int 0) ∧ WI N n p ord L (u3 Γ 4 i 3 1) o h') (fun _ _ => False) := ⟨_, rfl⟩
  rw [← hQ]
  have hx0 : wdm n p 5 0 = true := rfl
  have hn0 : wdm n p 3 0 = true := rfl
  have hn8 : n ≤ 8 := w.1.1
  have hp24 : p ≤ 24 := w.1.2.1
  have ho8 : ord.length ≤ 8 := w.1.2.2.2.2
  have hdi : wdm n p 4 i = true := decide_eq_true hi
  refine g_aload_n dX4_burst_0 rfl ?_
  refine g_iload_n dX4_burst_1 rfl ?_
  refine g_callV [_] dX4_burst_2 mc_X4_143 mi_X4_isNoPipe se_X4_isNoPipe (c_isNoPipe_0 hlt w (by assumption)) (w.k (by first | rfl | assumption)) rfl rfl (Nat.le_of_ble_eq_true rfl) (am_rm hR (by decide)) (fun _ _ z => z) (fun v hx hq hE => ?_)
  obtain ⟨rfl, rfl⟩ := hq
  refine g_if_eq 18 dX4_burst_5 (by decide) (fun _ => ?_) (fun z => absurd z (by decide))
  refine g_aload_n dX4_burst_18 rfl ?_
  refine w_getR w dX4_burst_19 fl_X4_19 rfl rfl (by first | rfl | assumption) rfl ?_
  refine w_getR w dX4_burst_22 fl_X4_86 rfl rfl (by first | rfl | assumption) rfl ?_
  refine g_iload_n dX4_burst_25 rfl ?_
  refine g_callV [_] dX4_burst_26 mc_X4_103 mi_Jx4a65c_get_915e3 se_Jx4a65c_get_915e3 (c_get2 hlt w (by first | assumption | omega)) (w.k (by first | rfl | assumption)) rfl rfl (Nat.le_of_ble_eq_true rfl) (am_rm hR (by decide)) (fun _ _ z => z) (fun v hx hq hE => ?_)
  obtain ⟨rfl, rfl⟩ := hq
  refine g_castS (q := (RX3, TX3, 4)) dX4_burst_29 kl_X4_91 (w.k (by first | rfl | assumption)) rfl ?_
  refine g_astore_n dX4_burst_32 (by decide) rfl ?_
  refine g_aload_n dX4_burst_33 rfl ?_
  refine w_getI w dX4_burst_34 fl_X4_148 rfl rfl (by first | rfl | assumption) ?_
  refine g_if_eq 50 dX4_burst_37 (by decide) (fun c_37 => ?_) (fun z => absurd hf z)
  refine g_aload_n dX4_burst_50 rfl ?_
  refine g_iconst (v := 1) dX4_burst_51 (by decide) ?_
  refine w_putI w dX4_burst_52 fl_X4_148 rfl rfl (by decide) (fun q hq => by cases hq; rfl) (by first | rfl | assumption) rfl rfl (fun h1 w1 => ?_)
  refine g_aload_n dX4_burst_55 rfl ?_
  refine w_getI w1 dX4_burst_56 fl_X4_33 rfl rfl (by first | rfl | assumption) ?_
  refine g_if_eq 69 dX4_burst_59 (by decide) (fun c_59 => ?_) (fun z => absurd hg z)
  refine g_iconst (v := 0) dX4_burst_69 (by decide) ?_
  rw [hQ]
  refine g_iret dX4_burst_70 rfl rfl (by decide) (by decide) ?_
  exact ⟨rfl, w1⟩
set_option maxRecDepth 100000 in
set_option maxHeartbeats 4000000 in
theorem c_X4_of_1 {l : Launch} (hlt : l.stackTraces = false) {N n p : Nat} {ord : List Nat} {L : Nat → Nat → Nat} {Γ : Nat → Nat → Nat → Int32} {o : Int64} {h : am_H} (w : WI N n p ord L Γ o h) {a b : Int32} (hb : a < 0 ∨ nI n ≤ a) : am_Con l yX4_ofDistrict (.code yX4_ofDistrict cX4_ofDistrict 4 (some .int)) 20 1 6 [.ref (L 5 0), .int a, .int b] h (fun v h' => False) (fun E h' => E = "java/lang/IndexOutOfBoundsException" ∧ h' = h) := by
  refine am_body hlt (by decide +kernel) (Nat.le_of_ble_eq_true rfl) (fun k hl hR h0 hno => ?_)
  subst hl
  obtain ⟨Qf, hQ⟩ : ∃ Qf, Qf = am_Q k 1 6 (fun v h' => False) (fun E h' => E = "java/lang/IndexOutOfBoundsException" ∧ h' = h) := ⟨_, rfl⟩
  rw [← hQ]
  have hx0 : wdm n p 5 0 = true := rfl
  have hn0 : wdm n p 3 0 = true := rfl
  have hn8 : n ≤ 8 := w.1.1
  have hp24 : p ≤ 24 := w.1.2.1
  have ho8 : ord.length ≤ 8 := w.1.2.2.2.2
  refine g_aload_n dX4_ofDistrict_0 rfl ?_
  refine g_iload_n dX4_ofDistrict_1 rfl ?_
  refine g_callV [_] dX4_ofDistrict_2 mc_X4_75 mi_X4_isNoDistrict se_X4_isNoDistrict (c_isNoDistrict_1 hlt w (by assumption)) (w.k (by first | rfl | assumption)) rfl rfl (Nat.le_of_ble_eq_true rfl) (am_rm hR (by decide)) (fun _ _ z => z) (fun v hx hq hE => ?_)
  obtain ⟨rfl, rfl⟩ := hq
  refine g_if_eq 18 dX4_ofDistrict_5 (by decide) (fun z => absurd z (by decide)) (fun _ => ?_)
  rw [hQ]
  refine g_throw (text := "no such district") dX4_ofDistrict_8 dX4_ofDistrict_11 dX4_ofDistrict_12 dX4_ofDistrict_14 dX4_ofDistrict_17 tw_79 (by simp [am_strs]) hno (by rw [hR]; decide) (by rw [hR]; exact Nat.le_of_ble_eq_true rfl) (by rw [hR]; decide) (by rw [hR]; decide) (by decide) (by decide) ?_
  exact ⟨rfl, rfl⟩
theorem sw_out {a : Int32} {m : Nat} (hm : m < 2 ^ 31) (hb : a < 0 ∨ nI (m + 1) ≤ a) (h2 : m + 1 < 2 ^ 31) : a.toInt < 0 ∨ (m : Int) < a.toInt := by
  rcases hb with z | z
  · left
    rw [Int32.lt_iff_toInt_lt, Int32.toInt_zero] at z
    exact z
  · right
    rw [Int32.le_iff_toInt_le, nI_toInt h2] at z
    omega
set_option maxRecDepth 100000 in
set_option maxHeartbeats 4000000 in
theorem c_X4_of_2 {l : Launch} (hlt : l.stackTraces = false) {N n p : Nat} {ord : List Nat} {L : Nat → Nat → Nat} {Γ : Nat → Nat → Nat → Int32} {o : Int64} {h : am_H} (w : WI N n p ord L Γ o h) {i : Nat} (hi : i < n) {b : Int32} (bb : b < 0 ∨ nI 9 ≤ b) : am_Con l yX4_ofDistrict (.code yX4_ofDistrict cX4_ofDistrict 4 (some .int)) 20 1 6 [.ref (L 5 0), .int (nI i), .int b] h (fun v h' => False) (fun E h' => E = "java/lang/IndexOutOfBoundsException" ∧ h' = h) := by
  refine am_body hlt (by decide +kernel) (Nat.le_of_ble_eq_true rfl) (fun k hl hR h0 hno => ?_)
  subst hl
  obtain ⟨Qf, hQ⟩ : ∃ Qf, Qf = am_Q k 1 6 (fun v h' => False) (fun E h' => E = "java/lang/IndexOutOfBoundsException" ∧ h' = h) := ⟨_, rfl⟩
  rw [← hQ]
  have hx0 : wdm n p 5 0 = true := rfl
  have hn0 : wdm n p 3 0 = true := rfl
  have hn8 : n ≤ 8 := w.1.1
  have hp24 : p ≤ 24 := w.1.2.1
  have ho8 : ord.length ≤ 8 := w.1.2.2.2.2
  have hdi : wdm n p 2 i = true := decide_eq_true hi
  have hdi1 : wdm n p 1 i = true := decide_eq_true hi
  have hdi0 : wdm n p 0 i = true := decide_eq_true hi
  refine g_aload_n dX4_ofDistrict_0 rfl ?_
  refine g_iload_n dX4_ofDistrict_1 rfl ?_
  refine g_callV [_] dX4_ofDistrict_2 mc_X4_75 mi_X4_isNoDistrict se_X4_isNoDistrict (c_isNoDistrict_0 hlt w (by assumption)) (w.k (by first | rfl | assumption)) rfl rfl (Nat.le_of_ble_eq_true rfl) (am_rm hR (by decide)) (fun _ _ z => z) (fun v hx hq hE => ?_)
  obtain ⟨rfl, rfl⟩ := hq
  refine g_if_eq 18 dX4_ofDistrict_5 (by decide) (fun _ => ?_) (fun z => absurd z (by decide))
  refine g_aload_n dX4_ofDistrict_18 rfl ?_
  refine w_getR w dX4_ofDistrict_19 fl_X4_12 rfl rfl (by first | rfl | assumption) rfl ?_
  refine g_iload_n dX4_ofDistrict_22 rfl ?_
  refine g_callV [_] dX4_ofDistrict_23 mc_X4_103 mi_Jx4a65c_get_915e3 se_Jx4a65c_get_915e3 (c_get0 hlt w (by first | assumption | omega)) (w.k (by first | rfl | assumption)) rfl rfl (Nat.le_of_ble_eq_true rfl) (am_rm hR (by decide)) (fun _ _ z => z) (fun v hx hq hE => ?_)
  obtain ⟨rfl, rfl⟩ := hq
  refine g_castS (q := (RX1, TX1, 14)) dX4_ofDistrict_26 kl_X4_66 (w.k (by first | rfl | assumption)) rfl ?_
  refine g_astore_n dX4_ofDistrict_29 (by decide) rfl ?_
  refine g_iload_n dX4_ofDistrict_30 rfl ?_
  refine g_tableOut 159 dX4_ofDistrict_31 (sw_out (m := 8) (by decide) bb (by decide)) (by decide) ?_
  rw [hQ]
  refine g_throw (text := "what is out of range") dX4_ofDistrict_159 dX4_ofDistrict_162 dX4_ofDistrict_163 dX4_ofDistrict_165 dX4_ofDistrict_168 tw_79 (by simp [am_strs]) hno (by rw [hR]; decide) (by rw [hR]; exact Nat.le_of_ble_eq_true rfl) (by rw [hR]; decide) (by rw [hR]; decide) (by decide) (by decide) ?_
  exact ⟨rfl, rfl⟩
set_option maxRecDepth 100000 in
set_option maxHeartbeats 4000000 in
theorem c_X4_of_0_0 {l : Launch} (hlt : l.stackTraces = false) {N n p : Nat} {ord : List Nat} {L : Nat → Nat → Nat} {Γ : Nat → Nat → Nat → Int32} {o : Int64} {h : am_H} (w : WI N n p ord L Γ o h) {i : Nat} (hi : i < n) : am_Con l yX4_ofDistrict (.code yX4_ofDistrict cX4_ofDistrict 4 (some .int)) 20 0 0 [.ref (L 5 0), .int (nI i), .int (nI 0)] h (fun v h' => v = some (.int (Γ 2 i 3)) ∧ h' = h) (fun _ _ => False) := by
  refine am_body hlt (by decide +kernel) (Nat.le_of_ble_eq_true rfl) (fun k hl hR h0 hno => ?_)
  subst hl
  obtain ⟨Qf, hQ⟩ : ∃ Qf, Qf = am_Q k 0 0 (fun v h' => v = some (.int (Γ 2 i 3)) ∧ h' = h) (fun _ _ => False) := ⟨_, rfl⟩
  rw [← hQ]
  have hx0 : wdm n p 5 0 = true := rfl
  have hn0 : wdm n p 3 0 = true := rfl
  have hn8 : n ≤ 8 := w.1.1
  have hp24 : p ≤ 24 := w.1.2.1
  have ho8 : ord.length ≤ 8 := w.1.2.2.2.2
  have hdi : wdm n p 2 i = true := decide_eq_true hi
  have hdi1 : wdm n p 1 i = true := decide_eq_true hi
  have hdi0 : wdm n p 0 i = true := decide_eq_true hi
  refine g_aload_n dX4_ofDistrict_0 rfl ?_
  refine g_iload_n dX4_ofDistrict_1 rfl ?_
  refine g_callV [_] dX4_ofDistrict_2 mc_X4_75 mi_X4_isNoDistrict se_X4_isNoDistrict (c_isNoDistrict_0 hlt w (by assumption)) (w.k (by first | rfl | assumption)) rfl rfl (Nat.le_of_ble_eq_true rfl) (am_rm hR (by decide)) (fun _ _ z => z) (fun v hx hq hE => ?_)
  obtain ⟨rfl, rfl⟩ := hq
  refine g_if_eq 18 dX4_ofDistrict_5 (by decide) (fun _ => ?_) (fun z => absurd z (by decide))
  refine g_aload_n dX4_ofDistrict_18 rfl ?_
  refine w_getR w dX4_ofDistrict_19 fl_X4_12 rfl rfl (by first | rfl | assumption) rfl ?_
  refine g_iload_n dX4_ofDistrict_22 rfl ?_
  refine g_callV [_] dX4_ofDistrict_23 mc_X4_103 mi_Jx4a65c_get_915e3 se_Jx4a65c_get_915e3 (c_get0 hlt w (by first | assumption | omega)) (w.k (by first | rfl | assumption)) rfl rfl (Nat.le_of_ble_eq_true rfl) (am_rm hR (by decide)) (fun _ _ z => z) (fun v hx hq hE => ?_)
  obtain ⟨rfl, rfl⟩ := hq
  refine g_castS (q := (RX1, TX1, 14)) dX4_ofDistrict_26 kl_X4_66 (w.k (by first | rfl | assumption)) rfl ?_
  refine g_astore_n dX4_ofDistrict_29 (by decide) rfl ?_
  refine g_iload_n dX4_ofDistrict_30 rfl ?_
  refine g_tableIn 80 dX4_ofDistrict_31 (by decide) (by decide) rfl (by decide) ?_
  refine g_aload_n dX4_ofDistrict_80 rfl ?_
  refine w_getI w dX4_ofDistrict_81 fl_X4_175 rfl rfl (by first | rfl | assumption) ?_
  rw [hQ]
  refine g_iret dX4_ofDistrict_84 rfl rfl (by decide) (by decide) ?_
  exact ⟨rfl, rfl⟩
set_option maxRecDepth 100000 in
set_option maxHeartbeats 4000000 in
theorem c_X4_of_0_1 {l : Launch} (hlt : l.stackTraces = false) {N n p : Nat} {ord : List Nat} {L : Nat → Nat → Nat} {Γ : Nat → Nat → Nat → Int32} {o : Int64} {h : am_H} (w : WI N n p ord L Γ o h) {i : Nat} (hi : i < n) : am_Con l yX4_ofDistrict (.code yX4_ofDistrict cX4_ofDistrict 4 (some .int)) 20 0 0 [.ref (L 5 0), .int (nI i), .int (nI 1)] h (fun v h' => v = some (.int (if Γ 0 i 0 = 0 then -1 else Γ 0 i 1)) ∧ h' = h) (fun _ _ => False) := by
  refine am_body hlt (by decide +kernel) (Nat.le_of_ble_eq_true rfl) (fun k hl hR h0 hno => ?_)
  subst hl
  obtain ⟨Qf, hQ⟩ : ∃ Qf, Qf = am_Q k 0 0 (fun v h' => v = some (.int (if Γ 0 i 0 = 0 then -1 else Γ 0 i 1)) ∧ h' = h) (fun _ _ => False) := ⟨_, rfl⟩
  rw [← hQ]
  have hx0 : wdm n p 5 0 = true := rfl
  have hn0 : wdm n p 3 0 = true := rfl
  have hn8 : n ≤ 8 := w.1.1
  have hp24 : p ≤ 24 := w.1.2.1
  have ho8 : ord.length ≤ 8 := w.1.2.2.2.2
  have hdi : wdm n p 2 i = true := decide_eq_true hi
  have hdi1 : wdm n p 1 i = true := decide_eq_true hi
  have hdi0 : wdm n p 0 i = true := decide_eq_true hi
  refine g_aload_n dX4_ofDistrict_0 rfl ?_
  refine g_iload_n dX4_ofDistrict_1 rfl ?_
  refine g_callV [_] dX4_ofDistrict_2 mc_X4_75 mi_X4_isNoDistrict se_X4_isNoDistrict (c_isNoDistrict_0 hlt w (by assumption)) (w.k (by first | rfl | assumption)) rfl rfl (Nat.le_of_ble_eq_true rfl) (am_rm hR (by decide)) (fun _ _ z => z) (fun v hx hq hE => ?_)
  obtain ⟨rfl, rfl⟩ := hq
  refine g_if_eq 18 dX4_ofDistrict_5 (by decide) (fun _ => ?_) (fun z => absurd z (by decide))
  refine g_aload_n dX4_ofDistrict_18 rfl ?_
  refine w_getR w dX4_ofDistrict_19 fl_X4_12 rfl rfl (by first | rfl | assumption) rfl ?_
  refine g_iload_n dX4_ofDistrict_22 rfl ?_
  refine g_callV [_] dX4_ofDistrict_23 mc_X4_103 mi_Jx4a65c_get_915e3 se_Jx4a65c_get_915e3 (c_get0 hlt w (by first | assumption | omega)) (w.k (by first | rfl | assumption)) rfl rfl (Nat.le_of_ble_eq_true rfl) (am_rm hR (by decide)) (fun _ _ z => z) (fun v hx hq hE => ?_)
  obtain ⟨rfl, rfl⟩ := hq
  refine g_castS (q := (RX1, TX1, 14)) dX4_ofDistrict_26 kl_X4_66 (w.k (by first | rfl | assumption)) rfl ?_
  refine g_astore_n dX4_ofDistrict_29 (by decide) rfl ?_
  refine g_iload_n dX4_ofDistrict_30 rfl ?_
  refine g_tableIn 85 dX4_ofDistrict_31 (by decide) (by decide) rfl (by decide) ?_
  refine g_aload_n dX4_ofDistrict_85 rfl ?_
  refine w_getR w dX4_ofDistrict_86 fl_X4_112 rfl rfl (by first | rfl | assumption) rfl ?_
  refine w_getI w dX4_ofDistrict_89 fl_X4_116 rfl rfl (by first | rfl | assumption) ?_
  refine g_if_eq 105 dX4_ofDistrict_92 (by decide) (fun c_92 => ?_) (fun c_92 => ?_)
  · skip
    refine g_iconst (v := (-1)) dX4_ofDistrict_105 (by decide) ?_
    rw [hQ]
    refine g_iret dX4_ofDistrict_106 rfl rfl (by decide) (by decide) ?_
    exact ⟨by simp only [reduceIte, c_92], rfl⟩
  · skip
    refine g_aload_n dX4_ofDistrict_95 rfl ?_
    refine w_getR w dX4_ofDistrict_96 fl_X4_112 rfl rfl (by first | rfl | assumption) rfl ?_
    refine w_getI w dX4_ofDistrict_99 fl_X4_121 rfl rfl (by first | rfl | assumption) ?_
    refine g_goto 106 dX4_ofDistrict_102 (by decide) ?_
    rw [hQ]
    refine g_iret dX4_ofDistrict_106 rfl rfl (by decide) (by decide) ?_
    exact ⟨by simp only [reduceIte, c_92], rfl⟩
set_option maxRecDepth 100000 in
set_option maxHeartbeats 4000000 in
theorem c_X4_of_0_2 {l : Launch} (hlt : l.stackTraces = false) {N n p : Nat} {ord : List Nat} {L : Nat → Nat → Nat} {Γ : Nat → Nat → Nat → Int32} {o : Int64} {h : am_H} (w : WI N n p ord L Γ o h) {i : Nat} (hi : i < n) : am_Con l yX4_ofDistrict (.code yX4_ofDistrict cX4_ofDistrict 4 (some .int)) 20 0 0 [.ref (L 5 0), .int (nI i), .int (nI 2)] h (fun v h' => v = some (.int (if Γ 0 i 0 = 0 then -1 else Γ 0 i 2)) ∧ h' = h) (fun _ _ => False) := by
  refine am_body hlt (by decide +kernel) (Nat.le_of_ble_eq_true rfl) (fun k hl hR h0 hno => ?_)
  subst hl
  obtain ⟨Qf, hQ⟩ : ∃ Qf, Qf = am_Q k 0 0 (fun v h' => v = some (.int (if Γ 0 i 0 = 0 then -1 else Γ 0 i 2)) ∧ h' = h) (fun _ _ => False) := ⟨_, rfl⟩
  rw [← hQ]
  have hx0 : wdm n p 5 0 = true := rfl
  have hn0 : wdm n p 3 0 = true := rfl
  have hn8 : n ≤ 8 := w.1.1
  have hp24 : p ≤ 24 := w.1.2.1
  have ho8 : ord.length ≤ 8 := w.1.2.2.2.2
  have hdi : wdm n p 2 i = true := decide_eq_true hi
  have hdi1 : wdm n p 1 i = true := decide_eq_true hi
  have hdi0 : wdm n p 0 i = true := decide_eq_true hi
  refine g_aload_n dX4_ofDistrict_0 rfl ?_
  refine g_iload_n dX4_ofDistrict_1 rfl ?_
  refine g_callV [_] dX4_ofDistrict_2 mc_X4_75 mi_X4_isNoDistrict se_X4_isNoDistrict (c_isNoDistrict_0 hlt w (by assumption)) (w.k (by first | rfl | assumption)) rfl rfl (Nat.le_of_ble_eq_true rfl) (am_rm hR (by decide)) (fun _ _ z => z) (fun v hx hq hE => ?_)
  obtain ⟨rfl, rfl⟩ := hq
  refine g_if_eq 18 dX4_ofDistrict_5 (by decide) (fun _ => ?_) (fun z => absurd z (by decide))
  refine g_aload_n dX4_ofDistrict_18 rfl ?_
  refine w_getR w dX4_ofDistrict_19 fl_X4_12 rfl rfl (by first | rfl | assumption) rfl ?_
  refine g_iload_n dX4_ofDistrict_22 rfl ?_
  refine g_callV [_] dX4_ofDistrict_23 mc_X4_103 mi_Jx4a65c_get_915e3 se_Jx4a65c_get_915e3 (c_get0 hlt w (by first | assumption | omega)) (w.k (by first | rfl | assumption)) rfl rfl (Nat.le_of_ble_eq_true rfl) (am_rm hR (by decide)) (fun _ _ z => z) (fun v hx hq hE => ?_)
  obtain ⟨rfl, rfl⟩ := hq
  refine g_castS (q := (RX1, TX1, 14)) dX4_ofDistrict_26 kl_X4_66 (w.k (by first | rfl | assumption)) rfl ?_
  refine g_astore_n dX4_ofDistrict_29 (by decide) rfl ?_
  refine g_iload_n dX4_ofDistrict_30 rfl ?_
  refine g_tableIn 107 dX4_ofDistrict_31 (by decide) (by decide) rfl (by decide) ?_
  refine g_aload_n dX4_ofDistrict_107 rfl ?_
  refine w_getR w dX4_ofDistrict_108 fl_X4_112 rfl rfl (by first | rfl | assumption) rfl ?_
  refine w_getI w dX4_ofDistrict_111 fl_X4_116 rfl rfl (by first | rfl | assumption) ?_
  refine g_if_eq 127 dX4_ofDistrict_114 (by decide) (fun c_114 => ?_) (fun c_114 => ?_)
  · skip
    refine g_iconst (v := (-1)) dX4_ofDistrict_127 (by decide) ?_
    rw [hQ]
    refine g_iret dX4_ofDistrict_128 rfl rfl (by decide) (by decide) ?_
    exact ⟨by simp only [reduceIte, c_114], rfl⟩
  · skip
    refine g_aload_n dX4_ofDistrict_117 rfl ?_
    refine w_getR w dX4_ofDistrict_118 fl_X4_112 rfl rfl (by first | rfl | assumption) rfl ?_
    refine w_getI w dX4_ofDistrict_121 fl_X4_178 rfl rfl (by first | rfl | assumption) ?_
    refine g_goto 128 dX4_ofDistrict_124 (by decide) ?_
    rw [hQ]
    refine g_iret dX4_ofDistrict_128 rfl rfl (by decide) (by decide) ?_
    exact ⟨by simp only [reduceIte, c_114], rfl⟩
set_option maxRecDepth 100000 in
set_option maxHeartbeats 4000000 in
theorem c_X4_of_0_3 {l : Launch} (hlt : l.stackTraces = false) {N n p : Nat} {ord : List Nat} {L : Nat → Nat → Nat} {Γ : Nat → Nat → Nat → Int32} {o : Int64} {h : am_H} (w : WI N n p ord L Γ o h) {i : Nat} (hi : i < n) : am_Con l yX4_ofDistrict (.code yX4_ofDistrict cX4_ofDistrict 4 (some .int)) 20 0 0 [.ref (L 5 0), .int (nI i), .int (nI 3)] h (fun v h' => v = some (.int (Γ 2 i 8)) ∧ h' = h) (fun _ _ => False) := by
  refine am_body hlt (by decide +kernel) (Nat.le_of_ble_eq_true rfl) (fun k hl hR h0 hno => ?_)
  subst hl
  obtain ⟨Qf, hQ⟩ : ∃ Qf, Qf = am_Q k 0 0 (fun v h' => v = some (.int (Γ 2 i 8)) ∧ h' = h) (fun _ _ => False) := ⟨_, rfl⟩
  rw [← hQ]
  have hx0 : wdm n p 5 0 = true := rfl
  have hn0 : wdm n p 3 0 = true := rfl
  have hn8 : n ≤ 8 := w.1.1
  have hp24 : p ≤ 24 := w.1.2.1
  have ho8 : ord.length ≤ 8 := w.1.2.2.2.2
  have hdi : wdm n p 2 i = true := decide_eq_true hi
  have hdi1 : wdm n p 1 i = true := decide_eq_true hi
  have hdi0 : wdm n p 0 i = true := decide_eq_true hi
  refine g_aload_n dX4_ofDistrict_0 rfl ?_
  refine g_iload_n dX4_ofDistrict_1 rfl ?_
  refine g_callV [_] dX4_ofDistrict_2 mc_X4_75 mi_X4_isNoDistrict se_X4_isNoDistrict (c_isNoDistrict_0 hlt w (by assumption)) (w.k (by first | rfl | assumption)) rfl rfl (Nat.le_of_ble_eq_true rfl) (am_rm hR (by decide)) (fun _ _ z => z) (fun v hx hq hE => ?_)
  obtain ⟨rfl, rfl⟩ := hq
  refine g_if_eq 18 dX4_ofDistrict_5 (by decide) (fun _ => ?_) (fun z => absurd z (by decide))
  refine g_aload_n dX4_ofDistrict_18 rfl ?_
  refine w_getR w dX4_ofDistrict_19 fl_X4_12 rfl rfl (by first | rfl | assumption) rfl ?_
  refine g_iload_n dX4_ofDistrict_22 rfl ?_
  refine g_callV [_] dX4_ofDistrict_23 mc_X4_103 mi_Jx4a65c_get_915e3 se_Jx4a65c_get_915e3 (c_get0 hlt w (by first | assumption | omega)) (w.k (by first | rfl | assumption)) rfl rfl (Nat.le_of_ble_eq_true rfl) (am_rm hR (by decide)) (fun _ _ z => z) (fun v hx hq hE => ?_)
  obtain ⟨rfl, rfl⟩ := hq
  refine g_castS (q := (RX1, TX1, 14)) dX4_ofDistrict_26 kl_X4_66 (w.k (by first | rfl | assumption)) rfl ?_
  refine g_astore_n dX4_ofDistrict_29 (by decide) rfl ?_
  refine g_iload_n dX4_ofDistrict_30 rfl ?_
  refine g_tableIn 129 dX4_ofDistrict_31 (by decide) (by decide) rfl (by decide) ?_
  refine g_aload_n dX4_ofDistrict_129 rfl ?_
  refine w_getI w dX4_ofDistrict_130 fl_X4_160 rfl rfl (by first | rfl | assumption) ?_
  rw [hQ]
  refine g_iret dX4_ofDistrict_133 rfl rfl (by decide) (by decide) ?_
  exact ⟨rfl, rfl⟩
set_option maxRecDepth 100000 in
set_option maxHeartbeats 4000000 in
theorem c_X4_of_0_4 {l : Launch} (hlt : l.stackTraces = false) {N n p : Nat} {ord : List Nat} {L : Nat → Nat → Nat} {Γ : Nat → Nat → Nat → Int32} {o : Int64} {h : am_H} (w : WI N n p ord L Γ o h) {i : Nat} (hi : i < n) : am_Con l yX4_ofDistrict (.code yX4_ofDistrict cX4_ofDistrict 4 (some .int)) 20 0 0 [.ref (L 5 0), .int (nI i), .int (nI 4)] h (fun v h' => v = some (.int (Γ 2 i 9)) ∧ h' = h) (fun _ _ => False) := by
  refine am_body hlt (by decide +kernel) (Nat.le_of_ble_eq_true rfl) (fun k hl hR h0 hno => ?_)
  subst hl
  obtain ⟨Qf, hQ⟩ : ∃ Qf, Qf = am_Q k 0 0 (fun v h' => v = some (.int (Γ 2 i 9)) ∧ h' = h) (fun _ _ => False) := ⟨_, rfl⟩
  rw [← hQ]
  have hx0 : wdm n p 5 0 = true := rfl
  have hn0 : wdm n p 3 0 = true := rfl
  have hn8 : n ≤ 8 := w.1.1
  have hp24 : p ≤ 24 := w.1.2.1
  have ho8 : ord.length ≤ 8 := w.1.2.2.2.2
  have hdi : wdm n p 2 i = true := decide_eq_true hi
  have hdi1 : wdm n p 1 i = true := decide_eq_true hi
  have hdi0 : wdm n p 0 i = true := decide_eq_true hi
  refine g_aload_n dX4_ofDistrict_0 rfl ?_
  refine g_iload_n dX4_ofDistrict_1 rfl ?_
  refine g_callV [_] dX4_ofDistrict_2 mc_X4_75 mi_X4_isNoDistrict se_X4_isNoDistrict (c_isNoDistrict_0 hlt w (by assumption)) (w.k (by first | rfl | assumption)) rfl rfl (Nat.le_of_ble_eq_true rfl) (am_rm hR (by decide)) (fun _ _ z => z) (fun v hx hq hE => ?_)
  obtain ⟨rfl, rfl⟩ := hq
  refine g_if_eq 18 dX4_ofDistrict_5 (by decide) (fun _ => ?_) (fun z => absurd z (by decide))
  refine g_aload_n dX4_ofDistrict_18 rfl ?_
  refine w_getR w dX4_ofDistrict_19 fl_X4_12 rfl rfl (by first | rfl | assumption) rfl ?_
  refine g_iload_n dX4_ofDistrict_22 rfl ?_
  refine g_callV [_] dX4_ofDistrict_23 mc_X4_103 mi_Jx4a65c_get_915e3 se_Jx4a65c_get_915e3 (c_get0 hlt w (by first | assumption | omega)) (w.k (by first | rfl | assumption)) rfl rfl (Nat.le_of_ble_eq_true rfl) (am_rm hR (by decide)) (fun _ _ z => z) (fun v hx hq hE => ?_)
  obtain ⟨rfl, rfl⟩ := hq
  refine g_castS (q := (RX1, TX1, 14)) dX4_ofDistrict_26 kl_X4_66 (w.k (by first | rfl | assumption)) rfl ?_
  refine g_astore_n dX4_ofDistrict_29 (by decide) rfl ?_
  refine g_iload_n dX4_ofDistrict_30 rfl ?_
  refine g_tableIn 134 dX4_ofDistrict_31 (by decide) (by decide) rfl (by decide) ?_
  refine g_aload_n dX4_ofDistrict_134 rfl ?_
  refine w_getI w dX4_ofDistrict_135 fl_X4_181 rfl rfl (by first | rfl | assumption) ?_
  rw [hQ]
  refine g_iret dX4_ofDistrict_138 rfl rfl (by decide) (by decide) ?_
  exact ⟨rfl, rfl⟩
set_option maxRecDepth 100000 in
set_option maxHeartbeats 4000000 in
theorem c_X4_of_0_5 {l : Launch} (hlt : l.stackTraces = false) {N n p : Nat} {ord : List Nat} {L : Nat → Nat → Nat} {Γ : Nat → Nat → Nat → Int32} {o : Int64} {h : am_H} (w : WI N n p ord L Γ o h) {i : Nat} (hi : i < n) : am_Con l yX4_ofDistrict (.code yX4_ofDistrict cX4_ofDistrict 4 (some .int)) 20 0 0 [.ref (L 5 0), .int (nI i), .int (nI 5)] h (fun v h' => v = some (.int (Γ 2 i 10)) ∧ h' = h) (fun _ _ => False) := by
  refine am_body hlt (by decide +kernel) (Nat.le_of_ble_eq_true rfl) (fun k hl hR h0 hno => ?_)
  subst hl
  obtain ⟨Qf, hQ⟩ : ∃ Qf, Qf = am_Q k 0 0 (fun v h' => v = some (.int (Γ 2 i 10)) ∧ h' = h) (fun _ _ => False) := ⟨_, rfl⟩
  rw [← hQ]
  have hx0 : wdm n p 5 0 = true := rfl
  have hn0 : wdm n p 3 0 = true := rfl
  have hn8 : n ≤ 8 := w.1.1
  have hp24 : p ≤ 24 := w.1.2.1
  have ho8 : ord.length ≤ 8 := w.1.2.2.2.2
  have hdi : wdm n p 2 i = true := decide_eq_true hi
  have hdi1 : wdm n p 1 i = true := decide_eq_true hi
  have hdi0 : wdm n p 0 i = true := decide_eq_true hi
  refine g_aload_n dX4_ofDistrict_0 rfl ?_
  refine g_iload_n dX4_ofDistrict_1 rfl ?_
  refine g_callV [_] dX4_ofDistrict_2 mc_X4_75 mi_X4_isNoDistrict se_X4_isNoDistrict (c_isNoDistrict_0 hlt w (by assumption)) (w.k (by first | rfl | assumption)) rfl rfl (Nat.le_of_ble_eq_true rfl) (am_rm hR (by decide)) (fun _ _ z => z) (fun v hx hq hE => ?_)
  obtain ⟨rfl, rfl⟩ := hq
  refine g_if_eq 18 dX4_ofDistrict_5 (by decide) (fun _ => ?_) (fun z => absurd z (by decide))
  refine g_aload_n dX4_ofDistrict_18 rfl ?_
  refine w_getR w dX4_ofDistrict_19 fl_X4_12 rfl rfl (by first | rfl | assumption) rfl ?_
  refine g_iload_n dX4_ofDistrict_22 rfl ?_
  refine g_callV [_] dX4_ofDistrict_23 mc_X4_103 mi_Jx4a65c_get_915e3 se_Jx4a65c_get_915e3 (c_get0 hlt w (by first | assumption | omega)) (w.k (by first | rfl | assumption)) rfl rfl (Nat.le_of_ble_eq_true rfl) (am_rm hR (by decide)) (fun _ _ z => z) (fun v hx hq hE => ?_)
  obtain ⟨rfl, rfl⟩ := hq
  refine g_castS (q := (RX1, TX1, 14)) dX4_ofDistrict_26 kl_X4_66 (w.k (by first | rfl | assumption)) rfl ?_
  refine g_astore_n dX4_ofDistrict_29 (by decide) rfl ?_
  refine g_iload_n dX4_ofDistrict_30 rfl ?_
  refine g_tableIn 139 dX4_ofDistrict_31 (by decide) (by decide) rfl (by decide) ?_
  refine g_aload_n dX4_ofDistrict_139 rfl ?_
  refine w_getI w dX4_ofDistrict_140 fl_X4_184 rfl rfl (by first | rfl | assumption) ?_
  rw [hQ]
  refine g_iret dX4_ofDistrict_143 rfl rfl (by decide) (by decide) ?_
  exact ⟨rfl, rfl⟩
set_option maxRecDepth 100000 in
set_option maxHeartbeats 4000000 in
theorem c_X4_of_0_6 {l : Launch} (hlt : l.stackTraces = false) {N n p : Nat} {ord : List Nat} {L : Nat → Nat → Nat} {Γ : Nat → Nat → Nat → Int32} {o : Int64} {h : am_H} (w : WI N n p ord L Γ o h) {i : Nat} (hi : i < n) : am_Con l yX4_ofDistrict (.code yX4_ofDistrict cX4_ofDistrict 4 (some .int)) 20 0 0 [.ref (L 5 0), .int (nI i), .int (nI 6)] h (fun v h' => v = some (.int (Γ 2 i 11)) ∧ h' = h) (fun _ _ => False) := by
  refine am_body hlt (by decide +kernel) (Nat.le_of_ble_eq_true rfl) (fun k hl hR h0 hno => ?_)
  subst hl
  obtain ⟨Qf, hQ⟩ : ∃ Qf, Qf = am_Q k 0 0 (fun v h' => v = some (.int (Γ 2 i 11)) ∧ h' = h) (fun _ _ => False) := ⟨_, rfl⟩
  rw [← hQ]
  have hx0 : wdm n p 5 0 = true := rfl
  have hn0 : wdm n p 3 0 = true := rfl
  have hn8 : n ≤ 8 := w.1.1
  have hp24 : p ≤ 24 := w.1.2.1
  have ho8 : ord.length ≤ 8 := w.1.2.2.2.2
  have hdi : wdm n p 2 i = true := decide_eq_true hi
  have hdi1 : wdm n p 1 i = true := decide_eq_true hi
  have hdi0 : wdm n p 0 i = true := decide_eq_true hi
  refine g_aload_n dX4_ofDistrict_0 rfl ?_
  refine g_iload_n dX4_ofDistrict_1 rfl ?_
  refine g_callV [_] dX4_ofDistrict_2 mc_X4_75 mi_X4_isNoDistrict se_X4_isNoDistrict (c_isNoDistrict_0 hlt w (by assumption)) (w.k (by first | rfl | assumption)) rfl rfl (Nat.le_of_ble_eq_true rfl) (am_rm hR (by decide)) (fun _ _ z => z) (fun v hx hq hE => ?_)
  obtain ⟨rfl, rfl⟩ := hq
  refine g_if_eq 18 dX4_ofDistrict_5 (by decide) (fun _ => ?_) (fun z => absurd z (by decide))
  refine g_aload_n dX4_ofDistrict_18 rfl ?_
  refine w_getR w dX4_ofDistrict_19 fl_X4_12 rfl rfl (by first | rfl | assumption) rfl ?_
  refine g_iload_n dX4_ofDistrict_22 rfl ?_
  refine g_callV [_] dX4_ofDistrict_23 mc_X4_103 mi_Jx4a65c_get_915e3 se_Jx4a65c_get_915e3 (c_get0 hlt w (by first | assumption | omega)) (w.k (by first | rfl | assumption)) rfl rfl (Nat.le_of_ble_eq_true rfl) (am_rm hR (by decide)) (fun _ _ z => z) (fun v hx hq hE => ?_)
  obtain ⟨rfl, rfl⟩ := hq
  refine g_castS (q := (RX1, TX1, 14)) dX4_ofDistrict_26 kl_X4_66 (w.k (by first | rfl | assumption)) rfl ?_
  refine g_astore_n dX4_ofDistrict_29 (by decide) rfl ?_
  refine g_iload_n dX4_ofDistrict_30 rfl ?_
  refine g_tableIn 144 dX4_ofDistrict_31 (by decide) (by decide) rfl (by decide) ?_
  refine g_aload_n dX4_ofDistrict_144 rfl ?_
  refine w_getI w dX4_ofDistrict_145 fl_X4_187 rfl rfl (by first | rfl | assumption) ?_
  rw [hQ]
  refine g_iret dX4_ofDistrict_148 rfl rfl (by decide) (by decide) ?_
  exact ⟨rfl, rfl⟩
set_option maxRecDepth 100000 in
set_option maxHeartbeats 4000000 in
theorem c_X4_of_0_7 {l : Launch} (hlt : l.stackTraces = false) {N n p : Nat} {ord : List Nat} {L : Nat → Nat → Nat} {Γ : Nat → Nat → Nat → Int32} {o : Int64} {h : am_H} (w : WI N n p ord L Γ o h) {i : Nat} (hi : i < n) : am_Con l yX4_ofDistrict (.code yX4_ofDistrict cX4_ofDistrict 4 (some .int)) 20 0 0 [.ref (L 5 0), .int (nI i), .int (nI 7)] h (fun v h' => v = some (.int (Γ 2 i 12)) ∧ h' = h) (fun _ _ => False) := by
  refine am_body hlt (by decide +kernel) (Nat.le_of_ble_eq_true rfl) (fun k hl hR h0 hno => ?_)
  subst hl
  obtain ⟨Qf, hQ⟩ : ∃ Qf, Qf = am_Q k 0 0 (fun v h' => v = some (.int (Γ 2 i 12)) ∧ h' = h) (fun _ _ => False) := ⟨_, rfl⟩
  rw [← hQ]
  have hx0 : wdm n p 5 0 = true := rfl
  have hn0 : wdm n p 3 0 = true := rfl
  have hn8 : n ≤ 8 := w.1.1
  have hp24 : p ≤ 24 := w.1.2.1
  have ho8 : ord.length ≤ 8 := w.1.2.2.2.2
  have hdi : wdm n p 2 i = true := decide_eq_true hi
  have hdi1 : wdm n p 1 i = true := decide_eq_true hi
  have hdi0 : wdm n p 0 i = true := decide_eq_true hi
  refine g_aload_n dX4_ofDistrict_0 rfl ?_
  refine g_iload_n dX4_ofDistrict_1 rfl ?_
  refine g_callV [_] dX4_ofDistrict_2 mc_X4_75 mi_X4_isNoDistrict se_X4_isNoDistrict (c_isNoDistrict_0 hlt w (by assumption)) (w.k (by first | rfl | assumption)) rfl rfl (Nat.le_of_ble_eq_true rfl) (am_rm hR (by decide)) (fun _ _ z => z) (fun v hx hq hE => ?_)
  obtain ⟨rfl, rfl⟩ := hq
  refine g_if_eq 18 dX4_ofDistrict_5 (by decide) (fun _ => ?_) (fun z => absurd z (by decide))
  refine g_aload_n dX4_ofDistrict_18 rfl ?_
  refine w_getR w dX4_ofDistrict_19 fl_X4_12 rfl rfl (by first | rfl | assumption) rfl ?_
  refine g_iload_n dX4_ofDistrict_22 rfl ?_
  refine g_callV [_] dX4_ofDistrict_23 mc_X4_103 mi_Jx4a65c_get_915e3 se_Jx4a65c_get_915e3 (c_get0 hlt w (by first | assumption | omega)) (w.k (by first | rfl | assumption)) rfl rfl (Nat.le_of_ble_eq_true rfl) (am_rm hR (by decide)) (fun _ _ z => z) (fun v hx hq hE => ?_)
  obtain ⟨rfl, rfl⟩ := hq
  refine g_castS (q := (RX1, TX1, 14)) dX4_ofDistrict_26 kl_X4_66 (w.k (by first | rfl | assumption)) rfl ?_
  refine g_astore_n dX4_ofDistrict_29 (by decide) rfl ?_
  refine g_iload_n dX4_ofDistrict_30 rfl ?_
  refine g_tableIn 149 dX4_ofDistrict_31 (by decide) (by decide) rfl (by decide) ?_
  refine g_aload_n dX4_ofDistrict_149 rfl ?_
  refine w_getI w dX4_ofDistrict_150 fl_X4_190 rfl rfl (by first | rfl | assumption) ?_
  rw [hQ]
  refine g_iret dX4_ofDistrict_153 rfl rfl (by decide) (by decide) ?_
  exact ⟨rfl, rfl⟩
set_option maxRecDepth 100000 in
set_option maxHeartbeats 4000000 in
theorem c_X4_of_0_8 {l : Launch} (hlt : l.stackTraces = false) {N n p : Nat} {ord : List Nat} {L : Nat → Nat → Nat} {Γ : Nat → Nat → Nat → Int32} {o : Int64} {h : am_H} (w : WI N n p ord L Γ o h) {i : Nat} (hi : i < n) : am_Con l yX4_ofDistrict (.code yX4_ofDistrict cX4_ofDistrict 4 (some .int)) 20 0 0 [.ref (L 5 0), .int (nI i), .int (nI 8)] h (fun v h' => v = some (.int (Γ 2 i 13)) ∧ h' = h) (fun _ _ => False) := by
  refine am_body hlt (by decide +kernel) (Nat.le_of_ble_eq_true rfl) (fun k hl hR h0 hno => ?_)
  subst hl
  obtain ⟨Qf, hQ⟩ : ∃ Qf, Qf = am_Q k 0 0 (fun v h' => v = some (.int (Γ 2 i 13)) ∧ h' = h) (fun _ _ => False) := ⟨_, rfl⟩
  rw [← hQ]
  have hx0 : wdm n p 5 0 = true := rfl
  have hn0 : wdm n p 3 0 = true := rfl
  have hn8 : n ≤ 8 := w.1.1
  have hp24 : p ≤ 24 := w.1.2.1
  have ho8 : ord.length ≤ 8 := w.1.2.2.2.2
  have hdi : wdm n p 2 i = true := decide_eq_true hi
  have hdi1 : wdm n p 1 i = true := decide_eq_true hi
  have hdi0 : wdm n p 0 i = true := decide_eq_true hi
  refine g_aload_n dX4_ofDistrict_0 rfl ?_
  refine g_iload_n dX4_ofDistrict_1 rfl ?_
  refine g_callV [_] dX4_ofDistrict_2 mc_X4_75 mi_X4_isNoDistrict se_X4_isNoDistrict (c_isNoDistrict_0 hlt w (by assumption)) (w.k (by first | rfl | assumption)) rfl rfl (Nat.le_of_ble_eq_true rfl) (am_rm hR (by decide)) (fun _ _ z => z) (fun v hx hq hE => ?_)
  obtain ⟨rfl, rfl⟩ := hq
  refine g_if_eq 18 dX4_ofDistrict_5 (by decide) (fun _ => ?_) (fun z => absurd z (by decide))
  refine g_aload_n dX4_ofDistrict_18 rfl ?_
  refine w_getR w dX4_ofDistrict_19 fl_X4_12 rfl rfl (by first | rfl | assumption) rfl ?_
  refine g_iload_n dX4_ofDistrict_22 rfl ?_
  refine g_callV [_] dX4_ofDistrict_23 mc_X4_103 mi_Jx4a65c_get_915e3 se_Jx4a65c_get_915e3 (c_get0 hlt w (by first | assumption | omega)) (w.k (by first | rfl | assumption)) rfl rfl (Nat.le_of_ble_eq_true rfl) (am_rm hR (by decide)) (fun _ _ z => z) (fun v hx hq hE => ?_)
  obtain ⟨rfl, rfl⟩ := hq
  refine g_castS (q := (RX1, TX1, 14)) dX4_ofDistrict_26 kl_X4_66 (w.k (by first | rfl | assumption)) rfl ?_
  refine g_astore_n dX4_ofDistrict_29 (by decide) rfl ?_
  refine g_iload_n dX4_ofDistrict_30 rfl ?_
  refine g_tableIn 154 dX4_ofDistrict_31 (by decide) (by decide) rfl (by decide) ?_
  refine g_aload_n dX4_ofDistrict_154 rfl ?_
  refine w_getI w dX4_ofDistrict_155 fl_X4_193 rfl rfl (by first | rfl | assumption) ?_
  rw [hQ]
  refine g_iret dX4_ofDistrict_158 rfl rfl (by decide) (by decide) ?_
  exact ⟨rfl, rfl⟩
set_option maxRecDepth 100000 in
set_option maxHeartbeats 4000000 in
theorem c_X4_place_1 {l : Launch} (hlt : l.stackTraces = false) {N n p : Nat} {ord : List Nat} {L : Nat → Nat → Nat} {Γ : Nat → Nat → Nat → Int32} {o : Int64} {h : am_H} (w : WI N n p ord L Γ o h) {a : Int32} (hb : a < 0 ∨ nI n ≤ a) : am_Con l yX4_place (.code yX4_place cX4_place 3 (some .int)) 20 1 6 [.ref (L 5 0), .int a] h (fun v h' => False) (fun E h' => E = "java/lang/IndexOutOfBoundsException" ∧ h' = h) := by
  refine am_body hlt (by decide +kernel) (Nat.le_of_ble_eq_true rfl) (fun k hl hR h0 hno => ?_)
  subst hl
  obtain ⟨Qf, hQ⟩ : ∃ Qf, Qf = am_Q k 1 6 (fun v h' => False) (fun E h' => E = "java/lang/IndexOutOfBoundsException" ∧ h' = h) := ⟨_, rfl⟩
  rw [← hQ]
  have hx0 : wdm n p 5 0 = true := rfl
  have hn0 : wdm n p 3 0 = true := rfl
  have hn8 : n ≤ 8 := w.1.1
  have hp24 : p ≤ 24 := w.1.2.1
  have ho8 : ord.length ≤ 8 := w.1.2.2.2.2
  refine g_aload_n dX4_place_0 rfl ?_
  refine g_iload_n dX4_place_1 rfl ?_
  refine g_callV [_] dX4_place_2 mc_X4_75 mi_X4_isNoDistrict se_X4_isNoDistrict (c_isNoDistrict_1 hlt w (by assumption)) (w.k (by first | rfl | assumption)) rfl rfl (Nat.le_of_ble_eq_true rfl) (am_rm hR (by decide)) (fun _ _ z => z) (fun v hx hq hE => ?_)
  obtain ⟨rfl, rfl⟩ := hq
  refine g_if_eq 18 dX4_place_5 (by decide) (fun z => absurd z (by decide)) (fun _ => ?_)
  rw [hQ]
  refine g_throw (text := "no such district") dX4_place_8 dX4_place_11 dX4_place_12 dX4_place_14 dX4_place_17 tw_79 (by simp [am_strs]) hno (by rw [hR]; decide) (by rw [hR]; exact Nat.le_of_ble_eq_true rfl) (by rw [hR]; decide) (by rw [hR]; decide) (by decide) (by decide) ?_
  exact ⟨rfl, rfl⟩
set_option maxRecDepth 100000 in
set_option maxHeartbeats 4000000 in
theorem c_X4_place_0 {l : Launch} (hlt : l.stackTraces = false) {N n p : Nat} {ord : List Nat} {L : Nat → Nat → Nat} {Γ : Nat → Nat → Nat → Int32} {o : Int64} {h : am_H} (w : WI N n p ord L Γ o h) {i : Nat} (hi : i < n) : am_Con l yX4_place (.code yX4_place cX4_place 3 (some .int)) 20 0 0 [.ref (L 5 0), .int (nI i)] h (fun v h' => v = some (.int (if Γ 0 i 0 = 0 then -1 else sp_sum (fun j => if sp_ahead Γ (ord.getD j 0) i = 0 then 0 else 1) ord.length)) ∧ h' = h) (fun _ _ => False) := by
  refine am_body hlt (by decide +kernel) (Nat.le_of_ble_eq_true rfl) (fun k hl hR h0 hno => ?_)
  subst hl
  obtain ⟨Qf, hQ⟩ : ∃ Qf, Qf = am_Q k 0 0 (fun v h' => v = some (.int (if Γ 0 i 0 = 0 then -1 else sp_sum (fun j => if sp_ahead Γ (ord.getD j 0) i = 0 then 0 else 1) ord.length)) ∧ h' = h) (fun _ _ => False) := ⟨_, rfl⟩
  rw [← hQ]
  have hx0 : wdm n p 5 0 = true := rfl
  have hn0 : wdm n p 3 0 = true := rfl
  have hn8 : n ≤ 8 := w.1.1
  have hp24 : p ≤ 24 := w.1.2.1
  have ho8 : ord.length ≤ 8 := w.1.2.2.2.2
  have hdi : wdm n p 2 i = true := decide_eq_true hi
  have hdi1 : wdm n p 1 i = true := decide_eq_true hi
  have hdi0 : wdm n p 0 i = true := decide_eq_true hi
  refine g_aload_n dX4_place_0 rfl ?_
  refine g_iload_n dX4_place_1 rfl ?_
  refine g_callV [_] dX4_place_2 mc_X4_75 mi_X4_isNoDistrict se_X4_isNoDistrict (c_isNoDistrict_0 hlt w (by assumption)) (w.k (by first | rfl | assumption)) rfl rfl (Nat.le_of_ble_eq_true rfl) (am_rm hR (by decide)) (fun _ _ z => z) (fun v hx hq hE => ?_)
  obtain ⟨rfl, rfl⟩ := hq
  refine g_if_eq 18 dX4_place_5 (by decide) (fun _ => ?_) (fun z => absurd z (by decide))
  refine g_aload_n dX4_place_18 rfl ?_
  refine w_getR w dX4_place_19 fl_X4_12 rfl rfl (by first | rfl | assumption) rfl ?_
  refine g_iload_n dX4_place_22 rfl ?_
  refine g_callV [_] dX4_place_23 mc_X4_103 mi_Jx4a65c_get_915e3 se_Jx4a65c_get_915e3 (c_get0 hlt w (by first | assumption | omega)) (w.k (by first | rfl | assumption)) rfl rfl (Nat.le_of_ble_eq_true rfl) (am_rm hR (by decide)) (fun _ _ z => z) (fun v hx hq hE => ?_)
  obtain ⟨rfl, rfl⟩ := hq
  refine g_castS (q := (RX1, TX1, 14)) dX4_place_26 kl_X4_66 (w.k (by first | rfl | assumption)) rfl ?_
  refine g_astore_n dX4_place_29 (by decide) rfl ?_
  refine g_aload_n dX4_place_30 rfl ?_
  refine w_getR w dX4_place_31 fl_X4_112 rfl rfl (by first | rfl | assumption) rfl ?_
  refine w_getI w dX4_place_34 fl_X4_116 rfl rfl (by first | rfl | assumption) ?_
  refine g_if_eq 48 dX4_place_37 (by decide) (fun c_37 => ?_) (fun c_37 => ?_)
  · skip
    refine g_iconst (v := (-1)) dX4_place_48 (by decide) ?_
    rw [hQ]
    refine g_iret dX4_place_49 rfl rfl (by decide) (by decide) ?_
    exact ⟨by simp only [reduceIte, c_37], rfl⟩
  · skip
    refine g_aload_n dX4_place_40 rfl ?_
    refine g_aload_n dX4_place_41 rfl ?_
    refine g_callV [_] dX4_place_42 mc_X4_198 mi_X4_bidsAheadOf se_X4_bidsAheadOf (c_X4_bidsAheadOf hlt w (by assumption)) (w.k (by first | rfl | assumption)) rfl rfl (Nat.le_of_ble_eq_true rfl) (am_rm hR (by decide)) (fun _ _ z => z) (fun v hx hq hE => ?_)
    obtain ⟨rfl, rfl⟩ := hq
    refine g_goto 49 dX4_place_45 (by decide) ?_
    rw [hQ]
    refine g_iret dX4_place_49 rfl rfl (by decide) (by decide) ?_
    exact ⟨by simp only [reduceIte, c_37], rfl⟩
set_option maxRecDepth 100000 in
set_option maxHeartbeats 4000000 in
theorem c_X4_flowAnew_1 {l : Launch} (hlt : l.stackTraces = false) {N n p : Nat} {ord : List Nat} {L : Nat → Nat → Nat} {Γ : Nat → Nat → Nat → Int32} {o : Int64} {h : am_H} (w : WI N n p ord L Γ o h) {a : Int32} (hb : a < 0 ∨ nI n ≤ a) : am_Con l yX4_flowAnew (.code yX4_flowAnew cX4_flowAnew 4 (some .int)) 20 1 6 [.ref (L 5 0), .int a] h (fun v h' => False) (fun E h' => E = "java/lang/IndexOutOfBoundsException" ∧ h' = h) := by
  refine am_body hlt (by decide +kernel) (Nat.le_of_ble_eq_true rfl) (fun k hl hR h0 hno => ?_)
  subst hl
  obtain ⟨Qf, hQ⟩ : ∃ Qf, Qf = am_Q k 1 6 (fun v h' => False) (fun E h' => E = "java/lang/IndexOutOfBoundsException" ∧ h' = h) := ⟨_, rfl⟩
  rw [← hQ]
  have hx0 : wdm n p 5 0 = true := rfl
  have hn0 : wdm n p 3 0 = true := rfl
  have hn8 : n ≤ 8 := w.1.1
  have hp24 : p ≤ 24 := w.1.2.1
  have ho8 : ord.length ≤ 8 := w.1.2.2.2.2
  refine g_aload_n dX4_flowAnew_0 rfl ?_
  refine g_iload_n dX4_flowAnew_1 rfl ?_
  refine g_callV [_] dX4_flowAnew_2 mc_X4_75 mi_X4_isNoDistrict se_X4_isNoDistrict (c_isNoDistrict_1 hlt w (by assumption)) (w.k (by first | rfl | assumption)) rfl rfl (Nat.le_of_ble_eq_true rfl) (am_rm hR (by decide)) (fun _ _ z => z) (fun v hx hq hE => ?_)
  obtain ⟨rfl, rfl⟩ := hq
  refine g_if_eq 18 dX4_flowAnew_5 (by decide) (fun z => absurd z (by decide)) (fun _ => ?_)
  rw [hQ]
  refine g_throw (text := "no such district") dX4_flowAnew_8 dX4_flowAnew_11 dX4_flowAnew_12 dX4_flowAnew_14 dX4_flowAnew_17 tw_79 (by simp [am_strs]) hno (by rw [hR]; decide) (by rw [hR]; exact Nat.le_of_ble_eq_true rfl) (by rw [hR]; decide) (by rw [hR]; decide) (by decide) (by decide) ?_
  exact ⟨rfl, rfl⟩
set_option maxRecDepth 100000 in
set_option maxHeartbeats 4000000 in
theorem c_X4_flowAnew_0a {l : Launch} (hlt : l.stackTraces = false) {N n p : Nat} {ord : List Nat} {L : Nat → Nat → Nat} {Γ : Nat → Nat → Nat → Int32} {o : Int64} {h : am_H} (w : WI N n p ord L Γ o h) {i : Nat} (hi : i < n) (hf : Γ 5 0 5 = 0) : am_Con l yX4_flowAnew (.code yX4_flowAnew cX4_flowAnew 4 (some .int)) 20 0 0 [.ref (L 5 0), .int (nI i)] h (fun v h' => v = some (.int 0) ∧ h' = h) (fun _ _ => False) := by
  refine am_body hlt (by decide +kernel) (Nat.le_of_ble_eq_true rfl) (fun k hl hR h0 hno => ?_)
  subst hl
  obtain ⟨Qf, hQ⟩ : ∃ Qf, Qf = am_Q k 0 0 (fun v h' => v = some (.int 0) ∧ h' = h) (fun _ _ => False) := ⟨_, rfl⟩
  rw [← hQ]
  have hx0 : wdm n p 5 0 = true := rfl
  have hn0 : wdm n p 3 0 = true := rfl
  have hn8 : n ≤ 8 := w.1.1
  have hp24 : p ≤ 24 := w.1.2.1
  have ho8 : ord.length ≤ 8 := w.1.2.2.2.2
  have hdi : wdm n p 2 i = true := decide_eq_true hi
  have hdi1 : wdm n p 1 i = true := decide_eq_true hi
  have hdi0 : wdm n p 0 i = true := decide_eq_true hi
  refine g_aload_n dX4_flowAnew_0 rfl ?_
  refine g_iload_n dX4_flowAnew_1 rfl ?_
  refine g_callV [_] dX4_flowAnew_2 mc_X4_75 mi_X4_isNoDistrict se_X4_isNoDistrict (c_isNoDistrict_0 hlt w (by assumption)) (w.k (by first | rfl | assumption)) rfl rfl (Nat.le_of_ble_eq_true rfl) (am_rm hR (by decide)) (fun _ _ z => z) (fun v hx hq hE => ?_)
  obtain ⟨rfl, rfl⟩ := hq
  refine g_if_eq 18 dX4_flowAnew_5 (by decide) (fun _ => ?_) (fun z => absurd z (by decide))
  refine g_aload_n dX4_flowAnew_18 rfl ?_
  refine w_getR w dX4_flowAnew_19 fl_X4_12 rfl rfl (by first | rfl | assumption) rfl ?_
  refine g_iload_n dX4_flowAnew_22 rfl ?_
  refine g_callV [_] dX4_flowAnew_23 mc_X4_103 mi_Jx4a65c_get_915e3 se_Jx4a65c_get_915e3 (c_get0 hlt w (by first | assumption | omega)) (w.k (by first | rfl | assumption)) rfl rfl (Nat.le_of_ble_eq_true rfl) (am_rm hR (by decide)) (fun _ _ z => z) (fun v hx hq hE => ?_)
  obtain ⟨rfl, rfl⟩ := hq
  refine g_castS (q := (RX1, TX1, 14)) dX4_flowAnew_26 kl_X4_66 (w.k (by first | rfl | assumption)) rfl ?_
  refine g_astore_n dX4_flowAnew_29 (by decide) rfl ?_
  refine g_aload_n dX4_flowAnew_30 rfl ?_
  refine w_getI w dX4_flowAnew_31 fl_X4_33 rfl rfl (by first | rfl | assumption) ?_
  refine g_if_eq 47 dX4_flowAnew_34 (by decide) (fun c_34 => ?_) (fun z => absurd hf z)
  refine g_iconst (v := 0) dX4_flowAnew_47 (by decide) ?_
  rw [hQ]
  refine g_iret dX4_flowAnew_48 rfl rfl (by decide) (by decide) ?_
  exact ⟨rfl, rfl⟩
set_option maxRecDepth 100000 in
set_option maxHeartbeats 4000000 in
theorem c_X4_flowAnew_0b {l : Launch} (hlt : l.stackTraces = false) {N n p : Nat} {ord : List Nat} {L : Nat → Nat → Nat} {Γ : Nat → Nat → Nat → Int32} {o : Int64} {h : am_H} (w : WI N n p ord L Γ o h) {i : Nat} (hi : i < n) (hf : ¬ Γ 5 0 5 = 0) (hs : Γ 0 i 0 = 0) : am_Con l yX4_flowAnew (.code yX4_flowAnew cX4_flowAnew 4 (some .int)) 20 0 0 [.ref (L 5 0), .int (nI i)] h (fun v h' => v = some (.int 0) ∧ h' = h) (fun _ _ => False) := by
  refine am_body hlt (by decide +kernel) (Nat.le_of_ble_eq_true rfl) (fun k hl hR h0 hno => ?_)
  subst hl
  obtain ⟨Qf, hQ⟩ : ∃ Qf, Qf = am_Q k 0 0 (fun v h' => v = some (.int 0) ∧ h' = h) (fun _ _ => False) := ⟨_, rfl⟩
  rw [← hQ]
  have hx0 : wdm n p 5 0 = true := rfl
  have hn0 : wdm n p 3 0 = true := rfl
  have hn8 : n ≤ 8 := w.1.1
  have hp24 : p ≤ 24 := w.1.2.1
  have ho8 : ord.length ≤ 8 := w.1.2.2.2.2
  have hdi : wdm n p 2 i = true := decide_eq_true hi
  have hdi1 : wdm n p 1 i = true := decide_eq_true hi
  have hdi0 : wdm n p 0 i = true := decide_eq_true hi
  refine g_aload_n dX4_flowAnew_0 rfl ?_
  refine g_iload_n dX4_flowAnew_1 rfl ?_
  refine g_callV [_] dX4_flowAnew_2 mc_X4_75 mi_X4_isNoDistrict se_X4_isNoDistrict (c_isNoDistrict_0 hlt w (by assumption)) (w.k (by first | rfl | assumption)) rfl rfl (Nat.le_of_ble_eq_true rfl) (am_rm hR (by decide)) (fun _ _ z => z) (fun v hx hq hE => ?_)
  obtain ⟨rfl, rfl⟩ := hq
  refine g_if_eq 18 dX4_flowAnew_5 (by decide) (fun _ => ?_) (fun z => absurd z (by decide))
  refine g_aload_n dX4_flowAnew_18 rfl ?_
  refine w_getR w dX4_flowAnew_19 fl_X4_12 rfl rfl (by first | rfl | assumption) rfl ?_
  refine g_iload_n dX4_flowAnew_22 rfl ?_
  refine g_callV [_] dX4_flowAnew_23 mc_X4_103 mi_Jx4a65c_get_915e3 se_Jx4a65c_get_915e3 (c_get0 hlt w (by first | assumption | omega)) (w.k (by first | rfl | assumption)) rfl rfl (Nat.le_of_ble_eq_true rfl) (am_rm hR (by decide)) (fun _ _ z => z) (fun v hx hq hE => ?_)
  obtain ⟨rfl, rfl⟩ := hq
  refine g_castS (q := (RX1, TX1, 14)) dX4_flowAnew_26 kl_X4_66 (w.k (by first | rfl | assumption)) rfl ?_
  refine g_astore_n dX4_flowAnew_29 (by decide) rfl ?_
  refine g_aload_n dX4_flowAnew_30 rfl ?_
  refine w_getI w dX4_flowAnew_31 fl_X4_33 rfl rfl (by first | rfl | assumption) ?_
  refine g_if_eq 47 dX4_flowAnew_34 (by decide) (fun z => absurd z hf) (fun c_34 => ?_)
  refine g_aload_n dX4_flowAnew_37 rfl ?_
  refine w_getR w dX4_flowAnew_38 fl_X4_112 rfl rfl (by first | rfl | assumption) rfl ?_
  refine w_getI w dX4_flowAnew_41 fl_X4_116 rfl rfl (by first | rfl | assumption) ?_
  refine g_if_ne 49 dX4_flowAnew_44 (by decide) (fun z => absurd hs z) (fun c_44 => ?_)
  refine g_iconst (v := 0) dX4_flowAnew_47 (by decide) ?_
  rw [hQ]
  refine g_iret dX4_flowAnew_48 rfl rfl (by decide) (by decide) ?_
  exact ⟨rfl, rfl⟩
set_option maxRecDepth 100000 in
set_option maxHeartbeats 4000000 in
theorem c_X4_count_1 {l : Launch} (hlt : l.stackTraces = false) {N n p : Nat} {ord : List Nat} {L : Nat → Nat → Nat} {Γ : Nat → Nat → Nat → Int32} {o : Int64} {h : am_H} (w : WI N n p ord L Γ o h) {b : Int32} (bb : b < 0 ∨ nI 8 ≤ b) : am_Con l yX4_count (.code yX4_count cX4_count 2 (some .int)) 20 1 6 [.ref (L 5 0), .int b] h (fun v h' => False) (fun E h' => E = "java/lang/IllegalArgumentException" ∧ h' = h) := by
  refine am_body hlt (by decide +kernel) (Nat.le_of_ble_eq_true rfl) (fun k hl hR h0 hno => ?_)
  subst hl
  obtain ⟨Qf, hQ⟩ : ∃ Qf, Qf = am_Q k 1 6 (fun v h' => False) (fun E h' => E = "java/lang/IllegalArgumentException" ∧ h' = h) := ⟨_, rfl⟩
  rw [← hQ]
  have hx0 : wdm n p 5 0 = true := rfl
  have hn0 : wdm n p 3 0 = true := rfl
  have hn8 : n ≤ 8 := w.1.1
  have hp24 : p ≤ 24 := w.1.2.1
  have ho8 : ord.length ≤ 8 := w.1.2.2.2.2
  refine g_iload_n dX4_count_0 rfl ?_
  refine g_tableOut 103 dX4_count_1 (sw_out (m := 7) (by decide) bb (by decide)) (by decide) ?_
  rw [hQ]
  refine g_throw (text := "what is out of range") dX4_count_103 dX4_count_106 dX4_count_107 dX4_count_109 dX4_count_112 tw_50 (by simp [am_strs]) hno (by rw [hR]; decide) (by rw [hR]; exact Nat.le_of_ble_eq_true rfl) (by rw [hR]; decide) (by rw [hR]; decide) (by decide) (by decide) ?_
  exact ⟨rfl, rfl⟩
set_option maxRecDepth 100000 in
set_option maxHeartbeats 4000000 in
theorem c_X4_count_0_0 {l : Launch} (hlt : l.stackTraces = false) {N n p : Nat} {ord : List Nat} {L : Nat → Nat → Nat} {Γ : Nat → Nat → Nat → Int32} {o : Int64} {h : am_H} (w : WI N n p ord L Γ o h)  : am_Con l yX4_count (.code yX4_count cX4_count 2 (some .int)) 20 0 0 [.ref (L 5 0), .int (nI 0)] h (fun v h' => v = some (.int (nI n)) ∧ h' = h) (fun _ _ => False) := by
  refine am_body hlt (by decide +kernel) (Nat.le_of_ble_eq_true rfl) (fun k hl hR h0 hno => ?_)
  subst hl
  obtain ⟨Qf, hQ⟩ : ∃ Qf, Qf = am_Q k 0 0 (fun v h' => v = some (.int (nI n)) ∧ h' = h) (fun _ _ => False) := ⟨_, rfl⟩
  rw [← hQ]
  have hx0 : wdm n p 5 0 = true := rfl
  have hn0 : wdm n p 3 0 = true := rfl
  have hn8 : n ≤ 8 := w.1.1
  have hp24 : p ≤ 24 := w.1.2.1
  have ho8 : ord.length ≤ 8 := w.1.2.2.2.2
  refine g_iload_n dX4_count_0 rfl ?_
  refine g_tableIn 48 dX4_count_1 (by decide) (by decide) rfl (by decide) ?_
  refine g_aload_n dX4_count_48 rfl ?_
  refine w_getR w dX4_count_49 fl_X4_12 rfl rfl (by first | rfl | assumption) rfl ?_
  refine g_callV [] dX4_count_52 mc_X4_57 mi_Jx4a65c_size_8abf5 se_Jx4a65c_size_8abf5 (c_size0 hlt w) (w.k (by first | rfl | assumption)) rfl rfl (Nat.le_of_ble_eq_true rfl) (am_rm hR (by decide)) (fun _ _ z => z) (fun v hx hq hE => ?_)
  obtain ⟨rfl, rfl⟩ := hq
  rw [hQ]
  refine g_iret dX4_count_55 rfl rfl (by decide) (by decide) ?_
  exact ⟨rfl, rfl⟩
set_option maxRecDepth 100000 in
set_option maxHeartbeats 4000000 in
theorem c_X4_count_0_1 {l : Launch} (hlt : l.stackTraces = false) {N n p : Nat} {ord : List Nat} {L : Nat → Nat → Nat} {Γ : Nat → Nat → Nat → Int32} {o : Int64} {h : am_H} (w : WI N n p ord L Γ o h)  : am_Con l yX4_count (.code yX4_count cX4_count 2 (some .int)) 20 0 0 [.ref (L 5 0), .int (nI 1)] h (fun v h' => v = some (.int (nI p)) ∧ h' = h) (fun _ _ => False) := by
  refine am_body hlt (by decide +kernel) (Nat.le_of_ble_eq_true rfl) (fun k hl hR h0 hno => ?_)
  subst hl
  obtain ⟨Qf, hQ⟩ : ∃ Qf, Qf = am_Q k 0 0 (fun v h' => v = some (.int (nI p)) ∧ h' = h) (fun _ _ => False) := ⟨_, rfl⟩
  rw [← hQ]
  have hx0 : wdm n p 5 0 = true := rfl
  have hn0 : wdm n p 3 0 = true := rfl
  have hn8 : n ≤ 8 := w.1.1
  have hp24 : p ≤ 24 := w.1.2.1
  have ho8 : ord.length ≤ 8 := w.1.2.2.2.2
  refine g_iload_n dX4_count_0 rfl ?_
  refine g_tableIn 56 dX4_count_1 (by decide) (by decide) rfl (by decide) ?_
  refine g_aload_n dX4_count_56 rfl ?_
  refine w_getR w dX4_count_57 fl_X4_19 rfl rfl (by first | rfl | assumption) rfl ?_
  refine w_getR w dX4_count_60 fl_X4_86 rfl rfl (by first | rfl | assumption) rfl ?_
  refine g_callV [] dX4_count_63 mc_X4_57 mi_Jx4a65c_size_8abf5 se_Jx4a65c_size_8abf5 (c_size2 hlt w) (w.k (by first | rfl | assumption)) rfl rfl (Nat.le_of_ble_eq_true rfl) (am_rm hR (by decide)) (fun _ _ z => z) (fun v hx hq hE => ?_)
  obtain ⟨rfl, rfl⟩ := hq
  rw [hQ]
  refine g_iret dX4_count_66 rfl rfl (by decide) (by decide) ?_
  exact ⟨rfl, rfl⟩
set_option maxRecDepth 100000 in
set_option maxHeartbeats 4000000 in
theorem c_X4_count_0_2 {l : Launch} (hlt : l.stackTraces = false) {N n p : Nat} {ord : List Nat} {L : Nat → Nat → Nat} {Γ : Nat → Nat → Nat → Int32} {o : Int64} {h : am_H} (w : WI N n p ord L Γ o h)  : am_Con l yX4_count (.code yX4_count cX4_count 2 (some .int)) 20 0 0 [.ref (L 5 0), .int (nI 2)] h (fun v h' => v = some (.int (sp_sum (fun j => if Γ 4 j 3 = 0 then 0 else 1) p)) ∧ h' = h) (fun _ _ => False) := by
  refine am_body hlt (by decide +kernel) (Nat.le_of_ble_eq_true rfl) (fun k hl hR h0 hno => ?_)
  subst hl
  obtain ⟨Qf, hQ⟩ : ∃ Qf, Qf = am_Q k 0 0 (fun v h' => v = some (.int (sp_sum (fun j => if Γ 4 j 3 = 0 then 0 else 1) p)) ∧ h' = h) (fun _ _ => False) := ⟨_, rfl⟩
  rw [← hQ]
  have hx0 : wdm n p 5 0 = true := rfl
  have hn0 : wdm n p 3 0 = true := rfl
  have hn8 : n ≤ 8 := w.1.1
  have hp24 : p ≤ 24 := w.1.2.1
  have ho8 : ord.length ≤ 8 := w.1.2.2.2.2
  refine g_iload_n dX4_count_0 rfl ?_
  refine g_tableIn 67 dX4_count_1 (by decide) (by decide) rfl (by decide) ?_
  refine g_aload_n dX4_count_67 rfl ?_
  refine w_getR w dX4_count_68 fl_X4_19 rfl rfl (by first | rfl | assumption) rfl ?_
  refine g_callV [] dX4_count_71 mc_X4_218 mi_X2_countBurst se_X2_countBurst (c_X2_countBurst hlt w) (w.k (by first | rfl | assumption)) rfl rfl (Nat.le_of_ble_eq_true rfl) (am_rm hR (by decide)) (fun _ _ z => z) (fun v hx hq hE => ?_)
  obtain ⟨rfl, rfl⟩ := hq
  rw [hQ]
  refine g_iret dX4_count_74 rfl rfl (by decide) (by decide) ?_
  exact ⟨rfl, rfl⟩
set_option maxRecDepth 100000 in
set_option maxHeartbeats 4000000 in
theorem c_X4_count_0_3 {l : Launch} (hlt : l.stackTraces = false) {N n p : Nat} {ord : List Nat} {L : Nat → Nat → Nat} {Γ : Nat → Nat → Nat → Int32} {o : Int64} {h : am_H} (w : WI N n p ord L Γ o h)  : am_Con l yX4_count (.code yX4_count cX4_count 2 (some .int)) 20 0 0 [.ref (L 5 0), .int (nI 3)] h (fun v h' => v = some (.int (nI ord.length)) ∧ h' = h) (fun _ _ => False) := by
  refine am_body hlt (by decide +kernel) (Nat.le_of_ble_eq_true rfl) (fun k hl hR h0 hno => ?_)
  subst hl
  obtain ⟨Qf, hQ⟩ : ∃ Qf, Qf = am_Q k 0 0 (fun v h' => v = some (.int (nI ord.length)) ∧ h' = h) (fun _ _ => False) := ⟨_, rfl⟩
  rw [← hQ]
  have hx0 : wdm n p 5 0 = true := rfl
  have hn0 : wdm n p 3 0 = true := rfl
  have hn8 : n ≤ 8 := w.1.1
  have hp24 : p ≤ 24 := w.1.2.1
  have ho8 : ord.length ≤ 8 := w.1.2.2.2.2
  refine g_iload_n dX4_count_0 rfl ?_
  refine g_tableIn 75 dX4_count_1 (by decide) (by decide) rfl (by decide) ?_
  refine g_aload_n dX4_count_75 rfl ?_
  refine w_getR w dX4_count_76 fl_X4_23 rfl rfl (by first | rfl | assumption) rfl ?_
  refine g_callV [] dX4_count_79 mc_X4_57 mi_Jx4a65c_size_8abf5 se_Jx4a65c_size_8abf5 (c_size1 hlt w) (w.k (by first | rfl | assumption)) rfl rfl (Nat.le_of_ble_eq_true rfl) (am_rm hR (by decide)) (fun _ _ z => z) (fun v hx hq hE => ?_)
  obtain ⟨rfl, rfl⟩ := hq
  rw [hQ]
  refine g_iret dX4_count_82 rfl rfl (by decide) (by decide) ?_
  exact ⟨rfl, rfl⟩
set_option maxRecDepth 100000 in
set_option maxHeartbeats 4000000 in
theorem c_X4_count_0_4 {l : Launch} (hlt : l.stackTraces = false) {N n p : Nat} {ord : List Nat} {L : Nat → Nat → Nat} {Γ : Nat → Nat → Nat → Int32} {o : Int64} {h : am_H} (w : WI N n p ord L Γ o h)  : am_Con l yX4_count (.code yX4_count cX4_count 2 (some .int)) 20 0 0 [.ref (L 5 0), .int (nI 4)] h (fun v h' => v = some (.int (sp_sum (fun j => Γ 2 j 8) n)) ∧ h' = h) (fun _ _ => False) := by
  refine am_body hlt (by decide +kernel) (Nat.le_of_ble_eq_true rfl) (fun k hl hR h0 hno => ?_)
  subst hl
  obtain ⟨Qf, hQ⟩ : ∃ Qf, Qf = am_Q k 0 0 (fun v h' => v = some (.int (sp_sum (fun j => Γ 2 j 8) n)) ∧ h' = h) (fun _ _ => False) := ⟨_, rfl⟩
  rw [← hQ]
  have hx0 : wdm n p 5 0 = true := rfl
  have hn0 : wdm n p 3 0 = true := rfl
  have hn8 : n ≤ 8 := w.1.1
  have hp24 : p ≤ 24 := w.1.2.1
  have ho8 : ord.length ≤ 8 := w.1.2.2.2.2
  refine g_iload_n dX4_count_0 rfl ?_
  refine g_tableIn 83 dX4_count_1 (by decide) (by decide) rfl (by decide) ?_
  refine g_aload_n dX4_count_83 rfl ?_
  refine g_callV [] dX4_count_84 mc_X4_221 mi_X4_sumGot se_X4_sumGot (c_X4_sumGot hlt w) (w.k (by first | rfl | assumption)) rfl rfl (Nat.le_of_ble_eq_true rfl) (am_rm hR (by decide)) (fun _ _ z => z) (fun v hx hq hE => ?_)
  obtain ⟨rfl, rfl⟩ := hq
  rw [hQ]
  refine g_iret dX4_count_87 rfl rfl (by decide) (by decide) ?_
  exact ⟨rfl, rfl⟩
set_option maxRecDepth 100000 in
set_option maxHeartbeats 4000000 in
theorem c_X4_count_0_5 {l : Launch} (hlt : l.stackTraces = false) {N n p : Nat} {ord : List Nat} {L : Nat → Nat → Nat} {Γ : Nat → Nat → Nat → Int32} {o : Int64} {h : am_H} (w : WI N n p ord L Γ o h)  : am_Con l yX4_count (.code yX4_count cX4_count 2 (some .int)) 20 0 0 [.ref (L 5 0), .int (nI 5)] h (fun v h' => v = some (.int (sp_sum (fun j => Γ 2 j 3) n)) ∧ h' = h) (fun _ _ => False) := by
  refine am_body hlt (by decide +kernel) (Nat.le_of_ble_eq_true rfl) (fun k hl hR h0 hno => ?_)
  subst hl
  obtain ⟨Qf, hQ⟩ : ∃ Qf, Qf = am_Q k 0 0 (fun v h' => v = some (.int (sp_sum (fun j => Γ 2 j 3) n)) ∧ h' = h) (fun _ _ => False) := ⟨_, rfl⟩
  rw [← hQ]
  have hx0 : wdm n p 5 0 = true := rfl
  have hn0 : wdm n p 3 0 = true := rfl
  have hn8 : n ≤ 8 := w.1.1
  have hp24 : p ≤ 24 := w.1.2.1
  have ho8 : ord.length ≤ 8 := w.1.2.2.2.2
  refine g_iload_n dX4_count_0 rfl ?_
  refine g_tableIn 88 dX4_count_1 (by decide) (by decide) rfl (by decide) ?_
  refine g_aload_n dX4_count_88 rfl ?_
  refine g_callV [] dX4_count_89 mc_X4_224 mi_X4_sumWater se_X4_sumWater (c_X4_sumWater hlt w) (w.k (by first | rfl | assumption)) rfl rfl (Nat.le_of_ble_eq_true rfl) (am_rm hR (by decide)) (fun _ _ z => z) (fun v hx hq hE => ?_)
  obtain ⟨rfl, rfl⟩ := hq
  rw [hQ]
  refine g_iret dX4_count_92 rfl rfl (by decide) (by decide) ?_
  exact ⟨rfl, rfl⟩
set_option maxRecDepth 100000 in
set_option maxHeartbeats 4000000 in
theorem c_X4_count_0_6 {l : Launch} (hlt : l.stackTraces = false) {N n p : Nat} {ord : List Nat} {L : Nat → Nat → Nat} {Γ : Nat → Nat → Nat → Int32} {o : Int64} {h : am_H} (w : WI N n p ord L Γ o h)  : am_Con l yX4_count (.code yX4_count cX4_count 2 (some .int)) 20 0 0 [.ref (L 5 0), .int (nI 6)] h (fun v h' => v = some (.int (sp_sum (fun j => Γ 2 j 9 - Γ 2 j 10) n)) ∧ h' = h) (fun _ _ => False) := by
  refine am_body hlt (by decide +kernel) (Nat.le_of_ble_eq_true rfl) (fun k hl hR h0 hno => ?_)
  subst hl
  obtain ⟨Qf, hQ⟩ : ∃ Qf, Qf = am_Q k 0 0 (fun v h' => v = some (.int (sp_sum (fun j => Γ 2 j 9 - Γ 2 j 10) n)) ∧ h' = h) (fun _ _ => False) := ⟨_, rfl⟩
  rw [← hQ]
  have hx0 : wdm n p 5 0 = true := rfl
  have hn0 : wdm n p 3 0 = true := rfl
  have hn8 : n ≤ 8 := w.1.1
  have hp24 : p ≤ 24 := w.1.2.1
  have ho8 : ord.length ≤ 8 := w.1.2.2.2.2
  refine g_iload_n dX4_count_0 rfl ?_
  refine g_tableIn 93 dX4_count_1 (by decide) (by decide) rfl (by decide) ?_
  refine g_aload_n dX4_count_93 rfl ?_
  refine g_callV [] dX4_count_94 mc_X4_227 mi_X4_sumPaidLessPaidBack se_X4_sumPaidLessPaidBack (c_X4_sumPaid hlt w) (w.k (by first | rfl | assumption)) rfl rfl (Nat.le_of_ble_eq_true rfl) (am_rm hR (by decide)) (fun _ _ z => z) (fun v hx hq hE => ?_)
  obtain ⟨rfl, rfl⟩ := hq
  rw [hQ]
  refine g_iret dX4_count_97 rfl rfl (by decide) (by decide) ?_
  exact ⟨rfl, rfl⟩
set_option maxRecDepth 100000 in
set_option maxHeartbeats 4000000 in
theorem c_X4_count_0_7 {l : Launch} (hlt : l.stackTraces = false) {N n p : Nat} {ord : List Nat} {L : Nat → Nat → Nat} {Γ : Nat → Nat → Nat → Int32} {o : Int64} {h : am_H} (w : WI N n p ord L Γ o h)  : am_Con l yX4_count (.code yX4_count cX4_count 2 (some .int)) 20 0 0 [.ref (L 5 0), .int (nI 7)] h (fun v h' => v = some (.int (Γ 5 0 8)) ∧ h' = h) (fun _ _ => False) := by
  refine am_body hlt (by decide +kernel) (Nat.le_of_ble_eq_true rfl) (fun k hl hR h0 hno => ?_)
  subst hl
  obtain ⟨Qf, hQ⟩ : ∃ Qf, Qf = am_Q k 0 0 (fun v h' => v = some (.int (Γ 5 0 8)) ∧ h' = h) (fun _ _ => False) := ⟨_, rfl⟩
  rw [← hQ]
  have hx0 : wdm n p 5 0 = true := rfl
  have hn0 : wdm n p 3 0 = true := rfl
  have hn8 : n ≤ 8 := w.1.1
  have hp24 : p ≤ 24 := w.1.2.1
  have ho8 : ord.length ≤ 8 := w.1.2.2.2.2
  refine g_iload_n dX4_count_0 rfl ?_
  refine g_tableIn 98 dX4_count_1 (by decide) (by decide) rfl (by decide) ?_
  refine g_aload_n dX4_count_98 rfl ?_
  refine w_getI w dX4_count_99 fl_X4_43 rfl rfl (by first | rfl | assumption) ?_
  rw [hQ]
  refine g_iret dX4_count_102 rfl rfl (by decide) (by decide) ?_
  exact ⟨rfl, rfl⟩
end
