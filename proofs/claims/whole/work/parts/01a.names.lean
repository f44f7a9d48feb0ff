-- ===== PART A: goes FIRST, ahead of the names: the tables' words, and 'selects' of the private methods out of them =====
/-- a private method of a class that the tables say can be made, by its rows of tables_1 -/
def lw_okq (q : MethodName × Nat) : Prop := (q.1.cls ≠ "java/lang/invoke/MethodHandle" ∧ q.1.cls ≠ "java/lang/invoke/VarHandle") ∧ Cond.instantiable q.1.cls q.2 ∈ tables_1 ∧ Cond.privateMethod q.1 ∈ tables_1 ∧ Cond.instanceMethod q.1 ∈ tables_1
theorem lw_p0 : lw_okq (⟨"TurnstileBank", "recorded", "(I)I"⟩, 4) := ⟨⟨by decide +kernel, by decide +kernel⟩, List.mem_of_getElem? (i := 15) (by decide +kernel), List.mem_of_getElem? (i := 414) (by decide +kernel), List.mem_of_getElem? (i := 415) (by decide +kernel)⟩
theorem lw_p1 : lw_okq (⟨"TurnstileBank", "carryOut", "()I"⟩, 4) := ⟨⟨by decide +kernel, by decide +kernel⟩, List.mem_of_getElem? (i := 15) (by decide +kernel), List.mem_of_getElem? (i := 695) (by decide +kernel), List.mem_of_getElem? (i := 696) (by decide +kernel)⟩
theorem lw_p2 : lw_okq (⟨"TurnstileBankModel", "begin", "()V"⟩, 10) := ⟨⟨by decide +kernel, by decide +kernel⟩, List.mem_of_getElem? (i := 777) (by decide +kernel), List.mem_of_getElem? (i := 825) (by decide +kernel), List.mem_of_getElem? (i := 826) (by decide +kernel)⟩
theorem lw_p3 : lw_okq (⟨"TurnstileBankModel", "putGate", "(III)V"⟩, 10) := ⟨⟨by decide +kernel, by decide +kernel⟩, List.mem_of_getElem? (i := 777) (by decide +kernel), List.mem_of_getElem? (i := 829) (by decide +kernel), List.mem_of_getElem? (i := 830) (by decide +kernel)⟩
theorem lw_p4 : lw_okq (⟨"TurnstileBankModel", "done", "(I)I"⟩, 10) := ⟨⟨by decide +kernel, by decide +kernel⟩, List.mem_of_getElem? (i := 777) (by decide +kernel), List.mem_of_getElem? (i := 833) (by decide +kernel), List.mem_of_getElem? (i := 834) (by decide +kernel)⟩
theorem lw_p5 : lw_okq (⟨"TurnstileBankModel", "recorded", "(I)I"⟩, 10) := ⟨⟨by decide +kernel, by decide +kernel⟩, List.mem_of_getElem? (i := 777) (by decide +kernel), List.mem_of_getElem? (i := 837) (by decide +kernel), List.mem_of_getElem? (i := 838) (by decide +kernel)⟩
theorem lw_p6 : lw_okq (⟨"TurnstileBankModel", "noGate", "(I)Z"⟩, 10) := ⟨⟨by decide +kernel, by decide +kernel⟩, List.mem_of_getElem? (i := 777) (by decide +kernel), List.mem_of_getElem? (i := 845) (by decide +kernel), List.mem_of_getElem? (i := 846) (by decide +kernel)⟩
theorem lw_p7 : lw_okq (⟨"TurnstileBankModel", "gateOf", "(II)I"⟩, 10) := ⟨⟨by decide +kernel, by decide +kernel⟩, List.mem_of_getElem? (i := 777) (by decide +kernel), List.mem_of_getElem? (i := 849) (by decide +kernel), List.mem_of_getElem? (i := 850) (by decide +kernel)⟩
theorem lw_p8 : lw_okq (⟨"TurnstileBankModel", "noPool", "(I)Z"⟩, 10) := ⟨⟨by decide +kernel, by decide +kernel⟩, List.mem_of_getElem? (i := 777) (by decide +kernel), List.mem_of_getElem? (i := 861) (by decide +kernel), List.mem_of_getElem? (i := 862) (by decide +kernel)⟩
theorem lw_p9 : lw_okq (⟨"TurnstileBankModel", "noPass", "(I)Z"⟩, 10) := ⟨⟨by decide +kernel, by decide +kernel⟩, List.mem_of_getElem? (i := 777) (by decide +kernel), List.mem_of_getElem? (i := 875) (by decide +kernel), List.mem_of_getElem? (i := 876) (by decide +kernel)⟩
theorem lw_p10 : lw_okq (⟨"TurnstileBankModel", "doEnter", "(IIZ)I"⟩, 10) := ⟨⟨by decide +kernel, by decide +kernel⟩, List.mem_of_getElem? (i := 777) (by decide +kernel), List.mem_of_getElem? (i := 887) (by decide +kernel), List.mem_of_getElem? (i := 888) (by decide +kernel)⟩
theorem lw_p11 : lw_okq (⟨"TurnstileBankModel", "put", "(III)V"⟩, 10) := ⟨⟨by decide +kernel, by decide +kernel⟩, List.mem_of_getElem? (i := 777) (by decide +kernel), List.mem_of_getElem? (i := 891) (by decide +kernel), List.mem_of_getElem? (i := 892) (by decide +kernel)⟩
theorem lw_p12 : lw_okq (⟨"TurnstileBankModel", "queue", "(III)V"⟩, 10) := ⟨⟨by decide +kernel, by decide +kernel⟩, List.mem_of_getElem? (i := 777) (by decide +kernel), List.mem_of_getElem? (i := 895) (by decide +kernel), List.mem_of_getElem? (i := 896) (by decide +kernel)⟩
theorem lw_p13 : lw_okq (⟨"TurnstileBankModel", "doExit", "(II)I"⟩, 10) := ⟨⟨by decide +kernel, by decide +kernel⟩, List.mem_of_getElem? (i := 777) (by decide +kernel), List.mem_of_getElem? (i := 903) (by decide +kernel), List.mem_of_getElem? (i := 904) (by decide +kernel)⟩
theorem lw_p14 : lw_okq (⟨"TurnstileBankModel", "noPerson", "(I)Z"⟩, 10) := ⟨⟨by decide +kernel, by decide +kernel⟩, List.mem_of_getElem? (i := 777) (by decide +kernel), List.mem_of_getElem? (i := 907) (by decide +kernel), List.mem_of_getElem? (i := 908) (by decide +kernel)⟩
theorem lw_p15 : lw_okq (⟨"TurnstileBankModel", "of", "(II)I"⟩, 10) := ⟨⟨by decide +kernel, by decide +kernel⟩, List.mem_of_getElem? (i := 777) (by decide +kernel), List.mem_of_getElem? (i := 911) (by decide +kernel), List.mem_of_getElem? (i := 912) (by decide +kernel)⟩
def lw_privs_1 : List (MethodName × Nat) := [(⟨"TurnstileBank", "recorded", "(I)I"⟩, 4), (⟨"TurnstileBank", "carryOut", "()I"⟩, 4), (⟨"TurnstileBankModel", "begin", "()V"⟩, 10), (⟨"TurnstileBankModel", "putGate", "(III)V"⟩, 10), (⟨"TurnstileBankModel", "done", "(I)I"⟩, 10), (⟨"TurnstileBankModel", "recorded", "(I)I"⟩, 10), (⟨"TurnstileBankModel", "noGate", "(I)Z"⟩, 10), (⟨"TurnstileBankModel", "gateOf", "(II)I"⟩, 10), (⟨"TurnstileBankModel", "noPool", "(I)Z"⟩, 10), (⟨"TurnstileBankModel", "noPass", "(I)Z"⟩, 10), (⟨"TurnstileBankModel", "doEnter", "(IIZ)I"⟩, 10), (⟨"TurnstileBankModel", "put", "(III)V"⟩, 10), (⟨"TurnstileBankModel", "queue", "(III)V"⟩, 10), (⟨"TurnstileBankModel", "doExit", "(II)I"⟩, 10), (⟨"TurnstileBankModel", "noPerson", "(I)Z"⟩, 10), (⟨"TurnstileBankModel", "of", "(II)I"⟩, 10)]
theorem lw_r1 : ∀ q ∈ lw_privs_1, lw_okq q := List.forall_mem_cons.mpr ⟨lw_p0, List.forall_mem_cons.mpr ⟨lw_p1, List.forall_mem_cons.mpr ⟨lw_p2, List.forall_mem_cons.mpr ⟨lw_p3, List.forall_mem_cons.mpr ⟨lw_p4, List.forall_mem_cons.mpr ⟨lw_p5, List.forall_mem_cons.mpr ⟨lw_p6, List.forall_mem_cons.mpr ⟨lw_p7, List.forall_mem_cons.mpr ⟨lw_p8, List.forall_mem_cons.mpr ⟨lw_p9, List.forall_mem_cons.mpr ⟨lw_p10, List.forall_mem_cons.mpr ⟨lw_p11, List.forall_mem_cons.mpr ⟨lw_p12, List.forall_mem_cons.mpr ⟨lw_p13, List.forall_mem_cons.mpr ⟨lw_p14, List.forall_mem_cons.mpr ⟨lw_p15, fun _ h => absurd h List.not_mem_nil⟩⟩⟩⟩⟩⟩⟩⟩⟩⟩⟩⟩⟩⟩⟩⟩
theorem lw_p16 : lw_okq (⟨"TurnstileBankModel", "queueLength", "(II)I"⟩, 10) := ⟨⟨by decide +kernel, by decide +kernel⟩, List.mem_of_getElem? (i := 777) (by decide +kernel), List.mem_of_getElem? (i := 915) (by decide +kernel), List.mem_of_getElem? (i := 916) (by decide +kernel)⟩
theorem lw_p17 : lw_okq (⟨"TurnstileBankModel", "isQueued", "(III)Z"⟩, 10) := ⟨⟨by decide +kernel, by decide +kernel⟩, List.mem_of_getElem? (i := 777) (by decide +kernel), List.mem_of_getElem? (i := 919) (by decide +kernel), List.mem_of_getElem? (i := 920) (by decide +kernel)⟩
theorem lw_p18 : lw_okq (⟨"TurnstileBankModel", "queuedAt", "(III)I"⟩, 10) := ⟨⟨by decide +kernel, by decide +kernel⟩, List.mem_of_getElem? (i := 777) (by decide +kernel), List.mem_of_getElem? (i := 927) (by decide +kernel), List.mem_of_getElem? (i := 928) (by decide +kernel)⟩
theorem lw_p19 : lw_okq (⟨"TurnstileBankModel", "doPass", "(I)I"⟩, 10) := ⟨⟨by decide +kernel, by decide +kernel⟩, List.mem_of_getElem? (i := 777) (by decide +kernel), List.mem_of_getElem? (i := 935) (by decide +kernel), List.mem_of_getElem? (i := 936) (by decide +kernel)⟩
theorem lw_p20 : lw_okq (⟨"TurnstileBankModel", "passed", "()I"⟩, 10) := ⟨⟨by decide +kernel, by decide +kernel⟩, List.mem_of_getElem? (i := 777) (by decide +kernel), List.mem_of_getElem? (i := 939) (by decide +kernel), List.mem_of_getElem? (i := 940) (by decide +kernel)⟩
theorem lw_p21 : lw_okq (⟨"TurnstileBankModel", "tick", "()V"⟩, 10) := ⟨⟨by decide +kernel, by decide +kernel⟩, List.mem_of_getElem? (i := 777) (by decide +kernel), List.mem_of_getElem? (i := 943) (by decide +kernel), List.mem_of_getElem? (i := 944) (by decide +kernel)⟩
theorem lw_p22 : lw_okq (⟨"TurnstileBankModel", "step", "(I)V"⟩, 10) := ⟨⟨by decide +kernel, by decide +kernel⟩, List.mem_of_getElem? (i := 777) (by decide +kernel), List.mem_of_getElem? (i := 947) (by decide +kernel), List.mem_of_getElem? (i := 948) (by decide +kernel)⟩
theorem lw_p23 : lw_okq (⟨"TurnstileBankModel", "takeNext", "(I)V"⟩, 10) := ⟨⟨by decide +kernel, by decide +kernel⟩, List.mem_of_getElem? (i := 777) (by decide +kernel), List.mem_of_getElem? (i := 951) (by decide +kernel), List.mem_of_getElem? (i := 952) (by decide +kernel)⟩
theorem lw_p24 : lw_okq (⟨"TurnstileBankModel", "nextFor", "(I)I"⟩, 10) := ⟨⟨by decide +kernel, by decide +kernel⟩, List.mem_of_getElem? (i := 777) (by decide +kernel), List.mem_of_getElem? (i := 955) (by decide +kernel), List.mem_of_getElem? (i := 956) (by decide +kernel)⟩
theorem lw_p25 : lw_okq (⟨"TurnstileBankModel", "waited", "(I)I"⟩, 10) := ⟨⟨by decide +kernel, by decide +kernel⟩, List.mem_of_getElem? (i := 777) (by decide +kernel), List.mem_of_getElem? (i := 959) (by decide +kernel), List.mem_of_getElem? (i := 960) (by decide +kernel)⟩
theorem lw_p26 : lw_okq (⟨"TurnstileBankModel", "refusal", "(I)I"⟩, 10) := ⟨⟨by decide +kernel, by decide +kernel⟩, List.mem_of_getElem? (i := 777) (by decide +kernel), List.mem_of_getElem? (i := 963) (by decide +kernel), List.mem_of_getElem? (i := 964) (by decide +kernel)⟩
theorem lw_p27 : lw_okq (⟨"TurnstileBankModel", "userOf", "(I)I"⟩, 10) := ⟨⟨by decide +kernel, by decide +kernel⟩, List.mem_of_getElem? (i := 777) (by decide +kernel), List.mem_of_getElem? (i := 967) (by decide +kernel), List.mem_of_getElem? (i := 968) (by decide +kernel)⟩
theorem lw_p28 : lw_okq (⟨"TurnstileBankModel", "insideBy", "(I)I"⟩, 10) := ⟨⟨by decide +kernel, by decide +kernel⟩, List.mem_of_getElem? (i := 777) (by decide +kernel), List.mem_of_getElem? (i := 971) (by decide +kernel), List.mem_of_getElem? (i := 972) (by decide +kernel)⟩
theorem lw_p29 : lw_okq (⟨"TurnstileBankModel", "isOfPool", "(II)Z"⟩, 10) := ⟨⟨by decide +kernel, by decide +kernel⟩, List.mem_of_getElem? (i := 777) (by decide +kernel), List.mem_of_getElem? (i := 975) (by decide +kernel), List.mem_of_getElem? (i := 976) (by decide +kernel)⟩
theorem lw_p30 : lw_okq (⟨"TurnstileBankModel", "tell", "(III)V"⟩, 10) := ⟨⟨by decide +kernel, by decide +kernel⟩, List.mem_of_getElem? (i := 777) (by decide +kernel), List.mem_of_getElem? (i := 979) (by decide +kernel), List.mem_of_getElem? (i := 980) (by decide +kernel)⟩
theorem lw_p31 : lw_okq (⟨"TurnstileBankModel", "turn", "(III)V"⟩, 10) := ⟨⟨by decide +kernel, by decide +kernel⟩, List.mem_of_getElem? (i := 777) (by decide +kernel), List.mem_of_getElem? (i := 983) (by decide +kernel), List.mem_of_getElem? (i := 984) (by decide +kernel)⟩
def lw_privs_2 : List (MethodName × Nat) := [(⟨"TurnstileBankModel", "queueLength", "(II)I"⟩, 10), (⟨"TurnstileBankModel", "isQueued", "(III)Z"⟩, 10), (⟨"TurnstileBankModel", "queuedAt", "(III)I"⟩, 10), (⟨"TurnstileBankModel", "doPass", "(I)I"⟩, 10), (⟨"TurnstileBankModel", "passed", "()I"⟩, 10), (⟨"TurnstileBankModel", "tick", "()V"⟩, 10), (⟨"TurnstileBankModel", "step", "(I)V"⟩, 10), (⟨"TurnstileBankModel", "takeNext", "(I)V"⟩, 10), (⟨"TurnstileBankModel", "nextFor", "(I)I"⟩, 10), (⟨"TurnstileBankModel", "waited", "(I)I"⟩, 10), (⟨"TurnstileBankModel", "refusal", "(I)I"⟩, 10), (⟨"TurnstileBankModel", "userOf", "(I)I"⟩, 10), (⟨"TurnstileBankModel", "insideBy", "(I)I"⟩, 10), (⟨"TurnstileBankModel", "isOfPool", "(II)Z"⟩, 10), (⟨"TurnstileBankModel", "tell", "(III)V"⟩, 10), (⟨"TurnstileBankModel", "turn", "(III)V"⟩, 10)]
theorem lw_r2 : ∀ q ∈ lw_privs_2, lw_okq q := List.forall_mem_cons.mpr ⟨lw_p16, List.forall_mem_cons.mpr ⟨lw_p17, List.forall_mem_cons.mpr ⟨lw_p18, List.forall_mem_cons.mpr ⟨lw_p19, List.forall_mem_cons.mpr ⟨lw_p20, List.forall_mem_cons.mpr ⟨lw_p21, List.forall_mem_cons.mpr ⟨lw_p22, List.forall_mem_cons.mpr ⟨lw_p23, List.forall_mem_cons.mpr ⟨lw_p24, List.forall_mem_cons.mpr ⟨lw_p25, List.forall_mem_cons.mpr ⟨lw_p26, List.forall_mem_cons.mpr ⟨lw_p27, List.forall_mem_cons.mpr ⟨lw_p28, List.forall_mem_cons.mpr ⟨lw_p29, List.forall_mem_cons.mpr ⟨lw_p30, List.forall_mem_cons.mpr ⟨lw_p31, fun _ h => absurd h List.not_mem_nil⟩⟩⟩⟩⟩⟩⟩⟩⟩⟩⟩⟩⟩⟩⟩⟩
theorem lw_p32 : lw_okq (⟨"TurnstileBankModel", "pinched", "(I)V"⟩, 10) := ⟨⟨by decide +kernel, by decide +kernel⟩, List.mem_of_getElem? (i := 777) (by decide +kernel), List.mem_of_getElem? (i := 987) (by decide +kernel), List.mem_of_getElem? (i := 988) (by decide +kernel)⟩
theorem lw_p33 : lw_okq (⟨"TurnstileBankModel", "goOut", "(I)V"⟩, 10) := ⟨⟨by decide +kernel, by decide +kernel⟩, List.mem_of_getElem? (i := 777) (by decide +kernel), List.mem_of_getElem? (i := 991) (by decide +kernel), List.mem_of_getElem? (i := 992) (by decide +kernel)⟩
theorem lw_p34 : lw_okq (⟨"TurnstileBankModel", "letThrough", "(I)V"⟩, 10) := ⟨⟨by decide +kernel, by decide +kernel⟩, List.mem_of_getElem? (i := 777) (by decide +kernel), List.mem_of_getElem? (i := 995) (by decide +kernel), List.mem_of_getElem? (i := 996) (by decide +kernel)⟩
theorem lw_p35 : lw_okq (⟨"TurnstileBankModel", "opened", "(I)V"⟩, 10) := ⟨⟨by decide +kernel, by decide +kernel⟩, List.mem_of_getElem? (i := 777) (by decide +kernel), List.mem_of_getElem? (i := 999) (by decide +kernel), List.mem_of_getElem? (i := 1000) (by decide +kernel)⟩
theorem lw_p36 : lw_okq (⟨"TurnstileBankModel", "doPinch", "(I)I"⟩, 10) := ⟨⟨by decide +kernel, by decide +kernel⟩, List.mem_of_getElem? (i := 777) (by decide +kernel), List.mem_of_getElem? (i := 1007) (by decide +kernel), List.mem_of_getElem? (i := 1008) (by decide +kernel)⟩
theorem lw_p37 : lw_okq (⟨"TurnstileBankModel", "readOrder", "()V"⟩, 10) := ⟨⟨by decide +kernel, by decide +kernel⟩, List.mem_of_getElem? (i := 777) (by decide +kernel), List.mem_of_getElem? (i := 1031) (by decide +kernel), List.mem_of_getElem? (i := 1032) (by decide +kernel)⟩
theorem lw_p38 : lw_okq (⟨"TurnstileBankModel", "skips", "(C)Z"⟩, 10) := ⟨⟨by decide +kernel, by decide +kernel⟩, List.mem_of_getElem? (i := 777) (by decide +kernel), List.mem_of_getElem? (i := 1035) (by decide +kernel), List.mem_of_getElem? (i := 1036) (by decide +kernel)⟩
theorem lw_p39 : lw_okq (⟨"TurnstileBankModel", "isAt", "(CC)Z"⟩, 10) := ⟨⟨by decide +kernel, by decide +kernel⟩, List.mem_of_getElem? (i := 777) (by decide +kernel), List.mem_of_getElem? (i := 1039) (by decide +kernel), List.mem_of_getElem? (i := 1040) (by decide +kernel)⟩
theorem lw_p40 : lw_okq (⟨"TurnstileBankModel", "digit", "(II)I"⟩, 10) := ⟨⟨by decide +kernel, by decide +kernel⟩, List.mem_of_getElem? (i := 777) (by decide +kernel), List.mem_of_getElem? (i := 1043) (by decide +kernel), List.mem_of_getElem? (i := 1044) (by decide +kernel)⟩
theorem lw_p41 : lw_okq (⟨"TurnstileBankModel", "number", "(I)I"⟩, 10) := ⟨⟨by decide +kernel, by decide +kernel⟩, List.mem_of_getElem? (i := 777) (by decide +kernel), List.mem_of_getElem? (i := 1047) (by decide +kernel), List.mem_of_getElem? (i := 1048) (by decide +kernel)⟩
theorem lw_p42 : lw_okq (⟨"TurnstileBankModel", "carryOut", "(I)I"⟩, 10) := ⟨⟨by decide +kernel, by decide +kernel⟩, List.mem_of_getElem? (i := 777) (by decide +kernel), List.mem_of_getElem? (i := 1051) (by decide +kernel), List.mem_of_getElem? (i := 1052) (by decide +kernel)⟩
theorem lw_p43 : lw_okq (⟨"TurnstileBankModel", "goBack", "()V"⟩, 10) := ⟨⟨by decide +kernel, by decide +kernel⟩, List.mem_of_getElem? (i := 777) (by decide +kernel), List.mem_of_getElem? (i := 1086) (by decide +kernel), List.mem_of_getElem? (i := 1087) (by decide +kernel)⟩
theorem lw_p44 : lw_okq (⟨"TurnstileBankModel", "peopleAt", "(II)I"⟩, 10) := ⟨⟨by decide +kernel, by decide +kernel⟩, List.mem_of_getElem? (i := 777) (by decide +kernel), List.mem_of_getElem? (i := 1094) (by decide +kernel), List.mem_of_getElem? (i := 1095) (by decide +kernel)⟩
theorem lw_p45 : lw_okq (⟨"TurnstileBankModel", "longest", "()I"⟩, 10) := ⟨⟨by decide +kernel, by decide +kernel⟩, List.mem_of_getElem? (i := 777) (by decide +kernel), List.mem_of_getElem? (i := 1098) (by decide +kernel), List.mem_of_getElem? (i := 1099) (by decide +kernel)⟩
def lw_privs_3 : List (MethodName × Nat) := [(⟨"TurnstileBankModel", "pinched", "(I)V"⟩, 10), (⟨"TurnstileBankModel", "goOut", "(I)V"⟩, 10), (⟨"TurnstileBankModel", "letThrough", "(I)V"⟩, 10), (⟨"TurnstileBankModel", "opened", "(I)V"⟩, 10), (⟨"TurnstileBankModel", "doPinch", "(I)I"⟩, 10), (⟨"TurnstileBankModel", "readOrder", "()V"⟩, 10), (⟨"TurnstileBankModel", "skips", "(C)Z"⟩, 10), (⟨"TurnstileBankModel", "isAt", "(CC)Z"⟩, 10), (⟨"TurnstileBankModel", "digit", "(II)I"⟩, 10), (⟨"TurnstileBankModel", "number", "(I)I"⟩, 10), (⟨"TurnstileBankModel", "carryOut", "(I)I"⟩, 10), (⟨"TurnstileBankModel", "goBack", "()V"⟩, 10), (⟨"TurnstileBankModel", "peopleAt", "(II)I"⟩, 10), (⟨"TurnstileBankModel", "longest", "()I"⟩, 10)]
theorem lw_r3 : ∀ q ∈ lw_privs_3, lw_okq q := List.forall_mem_cons.mpr ⟨lw_p32, List.forall_mem_cons.mpr ⟨lw_p33, List.forall_mem_cons.mpr ⟨lw_p34, List.forall_mem_cons.mpr ⟨lw_p35, List.forall_mem_cons.mpr ⟨lw_p36, List.forall_mem_cons.mpr ⟨lw_p37, List.forall_mem_cons.mpr ⟨lw_p38, List.forall_mem_cons.mpr ⟨lw_p39, List.forall_mem_cons.mpr ⟨lw_p40, List.forall_mem_cons.mpr ⟨lw_p41, List.forall_mem_cons.mpr ⟨lw_p42, List.forall_mem_cons.mpr ⟨lw_p43, List.forall_mem_cons.mpr ⟨lw_p44, List.forall_mem_cons.mpr ⟨lw_p45, fun _ h => absurd h List.not_mem_nil⟩⟩⟩⟩⟩⟩⟩⟩⟩⟩⟩⟩⟩⟩
def lw_privs : List (MethodName × Nat) := lw_privs_1 ++ (lw_privs_2 ++ (lw_privs_3))
def lw_tbl : List Cond := k2_sels lw_privs ++ tables_1
theorem lw_privs_ok : ∀ q ∈ lw_privs, lw_okq q := by
  show ∀ q ∈ lw_privs_1 ++ (lw_privs_2 ++ (lw_privs_3)), lw_okq q
  exact List.forall_mem_append.mpr ⟨lw_r1, List.forall_mem_append.mpr ⟨lw_r2, lw_r3⟩⟩
-- ===== end of PART A; then your names; then what follows =====
/-! ===== BEGIN words of one list among another's, by their places ===== -/
theorem goodIn_r {big : List Cond} (ws : List Cond) (ps : List Nat) (hp : ws = ps.filterMap (fun i => big[i]?)) (h : ws.all goodWord = true) : GoodIn big ws := by
  intro w hw
  have h1 := List.all_eq_true.mp h w hw
  rw [hp] at hw
  obtain ⟨i, -, hi⟩ := List.mem_filterMap.mp hw
  have hm : w ∈ big := by first | exact List.mem_of_getElem? hi | exact List.getElem?_mem hi
  exact ⟨hm, good_of_word h1⟩
theorem goodIn_app {big a b : List Cond} (ha : GoodIn big a) (hb : GoodIn big b) : GoodIn big (a ++ b) := fun w h => (List.mem_append.mp h).elim (ha w) (hb w)
theorem goodIn_ca {big a b : List Cond} {c : Cond} (ha : GoodIn big (c :: a)) (hb : GoodIn big b) : GoodIn big (c :: (a ++ b)) := fun w h => (List.mem_cons.mp h).elim (fun e => ha w (List.mem_cons.mpr (Or.inl e))) (fun h => (List.mem_append.mp h).elim (fun h => ha w (List.mem_cons.mpr (Or.inr h))) (hb w))
theorem goodIn_sub {big ws : List Cond} (hm : ∀ w ∈ ws, w ∈ big) (h : ws.all goodWord = true) : GoodIn big ws := fun w hw => ⟨hm w hw, good_of_word (List.all_eq_true.mp h w hw)⟩
/-! ===== END ===== -/

/-! ===== BEGIN printed: names, fields, word lists, decode rows ===== -/
def RX0 : String := "TurnstileBank$Events"
def TX0 : u_T := fun k => match k with
  | 0 => ("TurnstileBank$Events", "ticks", "[I", true)
  | 1 => ("TurnstileBank$Events", "gates", "[I", true)
  | 2 => ("TurnstileBank$Events", "people", "[I", true)
  | 3 => ("TurnstileBank$Events", "kinds", "[I", true)
  | 4 => ("TurnstileBank$Events", "length", "I", false)
  | _ => ("TurnstileBank$Events", "next", "I", false)
def tyX0 : Nat → FieldType := fun k => match k with
  | 0 => .array .int
  | 1 => .array .int
  | 2 => .array .int
  | 3 => .array .int
  | 4 => .int
  | _ => .int
abbrev wsX00 : List Cond := u_ws RX0 TX0 6
theorem nmX0 : ∀ a, a < 6 → ∀ b, b < 6 → a ≠ b → (TX0 a).2.1 ≠ (TX0 b).2.1 := by decide +kernel
theorem tyX0_ok : ∀ k, k < 6 → parseFieldDescriptor (TX0 k).2.2.1 = some (tyX0 k) := by decide +kernel
abbrev cX0_init : ByteArray := prog_2_method_1_code
def yX0_init : MethodName := ⟨RX0, "<init>", "()V"⟩
abbrev cX0_copyFrom : ByteArray := prog_2_method_2_code
def yX0_copyFrom : MethodName := ⟨RX0, "copyFrom", "(LTurnstileBank$Events;)V"⟩
abbrev cX0_add : ByteArray := prog_2_method_3_code
def yX0_add : MethodName := ⟨RX0, "add", "(IIII)V"⟩
abbrev cX0_property : ByteArray := prog_2_method_4_code
def yX0_property : MethodName := ⟨RX0, "property", "(II)I"⟩
def RX1 : String := "TurnstileBank$Gate"
def TX1 : u_T := fun k => match k with
  | 0 => ("TurnstileBank$Gate", "outer", "LTurnstileBank$Queue;", true)
  | 1 => ("TurnstileBank$Gate", "inner", "LTurnstileBank$Queue;", true)
  | 2 => ("TurnstileBank$Gate", "direction", "I", false)
  | 3 => ("TurnstileBank$Gate", "opening", "I", false)
  | 4 => ("TurnstileBank$Gate", "hold", "I", false)
  | 5 => ("TurnstileBank$Gate", "closing", "I", false)
  | 6 => ("TurnstileBank$Gate", "state", "I", false)
  | 7 => ("TurnstileBank$Gate", "left", "I", false)
  | 8 => ("TurnstileBank$Gate", "person", "I", false)
  | 9 => ("TurnstileBank$Gate", "pinchTold", "Z", false)
  | 10 => ("TurnstileBank$Gate", "pinchesOfPerson", "I", false)
  | 11 => ("TurnstileBank$Gate", "passedIn", "I", false)
  | 12 => ("TurnstileBank$Gate", "passedOut", "I", false)
  | 13 => ("TurnstileBank$Gate", "refused", "I", false)
  | _ => ("TurnstileBank$Gate", "pinches", "I", false)
def tyX1 : Nat → FieldType := fun k => match k with
  | 0 => .object "TurnstileBank$Queue"
  | 1 => .object "TurnstileBank$Queue"
  | 2 => .int
  | 3 => .int
  | 4 => .int
  | 5 => .int
  | 6 => .int
  | 7 => .int
  | 8 => .int
  | 9 => .boolean
  | 10 => .int
  | 11 => .int
  | 12 => .int
  | 13 => .int
  | _ => .int
abbrev wsX10 : List Cond := u_ws RX1 TX1 15
theorem nmX1 : ∀ a, a < 15 → ∀ b, b < 15 → a ≠ b → (TX1 a).2.1 ≠ (TX1 b).2.1 := by decide +kernel
theorem tyX1_ok : ∀ k, k < 15 → parseFieldDescriptor (TX1 k).2.2.1 = some (tyX1 k) := by decide +kernel
abbrev cX1_init : ByteArray := prog_3_method_1_code
def yX1_init : MethodName := ⟨RX1, "<init>", "()V"⟩
abbrev cX1_setUp : ByteArray := prog_3_method_2_code
def yX1_setUp : MethodName := ⟨RX1, "setUp", "(IIII)V"⟩
abbrev cX1_copyFrom : ByteArray := prog_3_method_3_code
def yX1_copyFrom : MethodName := ⟨RX1, "copyFrom", "(LTurnstileBank$Gate;)V"⟩
abbrev cX1_turnTo : ByteArray := prog_3_method_4_code
def yX1_turnTo : MethodName := ⟨RX1, "turnTo", "(II)V"⟩
abbrev cX1_holdsPerson : ByteArray := prog_3_method_5_code
def yX1_holdsPerson : MethodName := ⟨RX1, "holdsPerson", "()Z"⟩
abbrev cX1_queuesTogether : ByteArray := prog_3_method_6_code
def yX1_queuesTogether : MethodName := ⟨RX1, "queuesTogether", "()I"⟩
def RX2 : String := "TurnstileBank$History"
def TX2 : u_T := fun k => match k with
  | 0 => ("TurnstileBank$History", "states", "[LTurnstileBank$State;", true)
  | 1 => ("TurnstileBank$History", "oldest", "I", false)
  | _ => ("TurnstileBank$History", "length", "I", false)
def tyX2 : Nat → FieldType := fun k => match k with
  | 0 => .array (.object "TurnstileBank$State")
  | 1 => .int
  | _ => .int
abbrev wsX20 : List Cond := u_ws RX2 TX2 3
theorem nmX2 : ∀ a, a < 3 → ∀ b, b < 3 → a ≠ b → (TX2 a).2.1 ≠ (TX2 b).2.1 := by decide +kernel
theorem tyX2_ok : ∀ k, k < 3 → parseFieldDescriptor (TX2 k).2.2.1 = some (tyX2 k) := by decide +kernel
abbrev cX2_init : ByteArray := prog_4_method_1_code
def yX2_init : MethodName := ⟨RX2, "<init>", "()V"⟩
abbrev cX2_prepare : ByteArray := prog_4_method_2_code
def yX2_prepare : MethodName := ⟨RX2, "prepare", "(LTurnstileBank$State;)V"⟩
abbrev cX2_keep : ByteArray := prog_4_method_3_code
def yX2_keep : MethodName := ⟨RX2, "keep", "()V"⟩
abbrev cX2_takeLatest : ByteArray := prog_4_method_4_code
def yX2_takeLatest : MethodName := ⟨RX2, "takeLatest", "()LTurnstileBank$State;"⟩
abbrev cX2_rowOf : ByteArray := prog_4_method_5_code
def yX2_rowOf : MethodName := ⟨RX2, "rowOf", "(I)I"⟩
def RX3 : String := "TurnstileBank$Orders"
def TX3 : u_T := fun k => match k with
  | 0 => ("TurnstileBank$Orders", "letters", "[C", true)
  | 1 => ("TurnstileBank$Orders", "length", "I", false)
  | 2 => ("TurnstileBank$Orders", "place", "I", false)
  | 3 => ("TurnstileBank$Orders", "kind", "I", false)
  | 4 => ("TurnstileBank$Orders", "gate", "I", false)
  | 5 => ("TurnstileBank$Orders", "number", "I", false)
  | _ => ("TurnstileBank$Orders", "slow", "Z", false)
def tyX3 : Nat → FieldType := fun k => match k with
  | 0 => .array .char
  | 1 => .int
  | 2 => .int
  | 3 => .int
  | 4 => .int
  | 5 => .int
  | _ => .boolean
abbrev wsX30 : List Cond := u_ws RX3 TX3 7
theorem nmX3 : ∀ a, a < 7 → ∀ b, b < 7 → a ≠ b → (TX3 a).2.1 ≠ (TX3 b).2.1 := by decide +kernel
theorem tyX3_ok : ∀ k, k < 7 → parseFieldDescriptor (TX3 k).2.2.1 = some (tyX3 k) := by decide +kernel
abbrev cX3_init : ByteArray := prog_5_method_1_code
def yX3_init : MethodName := ⟨RX3, "<init>", "()V"⟩
abbrev cX3_append : ByteArray := prog_5_method_2_code
def yX3_append : MethodName := ⟨RX3, "append", "(C)I"⟩
abbrev cX3_erase : ByteArray := prog_5_method_3_code
def yX3_erase : MethodName := ⟨RX3, "erase", "()I"⟩
abbrev cX3_restart : ByteArray := prog_5_method_4_code
def yX3_restart : MethodName := ⟨RX3, "restart", "()V"⟩
abbrev cX3_findFault : ByteArray := prog_5_method_5_code
def yX3_findFault : MethodName := ⟨RX3, "findFault", "(I)I"⟩
abbrev cX3_readOrder : ByteArray := prog_5_method_6_code
def yX3_readOrder : MethodName := ⟨RX3, "readOrder", "(I)Z"⟩
abbrev cX3_readGate : ByteArray := prog_5_method_7_code
def yX3_readGate : MethodName := ⟨RX3, "readGate", "(I)Z"⟩
abbrev cX3_readPassAndPace : ByteArray := prog_5_method_8_code
def yX3_readPassAndPace : MethodName := ⟨RX3, "readPassAndPace", "()Z"⟩
abbrev cX3_readNumber : ByteArray := prog_5_method_9_code
def yX3_readNumber : MethodName := ⟨RX3, "readNumber", "(I)Z"⟩
abbrev cX3_skip : ByteArray := prog_5_method_10_code
def yX3_skip : MethodName := ⟨RX3, "skip", "(C)Z"⟩
abbrev cX3_letterHere : ByteArray := prog_5_method_11_code
def yX3_letterHere : MethodName := ⟨RX3, "letterHere", "()I"⟩
def RX4 : String := "TurnstileBank$Pass"
def TX4 : u_T := fun k => match k with
  | 0 => ("TurnstileBank$Pass", "pool", "I", false)
  | 1 => ("TurnstileBank$Pass", "blocked", "Z", false)
  | _ => ("TurnstileBank$Pass", "user", "I", false)
def tyX4 : Nat → FieldType := fun k => match k with
  | 0 => .int
  | 1 => .boolean
  | _ => .int
abbrev wsX40 : List Cond := u_ws RX4 TX4 3
theorem nmX4 : ∀ a, a < 3 → ∀ b, b < 3 → a ≠ b → (TX4 a).2.1 ≠ (TX4 b).2.1 := by decide +kernel
theorem tyX4_ok : ∀ k, k < 3 → parseFieldDescriptor (TX4 k).2.2.1 = some (tyX4 k) := by decide +kernel
abbrev cX4_init : ByteArray := prog_6_method_1_code
def yX4_init : MethodName := ⟨RX4, "<init>", "()V"⟩
abbrev cX4_setUp : ByteArray := prog_6_method_2_code
def yX4_setUp : MethodName := ⟨RX4, "setUp", "(I)V"⟩
abbrev cX4_copyFrom : ByteArray := prog_6_method_3_code
def yX4_copyFrom : MethodName := ⟨RX4, "copyFrom", "(LTurnstileBank$Pass;)V"⟩
def RX5 : String := "TurnstileBank$Person"
def TX5 : u_T := fun k => match k with
  | 0 => ("TurnstileBank$Person", "pass", "I", false)
  | 1 => ("TurnstileBank$Person", "slow", "Z", false)
  | 2 => ("TurnstileBank$Person", "where", "I", false)
  | 3 => ("TurnstileBank$Person", "gate", "I", false)
  | 4 => ("TurnstileBank$Person", "refusal", "I", false)
  | 5 => ("TurnstileBank$Person", "waitingSince", "I", false)
  | _ => ("TurnstileBank$Person", "wantsOut", "Z", false)
def tyX5 : Nat → FieldType := fun k => match k with
  | 0 => .int
  | 1 => .boolean
  | 2 => .int
  | 3 => .int
  | 4 => .int
  | 5 => .int
  | _ => .boolean
abbrev wsX50 : List Cond := u_ws RX5 TX5 7
theorem nmX5 : ∀ a, a < 7 → ∀ b, b < 7 → a ≠ b → (TX5 a).2.1 ≠ (TX5 b).2.1 := by decide +kernel
theorem tyX5_ok : ∀ k, k < 7 → parseFieldDescriptor (TX5 k).2.2.1 = some (tyX5 k) := by decide +kernel
abbrev cX5_init : ByteArray := prog_7_method_1_code
def yX5_init : MethodName := ⟨RX5, "<init>", "()V"⟩
abbrev cX5_setUp : ByteArray := prog_7_method_2_code
def yX5_setUp : MethodName := ⟨RX5, "setUp", "(IZ)V"⟩
abbrev cX5_copyFrom : ByteArray := prog_7_method_3_code
def yX5_copyFrom : MethodName := ⟨RX5, "copyFrom", "(LTurnstileBank$Person;)V"⟩
abbrev cX5_waitAt : ByteArray := prog_7_method_4_code
def yX5_waitAt : MethodName := ⟨RX5, "waitAt", "(III)V"⟩
abbrev cX5_turnAway : ByteArray := prog_7_method_5_code
def yX5_turnAway : MethodName := ⟨RX5, "turnAway", "(I)V"⟩
abbrev cX5_isWaiting : ByteArray := prog_7_method_6_code
def yX5_isWaiting : MethodName := ⟨RX5, "isWaiting", "()Z"⟩
def RX6 : String := "TurnstileBank$Pool"
def TX6 : u_T := fun k => match k with
  | 0 => ("TurnstileBank$Pool", "credit", "I", false)
  | 1 => ("TurnstileBank$Pool", "limit", "I", false)
  | 2 => ("TurnstileBank$Pool", "inside", "I", false)
  | 3 => ("TurnstileBank$Pool", "passes", "I", false)
  | _ => ("TurnstileBank$Pool", "paid", "I", false)
def tyX6 : Nat → FieldType := fun k => match k with
  | 0 => .int
  | 1 => .int
  | 2 => .int
  | 3 => .int
  | _ => .int
abbrev wsX60 : List Cond := u_ws RX6 TX6 5
theorem nmX6 : ∀ a, a < 5 → ∀ b, b < 5 → a ≠ b → (TX6 a).2.1 ≠ (TX6 b).2.1 := by decide +kernel
theorem tyX6_ok : ∀ k, k < 5 → parseFieldDescriptor (TX6 k).2.2.1 = some (tyX6 k) := by decide +kernel
abbrev cX6_init : ByteArray := prog_8_method_1_code
def yX6_init : MethodName := ⟨RX6, "<init>", "()V"⟩
abbrev cX6_setUp : ByteArray := prog_8_method_2_code
def yX6_setUp : MethodName := ⟨RX6, "setUp", "(I)V"⟩
abbrev cX6_copyFrom : ByteArray := prog_8_method_3_code
def yX6_copyFrom : MethodName := ⟨RX6, "copyFrom", "(LTurnstileBank$Pool;)V"⟩
def RX7 : String := "TurnstileBank$Queue"
def TX7 : u_T := fun k => match k with
  | 0 => ("TurnstileBank$Queue", "people", "[I", true)
  | _ => ("TurnstileBank$Queue", "length", "I", false)
def tyX7 : Nat → FieldType := fun k => match k with
  | 0 => .array .int
  | _ => .int
abbrev wsX70 : List Cond := u_ws RX7 TX7 2
theorem nmX7 : ∀ a, a < 2 → ∀ b, b < 2 → a ≠ b → (TX7 a).2.1 ≠ (TX7 b).2.1 := by decide +kernel
theorem tyX7_ok : ∀ k, k < 2 → parseFieldDescriptor (TX7 k).2.2.1 = some (tyX7 k) := by decide +kernel
abbrev cX7_init : ByteArray := prog_9_method_1_code
def yX7_init : MethodName := ⟨RX7, "<init>", "()V"⟩
abbrev cX7_copyFrom : ByteArray := prog_9_method_2_code
def yX7_copyFrom : MethodName := ⟨RX7, "copyFrom", "(LTurnstileBank$Queue;)V"⟩
abbrev cX7_personAtPlace : ByteArray := prog_9_method_3_code
def yX7_personAtPlace : MethodName := ⟨RX7, "personAtPlace", "(I)I"⟩
abbrev cX7_append : ByteArray := prog_9_method_4_code
def yX7_append : MethodName := ⟨RX7, "append", "(I)V"⟩
abbrev cX7_dropFirst : ByteArray := prog_9_method_5_code
def yX7_dropFirst : MethodName := ⟨RX7, "dropFirst", "()V"⟩
def RX8 : String := "TurnstileBank$State"
def TX8 : u_T := fun k => match k with
  | 0 => ("TurnstileBank$State", "gates", "[LTurnstileBank$Gate;", true)
  | 1 => ("TurnstileBank$State", "people", "[LTurnstileBank$Person;", true)
  | 2 => ("TurnstileBank$State", "pools", "[LTurnstileBank$Pool;", true)
  | 3 => ("TurnstileBank$State", "passes", "[LTurnstileBank$Pass;", true)
  | 4 => ("TurnstileBank$State", "events", "LTurnstileBank$Events;", true)
  | 5 => ("TurnstileBank$State", "gateCount", "I", false)
  | 6 => ("TurnstileBank$State", "personCount", "I", false)
  | 7 => ("TurnstileBank$State", "poolCount", "I", false)
  | 8 => ("TurnstileBank$State", "passCount", "I", false)
  | 9 => ("TurnstileBank$State", "time", "I", false)
  | _ => ("TurnstileBank$State", "fare", "I", false)
def tyX8 : Nat → FieldType := fun k => match k with
  | 0 => .array (.object "TurnstileBank$Gate")
  | 1 => .array (.object "TurnstileBank$Person")
  | 2 => .array (.object "TurnstileBank$Pool")
  | 3 => .array (.object "TurnstileBank$Pass")
  | 4 => .object "TurnstileBank$Events"
  | 5 => .int
  | 6 => .int
  | 7 => .int
  | 8 => .int
  | 9 => .int
  | _ => .int
abbrev wsX80 : List Cond := u_ws RX8 TX8 11
theorem nmX8 : ∀ a, a < 11 → ∀ b, b < 11 → a ≠ b → (TX8 a).2.1 ≠ (TX8 b).2.1 := by decide +kernel
theorem tyX8_ok : ∀ k, k < 11 → parseFieldDescriptor (TX8 k).2.2.1 = some (tyX8 k) := by decide +kernel
abbrev cX8_init : ByteArray := prog_10_method_1_code
def yX8_init : MethodName := ⟨RX8, "<init>", "()V"⟩
abbrev cX8_copyFrom : ByteArray := prog_10_method_2_code
def yX8_copyFrom : MethodName := ⟨RX8, "copyFrom", "(LTurnstileBank$State;)V"⟩
abbrev cX8_gateAt : ByteArray := prog_10_method_3_code
def yX8_gateAt : MethodName := ⟨RX8, "gateAt", "(I)LTurnstileBank$Gate;"⟩
abbrev cX8_personAt : ByteArray := prog_10_method_4_code
def yX8_personAt : MethodName := ⟨RX8, "personAt", "(I)LTurnstileBank$Person;"⟩
abbrev cX8_poolAt : ByteArray := prog_10_method_5_code
def yX8_poolAt : MethodName := ⟨RX8, "poolAt", "(I)LTurnstileBank$Pool;"⟩
abbrev cX8_passAt : ByteArray := prog_10_method_6_code
def yX8_passAt : MethodName := ⟨RX8, "passAt", "(I)LTurnstileBank$Pass;"⟩
abbrev cX8_newGate : ByteArray := prog_10_method_7_code
def yX8_newGate : MethodName := ⟨RX8, "newGate", "(IIII)I"⟩
abbrev cX8_turnGate : ByteArray := prog_10_method_8_code
def yX8_turnGate : MethodName := ⟨RX8, "turnGate", "(II)I"⟩
abbrev cX8_newPool : ByteArray := prog_10_method_9_code
def yX8_newPool : MethodName := ⟨RX8, "newPool", "(I)I"⟩
abbrev cX8_addCredit : ByteArray := prog_10_method_10_code
def yX8_addCredit : MethodName := ⟨RX8, "addCredit", "(II)I"⟩
abbrev cX8_newPass : ByteArray := prog_10_method_11_code
def yX8_newPass : MethodName := ⟨RX8, "newPass", "(I)I"⟩
abbrev cX8_markPass : ByteArray := prog_10_method_12_code
def yX8_markPass : MethodName := ⟨RX8, "markPass", "(IZ)I"⟩
abbrev cX8_changeFare : ByteArray := prog_10_method_13_code
def yX8_changeFare : MethodName := ⟨RX8, "changeFare", "(I)I"⟩
abbrev cX8_comeIn : ByteArray := prog_10_method_14_code
def yX8_comeIn : MethodName := ⟨RX8, "comeIn", "(IIZ)I"⟩
abbrev cX8_goOut : ByteArray := prog_10_method_15_code
def yX8_goOut : MethodName := ⟨RX8, "goOut", "(II)I"⟩
abbrev cX8_moveQueues : ByteArray := prog_10_method_16_code
def yX8_moveQueues : MethodName := ⟨RX8, "moveQueues", "(II)I"⟩
abbrev cX8_moveQueue : ByteArray := prog_10_method_17_code
def yX8_moveQueue : MethodName := ⟨RX8, "moveQueue", "(LTurnstileBank$Queue;LTurnstileBank$Queue;I)V"⟩
abbrev cX8_tellPinch : ByteArray := prog_10_method_18_code
def yX8_tellPinch : MethodName := ⟨RX8, "tellPinch", "(I)I"⟩
abbrev cX8_putOutOfOrder : ByteArray := prog_10_method_19_code
def yX8_putOutOfOrder : MethodName := ⟨RX8, "putOutOfOrder", "(I)I"⟩
abbrev cX8_putInOrder : ByteArray := prog_10_method_20_code
def yX8_putInOrder : MethodName := ⟨RX8, "putInOrder", "(I)I"⟩
abbrev cX8_letTicksGo : ByteArray := prog_10_method_21_code
def yX8_letTicksGo : MethodName := ⟨RX8, "letTicksGo", "(I)I"⟩
abbrev cX8_ticksUntilPassed : ByteArray := prog_10_method_22_code
def yX8_ticksUntilPassed : MethodName := ⟨RX8, "ticksUntilPassed", "(I)I"⟩
abbrev cX8_stepGate : ByteArray := prog_10_method_23_code
def yX8_stepGate : MethodName := ⟨RX8, "stepGate", "(ILTurnstileBank$Gate;)I"⟩
abbrev cX8_extraTicks : ByteArray := prog_10_method_24_code
def yX8_extraTicks : MethodName := ⟨RX8, "extraTicks", "(I)I"⟩
abbrev cX8_stepClosing : ByteArray := prog_10_method_25_code
def yX8_stepClosing : MethodName := ⟨RX8, "stepClosing", "(ILTurnstileBank$Gate;)V"⟩
abbrev cX8_breakDown : ByteArray := prog_10_method_26_code
def yX8_breakDown : MethodName := ⟨RX8, "breakDown", "(ILTurnstileBank$Gate;)V"⟩
abbrev cX8_letThrough : ByteArray := prog_10_method_27_code
def yX8_letThrough : MethodName := ⟨RX8, "letThrough", "(ILTurnstileBank$Gate;)I"⟩
abbrev cX8_freePass : ByteArray := prog_10_method_28_code
def yX8_freePass : MethodName := ⟨RX8, "freePass", "(LTurnstileBank$Pass;)V"⟩
abbrev cX8_takeNext : ByteArray := prog_10_method_29_code
def yX8_takeNext : MethodName := ⟨RX8, "takeNext", "(ILTurnstileBank$Gate;)V"⟩
abbrev cX8_nextQueue : ByteArray := prog_10_method_30_code
def yX8_nextQueue : MethodName := ⟨RX8, "nextQueue", "(LTurnstileBank$Gate;)LTurnstileBank$Queue;"⟩
abbrev cX8_reasonToRefuse : ByteArray := prog_10_method_31_code
def yX8_reasonToRefuse : MethodName := ⟨RX8, "reasonToRefuse", "(LTurnstileBank$Person;)I"⟩
abbrev cX8_payFare : ByteArray := prog_10_method_32_code
def yX8_payFare : MethodName := ⟨RX8, "payFare", "(ILTurnstileBank$Pass;)V"⟩
abbrev cX8_peopleWhoAre : ByteArray := prog_10_method_33_code
def yX8_peopleWhoAre : MethodName := ⟨RX8, "peopleWhoAre", "(I)I"⟩
abbrev cX8_allRefusals : ByteArray := prog_10_method_34_code
def yX8_allRefusals : MethodName := ⟨RX8, "allRefusals", "()I"⟩
abbrev cX8_allFares : ByteArray := prog_10_method_35_code
def yX8_allFares : MethodName := ⟨RX8, "allFares", "()I"⟩
abbrev cX8_busiestGate : ByteArray := prog_10_method_36_code
def yX8_busiestGate : MethodName := ⟨RX8, "busiestGate", "()I"⟩
def RX9 : String := "TurnstileBank"
def TX9 : u_T := fun k => match k with
  | 0 => ("TurnstileBank", "now", "LTurnstileBank$State;", true)
  | 1 => ("TurnstileBank", "trial", "LTurnstileBank$State;", true)
  | 2 => ("TurnstileBank", "history", "LTurnstileBank$History;", true)
  | _ => ("TurnstileBank", "orders", "LTurnstileBank$Orders;", true)
def tyX9 : Nat → FieldType := fun k => match k with
  | 0 => .object "TurnstileBank$State"
  | 1 => .object "TurnstileBank$State"
  | 2 => .object "TurnstileBank$History"
  | _ => .object "TurnstileBank$Orders"
abbrev wsX90 : List Cond := u_ws RX9 TX9 4
theorem nmX9 : ∀ a, a < 4 → ∀ b, b < 4 → a ≠ b → (TX9 a).2.1 ≠ (TX9 b).2.1 := by decide +kernel
theorem tyX9_ok : ∀ k, k < 4 → parseFieldDescriptor (TX9 k).2.2.1 = some (tyX9 k) := by decide +kernel
abbrev cX9_init : ByteArray := prog_1_method_1_code
def yX9_init : MethodName := ⟨RX9, "<init>", "()V"⟩
abbrev cX9_addGate : ByteArray := prog_1_method_2_code
def yX9_addGate : MethodName := ⟨RX9, "addGate", "(IIII)I"⟩
abbrev cX9_setDirection : ByteArray := prog_1_method_3_code
def yX9_setDirection : MethodName := ⟨RX9, "setDirection", "(II)I"⟩
abbrev cX9_addPool : ByteArray := prog_1_method_4_code
def yX9_addPool : MethodName := ⟨RX9, "addPool", "(I)I"⟩
abbrev cX9_credit : ByteArray := prog_1_method_5_code
def yX9_credit : MethodName := ⟨RX9, "credit", "(II)I"⟩
abbrev cX9_addPass : ByteArray := prog_1_method_6_code
def yX9_addPass : MethodName := ⟨RX9, "addPass", "(I)I"⟩
abbrev cX9_block : ByteArray := prog_1_method_7_code
def yX9_block : MethodName := ⟨RX9, "block", "(IZ)I"⟩
abbrev cX9_setFare : ByteArray := prog_1_method_8_code
def yX9_setFare : MethodName := ⟨RX9, "setFare", "(I)I"⟩
abbrev cX9_enter : ByteArray := prog_1_method_9_code
def yX9_enter : MethodName := ⟨RX9, "enter", "(IIZ)I"⟩
abbrev cX9_exit : ByteArray := prog_1_method_10_code
def yX9_exit : MethodName := ⟨RX9, "exit", "(II)I"⟩
abbrev cX9_divert : ByteArray := prog_1_method_11_code
def yX9_divert : MethodName := ⟨RX9, "divert", "(II)I"⟩
abbrev cX9_pinch : ByteArray := prog_1_method_12_code
def yX9_pinch : MethodName := ⟨RX9, "pinch", "(I)I"⟩
abbrev cX9_fail : ByteArray := prog_1_method_13_code
def yX9_fail : MethodName := ⟨RX9, "fail", "(I)I"⟩
abbrev cX9_repair : ByteArray := prog_1_method_14_code
def yX9_repair : MethodName := ⟨RX9, "repair", "(I)I"⟩
abbrev cX9_pass : ByteArray := prog_1_method_15_code
def yX9_pass : MethodName := ⟨RX9, "pass", "(I)I"⟩
abbrev cX9_type : ByteArray := prog_1_method_16_code
def yX9_type : MethodName := ⟨RX9, "type", "(C)I"⟩
abbrev cX9_clearText : ByteArray := prog_1_method_17_code
def yX9_clearText : MethodName := ⟨RX9, "clearText", "()I"⟩
abbrev cX9_run : ByteArray := prog_1_method_18_code
def yX9_run : MethodName := ⟨RX9, "run", "()I"⟩
abbrev cX9_undo : ByteArray := prog_1_method_19_code
def yX9_undo : MethodName := ⟨RX9, "undo", "()I"⟩
abbrev cX9_gate : ByteArray := prog_1_method_20_code
def yX9_gate : MethodName := ⟨RX9, "gate", "(II)I"⟩
abbrev cX9_queued : ByteArray := prog_1_method_21_code
def yX9_queued : MethodName := ⟨RX9, "queued", "(III)I"⟩
abbrev cX9_person : ByteArray := prog_1_method_22_code
def yX9_person : MethodName := ⟨RX9, "person", "(II)I"⟩
abbrev cX9_pool : ByteArray := prog_1_method_23_code
def yX9_pool : MethodName := ⟨RX9, "pool", "(II)I"⟩
abbrev cX9_passOf : ByteArray := prog_1_method_24_code
def yX9_passOf : MethodName := ⟨RX9, "passOf", "(II)I"⟩
abbrev cX9_event : ByteArray := prog_1_method_25_code
def yX9_event : MethodName := ⟨RX9, "event", "(II)I"⟩
abbrev cX9_passesIn : ByteArray := prog_1_method_26_code
def yX9_passesIn : MethodName := ⟨RX9, "passesIn", "(I)I"⟩
abbrev cX9_count : ByteArray := prog_1_method_27_code
def yX9_count : MethodName := ⟨RX9, "count", "(I)I"⟩
abbrev cX9_recorded : ByteArray := prog_1_method_28_code
def yX9_recorded : MethodName := ⟨RX9, "recorded", "(I)I"⟩
abbrev cX9_carryOut : ByteArray := prog_1_method_29_code
def yX9_carryOut : MethodName := ⟨RX9, "carryOut", "()I"⟩
abbrev cX9_isError : ByteArray := prog_1_method_30_code
def yX9_isError : MethodName := ⟨RX9, "isError", "(I)Z"⟩
abbrev cX9_isBetween : ByteArray := prog_1_method_31_code
def yX9_isBetween : MethodName := ⟨RX9, "isBetween", "(III)Z"⟩
def RX10 : String := "TurnstileBankModel"
def TX10 : u_T := fun k => match k with
  | 0 => ("TurnstileBankModel", "row", "[I", true)
  | 1 => ("TurnstileBankModel", "scratch", "[I", true)
  | 2 => ("TurnstileBankModel", "history", "[I", true)
  | 3 => ("TurnstileBankModel", "kept", "I", false)
  | 4 => ("TurnstileBankModel", "typed", "I", false)
  | 5 => ("TurnstileBankModel", "text", "[C", true)
  | 6 => ("TurnstileBankModel", "place", "I", false)
  | 7 => ("TurnstileBankModel", "isGood", "Z", false)
  | 8 => ("TurnstileBankModel", "orders", "I", false)
  | _ => ("TurnstileBankModel", "orderOf", "[I", true)
def tyX10 : Nat → FieldType := fun k => match k with
  | 0 => .array .int
  | 1 => .array .int
  | 2 => .array .int
  | 3 => .int
  | 4 => .int
  | 5 => .array .char
  | 6 => .int
  | 7 => .boolean
  | 8 => .int
  | _ => .array .int
abbrev wsX100 : List Cond := u_ws RX10 TX10 10
theorem nmX10 : ∀ a, a < 10 → ∀ b, b < 10 → a ≠ b → (TX10 a).2.1 ≠ (TX10 b).2.1 := by decide +kernel
theorem tyX10_ok : ∀ k, k < 10 → parseFieldDescriptor (TX10 k).2.2.1 = some (tyX10 k) := by decide +kernel
abbrev cX10_init : ByteArray := prog_12_method_1_code
def yX10_init : MethodName := ⟨RX10, "<init>", "()V"⟩
abbrev cX10_in : ByteArray := prog_12_method_2_code
def yX10_in : MethodName := ⟨RX10, "in", "(III)Z"⟩
abbrev cX10_begin : ByteArray := prog_12_method_3_code
def yX10_begin : MethodName := ⟨RX10, "begin", "()V"⟩
abbrev cX10_goBack : ByteArray := prog_12_method_4_code
def yX10_goBack : MethodName := ⟨RX10, "goBack", "()V"⟩
abbrev cX10_recorded : ByteArray := prog_12_method_5_code
def yX10_recorded : MethodName := ⟨RX10, "recorded", "(I)I"⟩
abbrev cX10_done : ByteArray := prog_12_method_6_code
def yX10_done : MethodName := ⟨RX10, "done", "(I)I"⟩
abbrev cX10_undo : ByteArray := prog_12_method_7_code
def yX10_undo : MethodName := ⟨RX10, "undo", "()I"⟩
abbrev cX10_gateOf : ByteArray := prog_12_method_8_code
def yX10_gateOf : MethodName := ⟨RX10, "gateOf", "(II)I"⟩
abbrev cX10_putGate : ByteArray := prog_12_method_9_code
def yX10_putGate : MethodName := ⟨RX10, "putGate", "(III)V"⟩
abbrev cX10_of : ByteArray := prog_12_method_10_code
def yX10_of : MethodName := ⟨RX10, "of", "(II)I"⟩
abbrev cX10_put : ByteArray := prog_12_method_11_code
def yX10_put : MethodName := ⟨RX10, "put", "(III)V"⟩
abbrev cX10_noGate : ByteArray := prog_12_method_12_code
def yX10_noGate : MethodName := ⟨RX10, "noGate", "(I)Z"⟩
abbrev cX10_noPerson : ByteArray := prog_12_method_13_code
def yX10_noPerson : MethodName := ⟨RX10, "noPerson", "(I)Z"⟩
abbrev cX10_noPass : ByteArray := prog_12_method_14_code
def yX10_noPass : MethodName := ⟨RX10, "noPass", "(I)Z"⟩
abbrev cX10_noPool : ByteArray := prog_12_method_15_code
def yX10_noPool : MethodName := ⟨RX10, "noPool", "(I)Z"⟩
abbrev cX10_addGate : ByteArray := prog_12_method_16_code
def yX10_addGate : MethodName := ⟨RX10, "addGate", "(IIII)I"⟩
abbrev cX10_setDirection : ByteArray := prog_12_method_17_code
def yX10_setDirection : MethodName := ⟨RX10, "setDirection", "(II)I"⟩
abbrev cX10_addPool : ByteArray := prog_12_method_18_code
def yX10_addPool : MethodName := ⟨RX10, "addPool", "(I)I"⟩
abbrev cX10_credit : ByteArray := prog_12_method_19_code
def yX10_credit : MethodName := ⟨RX10, "credit", "(II)I"⟩
abbrev cX10_addPass : ByteArray := prog_12_method_20_code
def yX10_addPass : MethodName := ⟨RX10, "addPass", "(I)I"⟩
abbrev cX10_block : ByteArray := prog_12_method_21_code
def yX10_block : MethodName := ⟨RX10, "block", "(IZ)I"⟩
abbrev cX10_setFare : ByteArray := prog_12_method_22_code
def yX10_setFare : MethodName := ⟨RX10, "setFare", "(I)I"⟩
abbrev cX10_isQueued : ByteArray := prog_12_method_23_code
def yX10_isQueued : MethodName := ⟨RX10, "isQueued", "(III)Z"⟩
abbrev cX10_queueLength : ByteArray := prog_12_method_24_code
def yX10_queueLength : MethodName := ⟨RX10, "queueLength", "(II)I"⟩
abbrev cX10_queuedAt : ByteArray := prog_12_method_25_code
def yX10_queuedAt : MethodName := ⟨RX10, "queuedAt", "(III)I"⟩
abbrev cX10_queue : ByteArray := prog_12_method_26_code
def yX10_queue : MethodName := ⟨RX10, "queue", "(III)V"⟩
abbrev cX10_doEnter : ByteArray := prog_12_method_27_code
def yX10_doEnter : MethodName := ⟨RX10, "doEnter", "(IIZ)I"⟩
abbrev cX10_enter : ByteArray := prog_12_method_28_code
def yX10_enter : MethodName := ⟨RX10, "enter", "(IIZ)I"⟩
abbrev cX10_doExit : ByteArray := prog_12_method_29_code
def yX10_doExit : MethodName := ⟨RX10, "doExit", "(II)I"⟩
abbrev cX10_exit : ByteArray := prog_12_method_30_code
def yX10_exit : MethodName := ⟨RX10, "exit", "(II)I"⟩
abbrev cX10_divert : ByteArray := prog_12_method_31_code
def yX10_divert : MethodName := ⟨RX10, "divert", "(II)I"⟩
abbrev cX10_tell : ByteArray := prog_12_method_32_code
def yX10_tell : MethodName := ⟨RX10, "tell", "(III)V"⟩
abbrev cX10_letThrough : ByteArray := prog_12_method_33_code
def yX10_letThrough : MethodName := ⟨RX10, "letThrough", "(I)V"⟩
abbrev cX10_goOut : ByteArray := prog_12_method_34_code
def yX10_goOut : MethodName := ⟨RX10, "goOut", "(I)V"⟩
abbrev cX10_isOfPool : ByteArray := prog_12_method_35_code
def yX10_isOfPool : MethodName := ⟨RX10, "isOfPool", "(II)Z"⟩
abbrev cX10_insideBy : ByteArray := prog_12_method_36_code
def yX10_insideBy : MethodName := ⟨RX10, "insideBy", "(I)I"⟩
abbrev cX10_userOf : ByteArray := prog_12_method_37_code
def yX10_userOf : MethodName := ⟨RX10, "userOf", "(I)I"⟩
abbrev cX10_refusal : ByteArray := prog_12_method_38_code
def yX10_refusal : MethodName := ⟨RX10, "refusal", "(I)I"⟩
abbrev cX10_waited : ByteArray := prog_12_method_39_code
def yX10_waited : MethodName := ⟨RX10, "waited", "(I)I"⟩
abbrev cX10_nextFor : ByteArray := prog_12_method_40_code
def yX10_nextFor : MethodName := ⟨RX10, "nextFor", "(I)I"⟩
abbrev cX10_takeNext : ByteArray := prog_12_method_41_code
def yX10_takeNext : MethodName := ⟨RX10, "takeNext", "(I)V"⟩
abbrev cX10_turn : ByteArray := prog_12_method_42_code
def yX10_turn : MethodName := ⟨RX10, "turn", "(III)V"⟩
abbrev cX10_opened : ByteArray := prog_12_method_43_code
def yX10_opened : MethodName := ⟨RX10, "opened", "(I)V"⟩
abbrev cX10_pinched : ByteArray := prog_12_method_44_code
def yX10_pinched : MethodName := ⟨RX10, "pinched", "(I)V"⟩
abbrev cX10_step : ByteArray := prog_12_method_45_code
def yX10_step : MethodName := ⟨RX10, "step", "(I)V"⟩
abbrev cX10_tick : ByteArray := prog_12_method_46_code
def yX10_tick : MethodName := ⟨RX10, "tick", "()V"⟩
abbrev cX10_passed : ByteArray := prog_12_method_47_code
def yX10_passed : MethodName := ⟨RX10, "passed", "()I"⟩
abbrev cX10_doPass : ByteArray := prog_12_method_48_code
def yX10_doPass : MethodName := ⟨RX10, "doPass", "(I)I"⟩
abbrev cX10_pass : ByteArray := prog_12_method_49_code
def yX10_pass : MethodName := ⟨RX10, "pass", "(I)I"⟩
abbrev cX10_doPinch : ByteArray := prog_12_method_50_code
def yX10_doPinch : MethodName := ⟨RX10, "doPinch", "(I)I"⟩
abbrev cX10_pinch : ByteArray := prog_12_method_51_code
def yX10_pinch : MethodName := ⟨RX10, "pinch", "(I)I"⟩
abbrev cX10_fail : ByteArray := prog_12_method_52_code
def yX10_fail : MethodName := ⟨RX10, "fail", "(I)I"⟩
abbrev cX10_repair : ByteArray := prog_12_method_53_code
def yX10_repair : MethodName := ⟨RX10, "repair", "(I)I"⟩
abbrev cX10_type : ByteArray := prog_12_method_54_code
def yX10_type : MethodName := ⟨RX10, "type", "(C)I"⟩
abbrev cX10_clearText : ByteArray := prog_12_method_55_code
def yX10_clearText : MethodName := ⟨RX10, "clearText", "()I"⟩
abbrev cX10_isAt : ByteArray := prog_12_method_56_code
def yX10_isAt : MethodName := ⟨RX10, "isAt", "(CC)Z"⟩
abbrev cX10_skips : ByteArray := prog_12_method_57_code
def yX10_skips : MethodName := ⟨RX10, "skips", "(C)Z"⟩
abbrev cX10_digit : ByteArray := prog_12_method_58_code
def yX10_digit : MethodName := ⟨RX10, "digit", "(II)I"⟩
abbrev cX10_number : ByteArray := prog_12_method_59_code
def yX10_number : MethodName := ⟨RX10, "number", "(I)I"⟩
abbrev cX10_readOrder : ByteArray := prog_12_method_60_code
def yX10_readOrder : MethodName := ⟨RX10, "readOrder", "()V"⟩
abbrev cX10_carryOut : ByteArray := prog_12_method_61_code
def yX10_carryOut : MethodName := ⟨RX10, "carryOut", "(I)I"⟩
abbrev cX10_isError : ByteArray := prog_12_method_62_code
def yX10_isError : MethodName := ⟨RX10, "isError", "(I)Z"⟩
abbrev cX10_run : ByteArray := prog_12_method_63_code
def yX10_run : MethodName := ⟨RX10, "run", "()I"⟩
abbrev cX10_gate : ByteArray := prog_12_method_64_code
def yX10_gate : MethodName := ⟨RX10, "gate", "(II)I"⟩
abbrev cX10_queued : ByteArray := prog_12_method_65_code
def yX10_queued : MethodName := ⟨RX10, "queued", "(III)I"⟩
abbrev cX10_person : ByteArray := prog_12_method_66_code
def yX10_person : MethodName := ⟨RX10, "person", "(II)I"⟩
abbrev cX10_pool : ByteArray := prog_12_method_67_code
def yX10_pool : MethodName := ⟨RX10, "pool", "(II)I"⟩
abbrev cX10_passOf : ByteArray := prog_12_method_68_code
def yX10_passOf : MethodName := ⟨RX10, "passOf", "(II)I"⟩
abbrev cX10_event : ByteArray := prog_12_method_69_code
def yX10_event : MethodName := ⟨RX10, "event", "(II)I"⟩
abbrev cX10_passesIn : ByteArray := prog_12_method_70_code
def yX10_passesIn : MethodName := ⟨RX10, "passesIn", "(I)I"⟩
abbrev cX10_peopleAt : ByteArray := prog_12_method_71_code
def yX10_peopleAt : MethodName := ⟨RX10, "peopleAt", "(II)I"⟩
abbrev cX10_longest : ByteArray := prog_12_method_72_code
def yX10_longest : MethodName := ⟨RX10, "longest", "()I"⟩
abbrev cX10_count : ByteArray := prog_12_method_73_code
def yX10_count : MethodName := ⟨RX10, "count", "(I)I"⟩
def RJ9 : String := "java/lang/Math"
def TJ9 : u_T := fun k => match k with
  | _ => ("", "", "", false)
def tyJ9 : Nat → FieldType := fun k => match k with
  | _ => .int
abbrev wsJ90 : List Cond := u_ws RJ9 TJ9 0
theorem nmJ9 : ∀ a, a < 0 → ∀ b, b < 0 → a ≠ b → (TJ9 a).2.1 ≠ (TJ9 b).2.1 := by decide +kernel
theorem tyJ9_ok : ∀ k, k < 0 → parseFieldDescriptor (TJ9 k).2.2.1 = some (tyJ9 k) := by decide +kernel
