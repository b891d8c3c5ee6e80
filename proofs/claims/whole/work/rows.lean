section
-- ===== PART A: goes FIRST, ahead of the names: the tables' words, and 'selects' of the private methods out of them =====
/-- a private method of a class that the tables say can be made, by its rows of tables_1 -/
def lw_okq (q : MethodName × Nat) : Prop := (q.1.cls ≠ "java/lang/invoke/MethodHandle" ∧ q.1.cls ≠ "java/lang/invoke/VarHandle") ∧ Cond.instantiable q.1.cls q.2 ∈ tables_1 ∧ Cond.privateMethod q.1 ∈ tables_1 ∧ Cond.instanceMethod q.1 ∈ tables_1
theorem lw_p0 : lw_okq (⟨"WindRota", "finding", "(I)I"⟩, 12) := ⟨⟨by decide +kernel, by decide +kernel⟩, List.mem_of_getElem? (i := 18) (by decide +kernel), List.mem_of_getElem? (i := 219) (by decide +kernel), List.mem_of_getElem? (i := 220) (by decide +kernel)⟩
theorem lw_p1 : lw_okq (⟨"WindRota$Thing", "off", "(I)I"⟩, 4) := ⟨⟨by decide +kernel, by decide +kernel⟩, List.mem_of_getElem? (i := 33) (by decide +kernel), List.mem_of_getElem? (i := 293) (by decide +kernel), List.mem_of_getElem? (i := 294) (by decide +kernel)⟩
theorem lw_p2 : lw_okq (⟨"WindRota$Ways", "lower", "(II)V"⟩, 2) := ⟨⟨by decide +kernel, by decide +kernel⟩, List.mem_of_getElem? (i := 90) (by decide +kernel), List.mem_of_getElem? (i := 419) (by decide +kernel), List.mem_of_getElem? (i := 420) (by decide +kernel)⟩
theorem lw_p3 : lw_okq (⟨"WindRota$Teller", "tellItem", "(LWindRota$Sea;)Z"⟩, 1) := ⟨⟨by decide +kernel, by decide +kernel⟩, List.mem_of_getElem? (i := 143) (by decide +kernel), List.mem_of_getElem? (i := 510) (by decide +kernel), List.mem_of_getElem? (i := 511) (by decide +kernel)⟩
theorem lw_p4 : lw_okq (⟨"WindRota$Teller", "kindNamed", "()I"⟩, 1) := ⟨⟨by decide +kernel, by decide +kernel⟩, List.mem_of_getElem? (i := 143) (by decide +kernel), List.mem_of_getElem? (i := 514) (by decide +kernel), List.mem_of_getElem? (i := 515) (by decide +kernel)⟩
theorem lw_p5 : lw_okq (⟨"WindRota$Teller", "tellThing", "(LWindRota$Sea;I)Z"⟩, 1) := ⟨⟨by decide +kernel, by decide +kernel⟩, List.mem_of_getElem? (i := 143) (by decide +kernel), List.mem_of_getElem? (i := 579) (by decide +kernel), List.mem_of_getElem? (i := 580) (by decide +kernel)⟩
theorem lw_p6 : lw_okq (⟨"WindRota$Teller", "takesWord", "(Ljava/lang/String;)Z"⟩, 1) := ⟨⟨by decide +kernel, by decide +kernel⟩, List.mem_of_getElem? (i := 143) (by decide +kernel), List.mem_of_getElem? (i := 586) (by decide +kernel), List.mem_of_getElem? (i := 587) (by decide +kernel)⟩
theorem lw_p7 : lw_okq (⟨"WindRota$Teller", "takenNumber", "(I)I"⟩, 1) := ⟨⟨by decide +kernel, by decide +kernel⟩, List.mem_of_getElem? (i := 143) (by decide +kernel), List.mem_of_getElem? (i := 590) (by decide +kernel), List.mem_of_getElem? (i := 591) (by decide +kernel)⟩
theorem lw_p8 : lw_okq (⟨"WindRota$Teller", "tellRota", "(LWindRota$Sea;)Z"⟩, 1) := ⟨⟨by decide +kernel, by decide +kernel⟩, List.mem_of_getElem? (i := 143) (by decide +kernel), List.mem_of_getElem? (i := 602) (by decide +kernel), List.mem_of_getElem? (i := 603) (by decide +kernel)⟩
theorem lw_p9 : lw_okq (⟨"WindRota$Teller", "tellHealth", "(LWindRota$Sea;Z)Z"⟩, 1) := ⟨⟨by decide +kernel, by decide +kernel⟩, List.mem_of_getElem? (i := 143) (by decide +kernel), List.mem_of_getElem? (i := 607) (by decide +kernel), List.mem_of_getElem? (i := 608) (by decide +kernel)⟩
theorem lw_p10 : lw_okq (⟨"WindRota$Teller", "tellForce", "(LWindRota$Sea;)Z"⟩, 1) := ⟨⟨by decide +kernel, by decide +kernel⟩, List.mem_of_getElem? (i := 143) (by decide +kernel), List.mem_of_getElem? (i := 614) (by decide +kernel), List.mem_of_getElem? (i := 615) (by decide +kernel)⟩
theorem lw_p11 : lw_okq (⟨"WindRota$Sheet", "lowest", "(J)J"⟩, 3) := ⟨⟨by decide +kernel, by decide +kernel⟩, List.mem_of_getElem? (i := 154) (by decide +kernel), List.mem_of_getElem? (i := 641) (by decide +kernel), List.mem_of_getElem? (i := 642) (by decide +kernel)⟩
theorem lw_p12 : lw_okq (⟨"WindRota", "sheetFinding", "(II)I"⟩, 12) := ⟨⟨by decide +kernel, by decide +kernel⟩, List.mem_of_getElem? (i := 18) (by decide +kernel), List.mem_of_getElem? (i := 663) (by decide +kernel), List.mem_of_getElem? (i := 664) (by decide +kernel)⟩
theorem lw_p13 : lw_okq (⟨"WindRota", "walkerMakes", "(LWindRota$Sheet;)Z"⟩, 12) := ⟨⟨by decide +kernel, by decide +kernel⟩, List.mem_of_getElem? (i := 18) (by decide +kernel), List.mem_of_getElem? (i := 671) (by decide +kernel), List.mem_of_getElem? (i := 672) (by decide +kernel)⟩
theorem lw_p14 : lw_okq (⟨"WindRotaModel", "becomes", "(II)I"⟩, 17) := ⟨⟨by decide +kernel, by decide +kernel⟩, List.mem_of_getElem? (i := 705) (by decide +kernel), List.mem_of_getElem? (i := 770) (by decide +kernel), List.mem_of_getElem? (i := 771) (by decide +kernel)⟩
theorem lw_p15 : lw_okq (⟨"WindRotaModel", "finds", "(I)I"⟩, 17) := ⟨⟨by decide +kernel, by decide +kernel⟩, List.mem_of_getElem? (i := 705) (by decide +kernel), List.mem_of_getElem? (i := 775) (by decide +kernel), List.mem_of_getElem? (i := 776) (by decide +kernel)⟩
def lw_privs_1 : List (MethodName × Nat) := [(⟨"WindRota", "finding", "(I)I"⟩, 12), (⟨"WindRota$Thing", "off", "(I)I"⟩, 4), (⟨"WindRota$Ways", "lower", "(II)V"⟩, 2), (⟨"WindRota$Teller", "tellItem", "(LWindRota$Sea;)Z"⟩, 1), (⟨"WindRota$Teller", "kindNamed", "()I"⟩, 1), (⟨"WindRota$Teller", "tellThing", "(LWindRota$Sea;I)Z"⟩, 1), (⟨"WindRota$Teller", "takesWord", "(Ljava/lang/String;)Z"⟩, 1), (⟨"WindRota$Teller", "takenNumber", "(I)I"⟩, 1), (⟨"WindRota$Teller", "tellRota", "(LWindRota$Sea;)Z"⟩, 1), (⟨"WindRota$Teller", "tellHealth", "(LWindRota$Sea;Z)Z"⟩, 1), (⟨"WindRota$Teller", "tellForce", "(LWindRota$Sea;)Z"⟩, 1), (⟨"WindRota$Sheet", "lowest", "(J)J"⟩, 3), (⟨"WindRota", "sheetFinding", "(II)I"⟩, 12), (⟨"WindRota", "walkerMakes", "(LWindRota$Sheet;)Z"⟩, 12), (⟨"WindRotaModel", "becomes", "(II)I"⟩, 17), (⟨"WindRotaModel", "finds", "(I)I"⟩, 17)]
theorem lw_r1 : ∀ q ∈ lw_privs_1, lw_okq q := List.forall_mem_cons.mpr ⟨lw_p0, List.forall_mem_cons.mpr ⟨lw_p1, List.forall_mem_cons.mpr ⟨lw_p2, List.forall_mem_cons.mpr ⟨lw_p3, List.forall_mem_cons.mpr ⟨lw_p4, List.forall_mem_cons.mpr ⟨lw_p5, List.forall_mem_cons.mpr ⟨lw_p6, List.forall_mem_cons.mpr ⟨lw_p7, List.forall_mem_cons.mpr ⟨lw_p8, List.forall_mem_cons.mpr ⟨lw_p9, List.forall_mem_cons.mpr ⟨lw_p10, List.forall_mem_cons.mpr ⟨lw_p11, List.forall_mem_cons.mpr ⟨lw_p12, List.forall_mem_cons.mpr ⟨lw_p13, List.forall_mem_cons.mpr ⟨lw_p14, List.forall_mem_cons.mpr ⟨lw_p15, fun _ h => absurd h List.not_mem_nil⟩⟩⟩⟩⟩⟩⟩⟩⟩⟩⟩⟩⟩⟩⟩⟩
theorem lw_p16 : lw_okq (⟨"WindRotaModel", "ails", "(II)V"⟩, 17) := ⟨⟨by decide +kernel, by decide +kernel⟩, List.mem_of_getElem? (i := 705) (by decide +kernel), List.mem_of_getElem? (i := 790) (by decide +kernel), List.mem_of_getElem? (i := 791) (by decide +kernel)⟩
theorem lw_p17 : lw_okq (⟨"WindRotaModel", "blowing", "(I)I"⟩, 17) := ⟨⟨by decide +kernel, by decide +kernel⟩, List.mem_of_getElem? (i := 705) (by decide +kernel), List.mem_of_getElem? (i := 802) (by decide +kernel), List.mem_of_getElem? (i := 803) (by decide +kernel)⟩
theorem lw_p18 : lw_okq (⟨"WindRotaModel", "orNone", "(I)I"⟩, 17) := ⟨⟨by decide +kernel, by decide +kernel⟩, List.mem_of_getElem? (i := 705) (by decide +kernel), List.mem_of_getElem? (i := 816) (by decide +kernel), List.mem_of_getElem? (i := 817) (by decide +kernel)⟩
theorem lw_p19 : lw_okq (⟨"WindRotaModel", "comesAt", "(III)I"⟩, 17) := ⟨⟨by decide +kernel, by decide +kernel⟩, List.mem_of_getElem? (i := 705) (by decide +kernel), List.mem_of_getElem? (i := 826) (by decide +kernel), List.mem_of_getElem? (i := 827) (by decide +kernel)⟩
theorem lw_p20 : lw_okq (⟨"WindRotaModel", "put", "(III)V"⟩, 17) := ⟨⟨by decide +kernel, by decide +kernel⟩, List.mem_of_getElem? (i := 705) (by decide +kernel), List.mem_of_getElem? (i := 830) (by decide +kernel), List.mem_of_getElem? (i := 831) (by decide +kernel)⟩
theorem lw_p21 : lw_okq (⟨"WindRotaModel", "isThing", "(I)Z"⟩, 17) := ⟨⟨by decide +kernel, by decide +kernel⟩, List.mem_of_getElem? (i := 705) (by decide +kernel), List.mem_of_getElem? (i := 838) (by decide +kernel), List.mem_of_getElem? (i := 839) (by decide +kernel)⟩
theorem lw_p22 : lw_okq (⟨"WindRotaModel", "it", "(II)I"⟩, 17) := ⟨⟨by decide +kernel, by decide +kernel⟩, List.mem_of_getElem? (i := 705) (by decide +kernel), List.mem_of_getElem? (i := 842) (by decide +kernel), List.mem_of_getElem? (i := 843) (by decide +kernel)⟩
theorem lw_p23 : lw_okq (⟨"WindRotaModel", "earns", "(II)I"⟩, 17) := ⟨⟨by decide +kernel, by decide +kernel⟩, List.mem_of_getElem? (i := 705) (by decide +kernel), List.mem_of_getElem? (i := 846) (by decide +kernel), List.mem_of_getElem? (i := 847) (by decide +kernel)⟩
theorem lw_p24 : lw_okq (⟨"WindRotaModel", "off", "(II)I"⟩, 17) := ⟨⟨by decide +kernel, by decide +kernel⟩, List.mem_of_getElem? (i := 705) (by decide +kernel), List.mem_of_getElem? (i := 850) (by decide +kernel), List.mem_of_getElem? (i := 851) (by decide +kernel)⟩
theorem lw_p25 : lw_okq (⟨"WindRotaModel", "doesGo", "(II)Z"⟩, 17) := ⟨⟨by decide +kernel, by decide +kernel⟩, List.mem_of_getElem? (i := 705) (by decide +kernel), List.mem_of_getElem? (i := 857) (by decide +kernel), List.mem_of_getElem? (i := 858) (by decide +kernel)⟩
theorem lw_p26 : lw_okq (⟨"WindRotaModel", "day", "()V"⟩, 17) := ⟨⟨by decide +kernel, by decide +kernel⟩, List.mem_of_getElem? (i := 705) (by decide +kernel), List.mem_of_getElem? (i := 880) (by decide +kernel), List.mem_of_getElem? (i := 881) (by decide +kernel)⟩
theorem lw_p27 : lw_okq (⟨"WindRotaModel", "goes", "(I)V"⟩, 17) := ⟨⟨by decide +kernel, by decide +kernel⟩, List.mem_of_getElem? (i := 705) (by decide +kernel), List.mem_of_getElem? (i := 884) (by decide +kernel), List.mem_of_getElem? (i := 885) (by decide +kernel)⟩
theorem lw_p28 : lw_okq (⟨"WindRotaModel", "wentTo", "(III)I"⟩, 17) := ⟨⟨by decide +kernel, by decide +kernel⟩, List.mem_of_getElem? (i := 705) (by decide +kernel), List.mem_of_getElem? (i := 888) (by decide +kernel), List.mem_of_getElem? (i := 889) (by decide +kernel)⟩
theorem lw_p29 : lw_okq (⟨"WindRotaModel", "sums", "()I"⟩, 17) := ⟨⟨by decide +kernel, by decide +kernel⟩, List.mem_of_getElem? (i := 705) (by decide +kernel), List.mem_of_getElem? (i := 892) (by decide +kernel), List.mem_of_getElem? (i := 893) (by decide +kernel)⟩
theorem lw_p30 : lw_okq (⟨"WindRotaModel", "thinks", "()V"⟩, 17) := ⟨⟨by decide +kernel, by decide +kernel⟩, List.mem_of_getElem? (i := 705) (by decide +kernel), List.mem_of_getElem? (i := 908) (by decide +kernel), List.mem_of_getElem? (i := 909) (by decide +kernel)⟩
theorem lw_p31 : lw_okq (⟨"WindRotaModel", "putsBack", "()V"⟩, 17) := ⟨⟨by decide +kernel, by decide +kernel⟩, List.mem_of_getElem? (i := 705) (by decide +kernel), List.mem_of_getElem? (i := 915) (by decide +kernel), List.mem_of_getElem? (i := 916) (by decide +kernel)⟩
def lw_privs_2 : List (MethodName × Nat) := [(⟨"WindRotaModel", "ails", "(II)V"⟩, 17), (⟨"WindRotaModel", "blowing", "(I)I"⟩, 17), (⟨"WindRotaModel", "orNone", "(I)I"⟩, 17), (⟨"WindRotaModel", "comesAt", "(III)I"⟩, 17), (⟨"WindRotaModel", "put", "(III)V"⟩, 17), (⟨"WindRotaModel", "isThing", "(I)Z"⟩, 17), (⟨"WindRotaModel", "it", "(II)I"⟩, 17), (⟨"WindRotaModel", "earns", "(II)I"⟩, 17), (⟨"WindRotaModel", "off", "(II)I"⟩, 17), (⟨"WindRotaModel", "doesGo", "(II)Z"⟩, 17), (⟨"WindRotaModel", "day", "()V"⟩, 17), (⟨"WindRotaModel", "goes", "(I)V"⟩, 17), (⟨"WindRotaModel", "wentTo", "(III)I"⟩, 17), (⟨"WindRotaModel", "sums", "()I"⟩, 17), (⟨"WindRotaModel", "thinks", "()V"⟩, 17), (⟨"WindRotaModel", "putsBack", "()V"⟩, 17)]
theorem lw_r2 : ∀ q ∈ lw_privs_2, lw_okq q := List.forall_mem_cons.mpr ⟨lw_p16, List.forall_mem_cons.mpr ⟨lw_p17, List.forall_mem_cons.mpr ⟨lw_p18, List.forall_mem_cons.mpr ⟨lw_p19, List.forall_mem_cons.mpr ⟨lw_p20, List.forall_mem_cons.mpr ⟨lw_p21, List.forall_mem_cons.mpr ⟨lw_p22, List.forall_mem_cons.mpr ⟨lw_p23, List.forall_mem_cons.mpr ⟨lw_p24, List.forall_mem_cons.mpr ⟨lw_p25, List.forall_mem_cons.mpr ⟨lw_p26, List.forall_mem_cons.mpr ⟨lw_p27, List.forall_mem_cons.mpr ⟨lw_p28, List.forall_mem_cons.mpr ⟨lw_p29, List.forall_mem_cons.mpr ⟨lw_p30, List.forall_mem_cons.mpr ⟨lw_p31, fun _ h => absurd h List.not_mem_nil⟩⟩⟩⟩⟩⟩⟩⟩⟩⟩⟩⟩⟩⟩⟩⟩
theorem lw_p32 : lw_okq (⟨"WindRotaModel", "begins", "(I)V"⟩, 17) := ⟨⟨by decide +kernel, by decide +kernel⟩, List.mem_of_getElem? (i := 705) (by decide +kernel), List.mem_of_getElem? (i := 931) (by decide +kernel), List.mem_of_getElem? (i := 932) (by decide +kernel)⟩
theorem lw_p33 : lw_okq (⟨"WindRotaModel", "dayOn", "(II)V"⟩, 17) := ⟨⟨by decide +kernel, by decide +kernel⟩, List.mem_of_getElem? (i := 705) (by decide +kernel), List.mem_of_getElem? (i := 935) (by decide +kernel), List.mem_of_getElem? (i := 936) (by decide +kernel)⟩
theorem lw_p34 : lw_okq (⟨"WindRotaModel", "cheaper", "(II)V"⟩, 17) := ⟨⟨by decide +kernel, by decide +kernel⟩, List.mem_of_getElem? (i := 705) (by decide +kernel), List.mem_of_getElem? (i := 939) (by decide +kernel), List.mem_of_getElem? (i := 940) (by decide +kernel)⟩
theorem lw_p35 : lw_okq (⟨"WindRotaModel", "gainOn", "(I)I"⟩, 17) := ⟨⟨by decide +kernel, by decide +kernel⟩, List.mem_of_getElem? (i := 705) (by decide +kernel), List.mem_of_getElem? (i := 955) (by decide +kernel), List.mem_of_getElem? (i := 956) (by decide +kernel)⟩
theorem lw_p36 : lw_okq (⟨"WindRotaModel", "bestAt", "(III)I"⟩, 17) := ⟨⟨by decide +kernel, by decide +kernel⟩, List.mem_of_getElem? (i := 705) (by decide +kernel), List.mem_of_getElem? (i := 971) (by decide +kernel), List.mem_of_getElem? (i := 972) (by decide +kernel)⟩
theorem lw_p37 : lw_okq (⟨"WindRotaModel", "reads", "()V"⟩, 17) := ⟨⟨by decide +kernel, by decide +kernel⟩, List.mem_of_getElem? (i := 705) (by decide +kernel), List.mem_of_getElem? (i := 995) (by decide +kernel), List.mem_of_getElem? (i := 996) (by decide +kernel)⟩
theorem lw_p38 : lw_okq (⟨"WindRotaModel", "isByte", "(III)Z"⟩, 17) := ⟨⟨by decide +kernel, by decide +kernel⟩, List.mem_of_getElem? (i := 705) (by decide +kernel), List.mem_of_getElem? (i := 999) (by decide +kernel), List.mem_of_getElem? (i := 1000) (by decide +kernel)⟩
theorem lw_p39 : lw_okq (⟨"WindRotaModel", "wordHere", "()I"⟩, 17) := ⟨⟨by decide +kernel, by decide +kernel⟩, List.mem_of_getElem? (i := 705) (by decide +kernel), List.mem_of_getElem? (i := 1003) (by decide +kernel), List.mem_of_getElem? (i := 1004) (by decide +kernel)⟩
theorem lw_p40 : lw_okq (⟨"WindRotaModel", "isName", "(II)Z"⟩, 17) := ⟨⟨by decide +kernel, by decide +kernel⟩, List.mem_of_getElem? (i := 705) (by decide +kernel), List.mem_of_getElem? (i := 1007) (by decide +kernel), List.mem_of_getElem? (i := 1008) (by decide +kernel)⟩
theorem lw_p41 : lw_okq (⟨"WindRotaModel", "item", "()V"⟩, 17) := ⟨⟨by decide +kernel, by decide +kernel⟩, List.mem_of_getElem? (i := 705) (by decide +kernel), List.mem_of_getElem? (i := 1013) (by decide +kernel), List.mem_of_getElem? (i := 1014) (by decide +kernel)⟩
theorem lw_p42 : lw_okq (⟨"WindRotaModel", "thingItem", "()V"⟩, 17) := ⟨⟨by decide +kernel, by decide +kernel⟩, List.mem_of_getElem? (i := 705) (by decide +kernel), List.mem_of_getElem? (i := 1017) (by decide +kernel), List.mem_of_getElem? (i := 1018) (by decide +kernel)⟩
theorem lw_p43 : lw_okq (⟨"WindRotaModel", "passes", "(I)Z"⟩, 17) := ⟨⟨by decide +kernel, by decide +kernel⟩, List.mem_of_getElem? (i := 705) (by decide +kernel), List.mem_of_getElem? (i := 1021) (by decide +kernel), List.mem_of_getElem? (i := 1022) (by decide +kernel)⟩
theorem lw_p44 : lw_okq (⟨"WindRotaModel", "number", "(II)I"⟩, 17) := ⟨⟨by decide +kernel, by decide +kernel⟩, List.mem_of_getElem? (i := 705) (by decide +kernel), List.mem_of_getElem? (i := 1025) (by decide +kernel), List.mem_of_getElem? (i := 1026) (by decide +kernel)⟩
theorem lw_p45 : lw_okq (⟨"WindRotaModel", "perhaps", "(IIII)I"⟩, 17) := ⟨⟨by decide +kernel, by decide +kernel⟩, List.mem_of_getElem? (i := 705) (by decide +kernel), List.mem_of_getElem? (i := 1029) (by decide +kernel), List.mem_of_getElem? (i := 1030) (by decide +kernel)⟩
theorem lw_p46 : lw_okq (⟨"WindRotaModel", "rotaItem", "()V"⟩, 17) := ⟨⟨by decide +kernel, by decide +kernel⟩, List.mem_of_getElem? (i := 705) (by decide +kernel), List.mem_of_getElem? (i := 1033) (by decide +kernel), List.mem_of_getElem? (i := 1034) (by decide +kernel)⟩
theorem lw_p47 : lw_okq (⟨"WindRotaModel", "notThere", "(I)I"⟩, 17) := ⟨⟨by decide +kernel, by decide +kernel⟩, List.mem_of_getElem? (i := 705) (by decide +kernel), List.mem_of_getElem? (i := 1049) (by decide +kernel), List.mem_of_getElem? (i := 1050) (by decide +kernel)⟩
def lw_privs_3 : List (MethodName × Nat) := [(⟨"WindRotaModel", "begins", "(I)V"⟩, 17), (⟨"WindRotaModel", "dayOn", "(II)V"⟩, 17), (⟨"WindRotaModel", "cheaper", "(II)V"⟩, 17), (⟨"WindRotaModel", "gainOn", "(I)I"⟩, 17), (⟨"WindRotaModel", "bestAt", "(III)I"⟩, 17), (⟨"WindRotaModel", "reads", "()V"⟩, 17), (⟨"WindRotaModel", "isByte", "(III)Z"⟩, 17), (⟨"WindRotaModel", "wordHere", "()I"⟩, 17), (⟨"WindRotaModel", "isName", "(II)Z"⟩, 17), (⟨"WindRotaModel", "item", "()V"⟩, 17), (⟨"WindRotaModel", "thingItem", "()V"⟩, 17), (⟨"WindRotaModel", "passes", "(I)Z"⟩, 17), (⟨"WindRotaModel", "number", "(II)I"⟩, 17), (⟨"WindRotaModel", "perhaps", "(IIII)I"⟩, 17), (⟨"WindRotaModel", "rotaItem", "()V"⟩, 17), (⟨"WindRotaModel", "notThere", "(I)I"⟩, 17)]
theorem lw_r3 : ∀ q ∈ lw_privs_3, lw_okq q := List.forall_mem_cons.mpr ⟨lw_p32, List.forall_mem_cons.mpr ⟨lw_p33, List.forall_mem_cons.mpr ⟨lw_p34, List.forall_mem_cons.mpr ⟨lw_p35, List.forall_mem_cons.mpr ⟨lw_p36, List.forall_mem_cons.mpr ⟨lw_p37, List.forall_mem_cons.mpr ⟨lw_p38, List.forall_mem_cons.mpr ⟨lw_p39, List.forall_mem_cons.mpr ⟨lw_p40, List.forall_mem_cons.mpr ⟨lw_p41, List.forall_mem_cons.mpr ⟨lw_p42, List.forall_mem_cons.mpr ⟨lw_p43, List.forall_mem_cons.mpr ⟨lw_p44, List.forall_mem_cons.mpr ⟨lw_p45, List.forall_mem_cons.mpr ⟨lw_p46, List.forall_mem_cons.mpr ⟨lw_p47, fun _ h => absurd h List.not_mem_nil⟩⟩⟩⟩⟩⟩⟩⟩⟩⟩⟩⟩⟩⟩⟩⟩
theorem lw_p48 : lw_okq (⟨"WindRotaModel", "notCopied", "(IIIII)I"⟩, 17) := ⟨⟨by decide +kernel, by decide +kernel⟩, List.mem_of_getElem? (i := 705) (by decide +kernel), List.mem_of_getElem? (i := 1061) (by decide +kernel), List.mem_of_getElem? (i := 1062) (by decide +kernel)⟩
theorem lw_p49 : lw_okq (⟨"WindRotaModel", "notAsked", "(II)I"⟩, 17) := ⟨⟨by decide +kernel, by decide +kernel⟩, List.mem_of_getElem? (i := 705) (by decide +kernel), List.mem_of_getElem? (i := 1073) (by decide +kernel), List.mem_of_getElem? (i := 1074) (by decide +kernel)⟩
theorem lw_p50 : lw_okq (⟨"WindRotaModel", "isBook", "(II)Z"⟩, 17) := ⟨⟨by decide +kernel, by decide +kernel⟩, List.mem_of_getElem? (i := 705) (by decide +kernel), List.mem_of_getElem? (i := 1081) (by decide +kernel), List.mem_of_getElem? (i := 1082) (by decide +kernel)⟩
theorem lw_p51 : lw_okq (⟨"WindRotaModel", "sickOnes", "()I"⟩, 17) := ⟨⟨by decide +kernel, by decide +kernel⟩, List.mem_of_getElem? (i := 705) (by decide +kernel), List.mem_of_getElem? (i := 1101) (by decide +kernel), List.mem_of_getElem? (i := 1102) (by decide +kernel)⟩
theorem lw_p52 : lw_okq (⟨"WindRotaModel", "calms", "()I"⟩, 17) := ⟨⟨by decide +kernel, by decide +kernel⟩, List.mem_of_getElem? (i := 705) (by decide +kernel), List.mem_of_getElem? (i := 1105) (by decide +kernel), List.mem_of_getElem? (i := 1106) (by decide +kernel)⟩
def lw_privs_4 : List (MethodName × Nat) := [(⟨"WindRotaModel", "notCopied", "(IIIII)I"⟩, 17), (⟨"WindRotaModel", "notAsked", "(II)I"⟩, 17), (⟨"WindRotaModel", "isBook", "(II)Z"⟩, 17), (⟨"WindRotaModel", "sickOnes", "()I"⟩, 17), (⟨"WindRotaModel", "calms", "()I"⟩, 17)]
theorem lw_r4 : ∀ q ∈ lw_privs_4, lw_okq q := List.forall_mem_cons.mpr ⟨lw_p48, List.forall_mem_cons.mpr ⟨lw_p49, List.forall_mem_cons.mpr ⟨lw_p50, List.forall_mem_cons.mpr ⟨lw_p51, List.forall_mem_cons.mpr ⟨lw_p52, fun _ h => absurd h List.not_mem_nil⟩⟩⟩⟩⟩
def lw_privs : List (MethodName × Nat) := lw_privs_1 ++ (lw_privs_2 ++ (lw_privs_3 ++ (lw_privs_4)))
def lw_tbl : List Cond := k2_sels lw_privs ++ tables_1
theorem lw_privs_ok : ∀ q ∈ lw_privs, lw_okq q := by
  show ∀ q ∈ lw_privs_1 ++ (lw_privs_2 ++ (lw_privs_3 ++ (lw_privs_4))), lw_okq q
  exact List.forall_mem_append.mpr ⟨lw_r1, List.forall_mem_append.mpr ⟨lw_r2, List.forall_mem_append.mpr ⟨lw_r3, lw_r4⟩⟩⟩
end
section
def RX0 : String := "WindRota$Pick"
def TX0 : u_T := fun k => match k with
  | 0 => ("WindRota$Pick", "found", "I", false)
  | _ => ("WindRota$Pick", "most", "I", false)
def tyX0 : Nat → FieldType := fun k => match k with
  | 0 => .int
  | _ => .int
abbrev wsX00 : List Cond := u_ws RX0 TX0 2
theorem nmX0 : ∀ a, a < 2 → ∀ b, b < 2 → a ≠ b → (TX0 a).2.1 ≠ (TX0 b).2.1 := by decide +kernel
theorem tyX0_ok : ∀ k, k < 2 → parseFieldDescriptor (TX0 k).2.2.1 = some (tyX0 k) := by decide +kernel
abbrev cX0_init : ByteArray := prog_2_method_1_code
def yX0_init : MethodName := ⟨RX0, "<init>", "()V"⟩
abbrev cX0_begin : ByteArray := prog_2_method_2_code
def yX0_begin : MethodName := ⟨RX0, "begin", "(I)V"⟩
abbrev cX0_weigh : ByteArray := prog_2_method_3_code
def yX0_weigh : MethodName := ⟨RX0, "weigh", "(II)V"⟩
def RX1 : String := "WindRota$Sea"
def TX1 : u_T := fun k => match k with
  | 0 => ("WindRota$Sea", "day", "I", false)
  | 1 => ("WindRota$Sea", "rota", "[I", true)
  | 2 => ("WindRota$Sea", "sick", "I", false)
  | 3 => ("WindRota$Sea", "force", "I", false)
  | 4 => ("WindRota$Sea", "count", "I", false)
  | _ => ("WindRota$Sea", "things", "[LWindRota$Thing;", true)
def tyX1 : Nat → FieldType := fun k => match k with
  | 0 => .int
  | 1 => .array .int
  | 2 => .int
  | 3 => .int
  | 4 => .int
  | _ => .array (.object "WindRota$Thing")
abbrev wsX10 : List Cond := u_ws RX1 TX1 6
theorem nmX1 : ∀ a, a < 6 → ∀ b, b < 6 → a ≠ b → (TX1 a).2.1 ≠ (TX1 b).2.1 := by decide +kernel
theorem tyX1_ok : ∀ k, k < 6 → parseFieldDescriptor (TX1 k).2.2.1 = some (tyX1 k) := by decide +kernel
abbrev cX1_init : ByteArray := prog_3_method_1_code
def yX1_init : MethodName := ⟨RX1, "<init>", "()V"⟩
abbrev cX1_become : ByteArray := prog_3_method_2_code
def yX1_become : MethodName := ⟨RX1, "become", "(LWindRota$Sea;)V"⟩
abbrev cX1_has : ByteArray := prog_3_method_3_code
def yX1_has : MethodName := ⟨RX1, "has", "(I)Z"⟩
abbrev cX1_isFull : ByteArray := prog_3_method_4_code
def yX1_isFull : MethodName := ⟨RX1, "isFull", "()Z"⟩
abbrev cX1_add : ByteArray := prog_3_method_5_code
def yX1_add : MethodName := ⟨RX1, "add", "(III)V"⟩
abbrev cX1_isSick : ByteArray := prog_3_method_6_code
def yX1_isSick : MethodName := ⟨RX1, "isSick", "(I)Z"⟩
abbrev cX1_makeSick : ByteArray := prog_3_method_7_code
def yX1_makeSick : MethodName := ⟨RX1, "makeSick", "(IZ)V"⟩
abbrev cX1_calms : ByteArray := prog_3_method_8_code
def yX1_calms : MethodName := ⟨RX1, "calms", "()I"⟩
abbrev cX1_windOn : ByteArray := prog_3_method_9_code
def yX1_windOn : MethodName := ⟨RX1, "windOn", "(I)I"⟩
abbrev cX1_sums : ByteArray := prog_3_method_10_code
def yX1_sums : MethodName := ⟨RX1, "sums", "()I"⟩
abbrev cX1_earningsToday : ByteArray := prog_3_method_11_code
def yX1_earningsToday : MethodName := ⟨RX1, "earningsToday", "()I"⟩
abbrev cX1_goingToday : ByteArray := prog_3_method_12_code
def yX1_goingToday : MethodName := ⟨RX1, "goingToday", "()I"⟩
abbrev cX1_goDay : ByteArray := prog_3_method_13_code
def yX1_goDay : MethodName := ⟨RX1, "goDay", "(I)V"⟩
abbrev cX1_gainIn : ByteArray := prog_3_method_14_code
def yX1_gainIn : MethodName := ⟨RX1, "gainIn", "(I)I"⟩
abbrev cX1_carry : ByteArray := prog_3_method_15_code
def yX1_carry : MethodName := ⟨RX1, "carry", "(LWindRota$Thing;I)V"⟩
def RX2 : String := "WindRota$Sheet"
def TX2 : u_T := fun k => match k with
  | 0 => ("WindRota$Sheet", "bits", "I", false)
  | 1 => ("WindRota$Sheet", "size", "I", false)
  | _ => ("WindRota$Sheet", "numbers", "[J", true)
def tyX2 : Nat → FieldType := fun k => match k with
  | 0 => .int
  | 1 => .int
  | _ => .array .long
abbrev wsX20 : List Cond := u_ws RX2 TX2 3
theorem nmX2 : ∀ a, a < 3 → ∀ b, b < 3 → a ≠ b → (TX2 a).2.1 ≠ (TX2 b).2.1 := by decide +kernel
theorem tyX2_ok : ∀ k, k < 3 → parseFieldDescriptor (TX2 k).2.2.1 = some (tyX2 k) := by decide +kernel
abbrev cX2_init : ByteArray := prog_4_method_1_code
def yX2_init : MethodName := ⟨RX2, "<init>", "()V"⟩
abbrev cX2_begin : ByteArray := prog_4_method_2_code
def yX2_begin : MethodName := ⟨RX2, "begin", "(II)V"⟩
abbrev cX2_isMissing : ByteArray := prog_4_method_3_code
def yX2_isMissing : MethodName := ⟨RX2, "isMissing", "()Z"⟩
abbrev cX2_spans : ByteArray := prog_4_method_4_code
def yX2_spans : MethodName := ⟨RX2, "spans", "(II)Z"⟩
abbrev cX2_put : ByteArray := prog_4_method_5_code
def yX2_put : MethodName := ⟨RX2, "put", "(IJ)V"⟩
abbrev cX2_lowest : ByteArray := prog_4_method_6_code
def yX2_lowest : MethodName := ⟨RX2, "lowest", "(J)J"⟩
def RX3 : String := "WindRota$Tape"
def TX3 : u_T := fun k => match k with
  | 0 => ("WindRota$Tape", "bytes", "[I", true)
  | 1 => ("WindRota$Tape", "length", "I", false)
  | 2 => ("WindRota$Tape", "token", "I", false)
  | 3 => ("WindRota$Tape", "place", "I", false)
  | _ => ("WindRota$Tape", "behind", "I", false)
def tyX3 : Nat → FieldType := fun k => match k with
  | 0 => .array .int
  | 1 => .int
  | 2 => .int
  | 3 => .int
  | _ => .int
abbrev wsX30 : List Cond := u_ws RX3 TX3 5
theorem nmX3 : ∀ a, a < 5 → ∀ b, b < 5 → a ≠ b → (TX3 a).2.1 ≠ (TX3 b).2.1 := by decide +kernel
theorem tyX3_ok : ∀ k, k < 5 → parseFieldDescriptor (TX3 k).2.2.1 = some (tyX3 k) := by decide +kernel
abbrev cX3_init : ByteArray := prog_5_method_1_code
def yX3_init : MethodName := ⟨RX3, "<init>", "()V"⟩
abbrev cX3_put : ByteArray := prog_5_method_2_code
def yX3_put : MethodName := ⟨RX3, "put", "(I)V"⟩
abbrev cX3_begin : ByteArray := prog_5_method_3_code
def yX3_begin : MethodName := ⟨RX3, "begin", "()V"⟩
abbrev cX3_nextToken : ByteArray := prog_5_method_4_code
def yX3_nextToken : MethodName := ⟨RX3, "nextToken", "()V"⟩
abbrev cX3_isWord : ByteArray := prog_5_method_5_code
def yX3_isWord : MethodName := ⟨RX3, "isWord", "(Ljava/lang/String;)Z"⟩
abbrev cX3_number : ByteArray := prog_5_method_6_code
def yX3_number : MethodName := ⟨RX3, "number", "()I"⟩
abbrev cX3_tokenOf : ByteArray := prog_5_method_7_code
def yX3_tokenOf : MethodName := ⟨RX3, "tokenOf", "(I)I"⟩
def RX4 : String := "WindRota$Teller"
def TX4 : u_T := fun k => match k with
  | _ => ("WindRota$Teller", "tape", "LWindRota$Tape;", true)
def tyX4 : Nat → FieldType := fun k => match k with
  | _ => .object "WindRota$Tape"
abbrev wsX40 : List Cond := u_ws RX4 TX4 1
theorem nmX4 : ∀ a, a < 1 → ∀ b, b < 1 → a ≠ b → (TX4 a).2.1 ≠ (TX4 b).2.1 := by decide +kernel
theorem tyX4_ok : ∀ k, k < 1 → parseFieldDescriptor (TX4 k).2.2.1 = some (tyX4 k) := by decide +kernel
abbrev cX4_init : ByteArray := prog_6_method_1_code
def yX4_init : MethodName := ⟨RX4, "<init>", "(LWindRota$Tape;)V"⟩
abbrev cX4_tell : ByteArray := prog_6_method_2_code
def yX4_tell : MethodName := ⟨RX4, "tell", "(LWindRota$Sea;)I"⟩
abbrev cX4_tellItem : ByteArray := prog_6_method_3_code
def yX4_tellItem : MethodName := ⟨RX4, "tellItem", "(LWindRota$Sea;)Z"⟩
abbrev cX4_tellThing : ByteArray := prog_6_method_4_code
def yX4_tellThing : MethodName := ⟨RX4, "tellThing", "(LWindRota$Sea;I)Z"⟩
abbrev cX4_tellRota : ByteArray := prog_6_method_5_code
def yX4_tellRota : MethodName := ⟨RX4, "tellRota", "(LWindRota$Sea;)Z"⟩
abbrev cX4_tellHealth : ByteArray := prog_6_method_6_code
def yX4_tellHealth : MethodName := ⟨RX4, "tellHealth", "(LWindRota$Sea;Z)Z"⟩
abbrev cX4_tellForce : ByteArray := prog_6_method_7_code
def yX4_tellForce : MethodName := ⟨RX4, "tellForce", "(LWindRota$Sea;)Z"⟩
abbrev cX4_kindNamed : ByteArray := prog_6_method_8_code
def yX4_kindNamed : MethodName := ⟨RX4, "kindNamed", "()I"⟩
abbrev cX4_nameOf : ByteArray := prog_6_method_9_code
def yX4_nameOf : MethodName := ⟨RX4, "nameOf", "(I)Ljava/lang/String;"⟩
abbrev cX4_takesWord : ByteArray := prog_6_method_10_code
def yX4_takesWord : MethodName := ⟨RX4, "takesWord", "(Ljava/lang/String;)Z"⟩
abbrev cX4_takenNumber : ByteArray := prog_6_method_11_code
def yX4_takenNumber : MethodName := ⟨RX4, "takenNumber", "(I)I"⟩
def RX5 : String := "WindRota$Thing"
def TX5 : u_T := fun k => match k with
  | 0 => ("WindRota$Thing", "kind", "I", false)
  | 1 => ("WindRota$Thing", "cell", "I", false)
  | 2 => ("WindRota$Thing", "facing", "I", false)
  | _ => ("WindRota$Thing", "sum", "I", false)
def tyX5 : Nat → FieldType := fun k => match k with
  | 0 => .int
  | 1 => .int
  | 2 => .int
  | _ => .int
abbrev wsX50 : List Cond := u_ws RX5 TX5 4
theorem nmX5 : ∀ a, a < 4 → ∀ b, b < 4 → a ≠ b → (TX5 a).2.1 ≠ (TX5 b).2.1 := by decide +kernel
theorem tyX5_ok : ∀ k, k < 4 → parseFieldDescriptor (TX5 k).2.2.1 = some (tyX5 k) := by decide +kernel
abbrev cX5_init : ByteArray := prog_7_method_1_code
def yX5_init : MethodName := ⟨RX5, "<init>", "()V"⟩
abbrev cX5_become : ByteArray := prog_7_method_2_code
def yX5_become : MethodName := ⟨RX5, "become", "(LWindRota$Thing;)V"⟩
abbrev cX5_earnings : ByteArray := prog_7_method_3_code
def yX5_earnings : MethodName := ⟨RX5, "earnings", "(III)I"⟩
abbrev cX5_isGoing : ByteArray := prog_7_method_4_code
def yX5_isGoing : MethodName := ⟨RX5, "isGoing", "(II)Z"⟩
abbrev cX5_cellAfter : ByteArray := prog_7_method_5_code
def yX5_cellAfter : MethodName := ⟨RX5, "cellAfter", "(III)I"⟩
abbrev cX5_goDay : ByteArray := prog_7_method_6_code
def yX5_goDay : MethodName := ⟨RX5, "goDay", "(III)V"⟩
abbrev cX5_off : ByteArray := prog_7_method_7_code
def yX5_off : MethodName := ⟨RX5, "off", "(I)I"⟩
def RX6 : String := "WindRota$Ways"
def TX6 : u_T := fun k => match k with
  | 0 => ("WindRota$Ways", "fewest", "[I", true)
  | _ => ("WindRota$Ways", "next", "[I", true)
def tyX6 : Nat → FieldType := fun k => match k with
  | 0 => .array .int
  | _ => .array .int
abbrev wsX60 : List Cond := u_ws RX6 TX6 2
theorem nmX6 : ∀ a, a < 2 → ∀ b, b < 2 → a ≠ b → (TX6 a).2.1 ≠ (TX6 b).2.1 := by decide +kernel
theorem tyX6_ok : ∀ k, k < 2 → parseFieldDescriptor (TX6 k).2.2.1 = some (tyX6 k) := by decide +kernel
abbrev cX6_init : ByteArray := prog_8_method_1_code
def yX6_init : MethodName := ⟨RX6, "<init>", "()V"⟩
abbrev cX6_begin : ByteArray := prog_8_method_2_code
def yX6_begin : MethodName := ⟨RX6, "begin", "(I)V"⟩
abbrev cX6_goDay : ByteArray := prog_8_method_3_code
def yX6_goDay : MethodName := ⟨RX6, "goDay", "(LWindRota$Thing;II)V"⟩
abbrev cX6_reached : ByteArray := prog_8_method_4_code
def yX6_reached : MethodName := ⟨RX6, "reached", "()J"⟩
abbrev cX6_lower : ByteArray := prog_8_method_5_code
def yX6_lower : MethodName := ⟨RX6, "lower", "(II)V"⟩
def RX7 : String := "WindRota"
def TX7 : u_T := fun k => match k with
  | 0 => ("WindRota", "sea", "LWindRota$Sea;", true)
  | 1 => ("WindRota", "trial", "LWindRota$Sea;", true)
  | 2 => ("WindRota", "kept", "LWindRota$Sea;", true)
  | 3 => ("WindRota", "isKept", "Z", false)
  | 4 => ("WindRota", "walker", "LWindRota$Thing;", true)
  | 5 => ("WindRota", "second", "LWindRota$Thing;", true)
  | 6 => ("WindRota", "ways", "LWindRota$Ways;", true)
  | 7 => ("WindRota", "pick", "LWindRota$Pick;", true)
  | 8 => ("WindRota", "tape", "LWindRota$Tape;", true)
  | 9 => ("WindRota", "teller", "LWindRota$Teller;", true)
  | 10 => ("WindRota", "sheets", "[LWindRota$Sheet;", true)
  | _ => ("WindRota", "told", "[I", true)
def tyX7 : Nat → FieldType := fun k => match k with
  | 0 => .object "WindRota$Sea"
  | 1 => .object "WindRota$Sea"
  | 2 => .object "WindRota$Sea"
  | 3 => .boolean
  | 4 => .object "WindRota$Thing"
  | 5 => .object "WindRota$Thing"
  | 6 => .object "WindRota$Ways"
  | 7 => .object "WindRota$Pick"
  | 8 => .object "WindRota$Tape"
  | 9 => .object "WindRota$Teller"
  | 10 => .array (.object "WindRota$Sheet")
  | _ => .array .int
abbrev wsX70 : List Cond := u_ws RX7 TX7 12
theorem nmX7 : ∀ a, a < 12 → ∀ b, b < 12 → a ≠ b → (TX7 a).2.1 ≠ (TX7 b).2.1 := by decide +kernel
theorem tyX7_ok : ∀ k, k < 12 → parseFieldDescriptor (TX7 k).2.2.1 = some (tyX7 k) := by decide +kernel
abbrev cX7_init : ByteArray := prog_1_method_1_code
def yX7_init : MethodName := ⟨RX7, "<init>", "()V"⟩
abbrev cX7_rota : ByteArray := prog_1_method_2_code
def yX7_rota : MethodName := ⟨RX7, "rota", "(II)I"⟩
abbrev cX7_rotaOf : ByteArray := prog_1_method_3_code
def yX7_rotaOf : MethodName := ⟨RX7, "rotaOf", "(I)I"⟩
abbrev cX7_sick : ByteArray := prog_1_method_4_code
def yX7_sick : MethodName := ⟨RX7, "sick", "(II)I"⟩
abbrev cX7_force : ByteArray := prog_1_method_5_code
def yX7_force : MethodName := ⟨RX7, "force", "(I)I"⟩
abbrev cX7_blows : ByteArray := prog_1_method_6_code
def yX7_blows : MethodName := ⟨RX7, "blows", "(I)I"⟩
abbrev cX7_lee : ByteArray := prog_1_method_7_code
def yX7_lee : MethodName := ⟨RX7, "lee", "(II)I"⟩
abbrev cX7_thing : ByteArray := prog_1_method_8_code
def yX7_thing : MethodName := ⟨RX7, "thing", "(II)I"⟩
abbrev cX7_of : ByteArray := prog_1_method_9_code
def yX7_of : MethodName := ⟨RX7, "of", "(II)I"⟩
abbrev cX7_set : ByteArray := prog_1_method_10_code
def yX7_set : MethodName := ⟨RX7, "set", "(III)I"⟩
abbrev cX7_turn : ByteArray := prog_1_method_11_code
def yX7_turn : MethodName := ⟨RX7, "turn", "(II)I"⟩
abbrev cX7_as : ByteArray := prog_1_method_12_code
def yX7_as : MethodName := ⟨RX7, "as", "(II)I"⟩
abbrev cX7_days : ByteArray := prog_1_method_13_code
def yX7_days : MethodName := ⟨RX7, "days", "(I)I"⟩
abbrev cX7_bribe : ByteArray := prog_1_method_14_code
def yX7_bribe : MethodName := ⟨RX7, "bribe", "(I)I"⟩
abbrev cX7_now : ByteArray := prog_1_method_15_code
def yX7_now : MethodName := ⟨RX7, "now", "(I)I"⟩
abbrev cX7_on : ByteArray := prog_1_method_16_code
def yX7_on : MethodName := ⟨RX7, "on", "(III)I"⟩
abbrev cX7_comes : ByteArray := prog_1_method_17_code
def yX7_comes : MethodName := ⟨RX7, "comes", "(II)I"⟩
abbrev cX7_meet : ByteArray := prog_1_method_18_code
def yX7_meet : MethodName := ⟨RX7, "meet", "(II)I"⟩
abbrev cX7_bribes : ByteArray := prog_1_method_19_code
def yX7_bribes : MethodName := ⟨RX7, "bribes", "(III)I"⟩
abbrev cX7_soonest : ByteArray := prog_1_method_20_code
def yX7_soonest : MethodName := ⟨RX7, "soonest", "(III)I"⟩
abbrev cX7_reach : ByteArray := prog_1_method_21_code
def yX7_reach : MethodName := ⟨RX7, "reach", "(II)J"⟩
abbrev cX7_swap : ByteArray := prog_1_method_22_code
def yX7_swap : MethodName := ⟨RX7, "swap", "(I)I"⟩
abbrev cX7_missed : ByteArray := prog_1_method_23_code
def yX7_missed : MethodName := ⟨RX7, "missed", "(I)I"⟩
abbrev cX7_enough : ByteArray := prog_1_method_24_code
def yX7_enough : MethodName := ⟨RX7, "enough", "(II)I"⟩
abbrev cX7_kind : ByteArray := prog_1_method_25_code
def yX7_kind : MethodName := ⟨RX7, "kind", "(II)I"⟩
abbrev cX7_facing : ByteArray := prog_1_method_26_code
def yX7_facing : MethodName := ⟨RX7, "facing", "(II)I"⟩
abbrev cX7_best : ByteArray := prog_1_method_27_code
def yX7_best : MethodName := ⟨RX7, "best", "(II)I"⟩
abbrev cX7_feed : ByteArray := prog_1_method_28_code
def yX7_feed : MethodName := ⟨RX7, "feed", "(II)I"⟩
abbrev cX7_wipe : ByteArray := prog_1_method_29_code
def yX7_wipe : MethodName := ⟨RX7, "wipe", "()I"⟩
abbrev cX7_sea : ByteArray := prog_1_method_30_code
def yX7_sea : MethodName := ⟨RX7, "sea", "()I"⟩
abbrev cX7_sheet : ByteArray := prog_1_method_31_code
def yX7_sheet : MethodName := ⟨RX7, "sheet", "(III)I"⟩
abbrev cX7_write : ByteArray := prog_1_method_32_code
def yX7_write : MethodName := ⟨RX7, "write", "(IIJ)J"⟩
abbrev cX7_copy : ByteArray := prog_1_method_33_code
def yX7_copy : MethodName := ⟨RX7, "copy", "(IIIII)I"⟩
abbrev cX7_lays : ByteArray := prog_1_method_34_code
def yX7_lays : MethodName := ⟨RX7, "lays", "(I)I"⟩
abbrev cX7_book : ByteArray := prog_1_method_35_code
def yX7_book : MethodName := ⟨RX7, "book", "(II)I"⟩
abbrev cX7_read : ByteArray := prog_1_method_36_code
def yX7_read : MethodName := ⟨RX7, "read", "(II)I"⟩
abbrev cX7_image : ByteArray := prog_1_method_37_code
def yX7_image : MethodName := ⟨RX7, "image", "()I"⟩
abbrev cX7_undo : ByteArray := prog_1_method_38_code
def yX7_undo : MethodName := ⟨RX7, "undo", "()I"⟩
abbrev cX7_tear : ByteArray := prog_1_method_39_code
def yX7_tear : MethodName := ⟨RX7, "tear", "()I"⟩
abbrev cX7_count : ByteArray := prog_1_method_40_code
def yX7_count : MethodName := ⟨RX7, "count", "(I)I"⟩
abbrev cX7_status : ByteArray := prog_1_method_41_code
def yX7_status : MethodName := ⟨RX7, "status", "(I)I"⟩
abbrev cX7_finding : ByteArray := prog_1_method_42_code
def yX7_finding : MethodName := ⟨RX7, "finding", "(I)I"⟩
abbrev cX7_sheetFinding : ByteArray := prog_1_method_43_code
def yX7_sheetFinding : MethodName := ⟨RX7, "sheetFinding", "(II)I"⟩
abbrev cX7_walkerMakes : ByteArray := prog_1_method_44_code
def yX7_walkerMakes : MethodName := ⟨RX7, "walkerMakes", "(LWindRota$Sheet;)Z"⟩
abbrev cX7_within : ByteArray := prog_1_method_45_code
def yX7_within : MethodName := ⟨RX7, "within", "(II)Z"⟩
abbrev cX7_isSpan : ByteArray := prog_1_method_46_code
def yX7_isSpan : MethodName := ⟨RX7, "isSpan", "(II)Z"⟩
abbrev cX7_mostOf : ByteArray := prog_1_method_47_code
def yX7_mostOf : MethodName := ⟨RX7, "mostOf", "(I)I"⟩
abbrev cX7_kindAbove : ByteArray := prog_1_method_48_code
def yX7_kindAbove : MethodName := ⟨RX7, "kindAbove", "(I)I"⟩
abbrev cX7_isUnder : ByteArray := prog_1_method_49_code
def yX7_isUnder : MethodName := ⟨RX7, "isUnder", "(II)Z"⟩
abbrev cX7_cellBehind : ByteArray := prog_1_method_50_code
def yX7_cellBehind : MethodName := ⟨RX7, "cellBehind", "(II)I"⟩
def RX8 : String := "WindRotaModel"
def TX8 : u_T := fun k => match k with
  | 0 => ("WindRotaModel", "m", "[I", true)
  | 1 => ("WindRotaModel", "kept", "[I", true)
  | 2 => ("WindRotaModel", "was", "[I", true)
  | 3 => ("WindRotaModel", "isKept", "Z", false)
  | 4 => ("WindRotaModel", "found", "[I", true)
  | 5 => ("WindRotaModel", "cost", "[I", true)
  | 6 => ("WindRotaModel", "then", "[I", true)
  | 7 => ("WindRotaModel", "tape", "[I", true)
  | 8 => ("WindRotaModel", "taped", "I", false)
  | 9 => ("WindRotaModel", "token", "I", false)
  | 10 => ("WindRotaModel", "begin", "I", false)
  | 11 => ("WindRotaModel", "at", "I", false)
  | 12 => ("WindRotaModel", "value", "I", false)
  | 13 => ("WindRotaModel", "bad", "Z", false)
  | 14 => ("WindRotaModel", "bitsOf", "[I", true)
  | 15 => ("WindRotaModel", "sizeOf", "[I", true)
  | _ => ("WindRotaModel", "cells", "[J", true)
def tyX8 : Nat → FieldType := fun k => match k with
  | 0 => .array .int
  | 1 => .array .int
  | 2 => .array .int
  | 3 => .boolean
  | 4 => .array .int
  | 5 => .array .int
  | 6 => .array .int
  | 7 => .array .int
  | 8 => .int
  | 9 => .int
  | 10 => .int
  | 11 => .int
  | 12 => .int
  | 13 => .boolean
  | 14 => .array .int
  | 15 => .array .int
  | _ => .array .long
abbrev wsX80 : List Cond := u_ws RX8 TX8 17
theorem nmX8 : ∀ a, a < 17 → ∀ b, b < 17 → a ≠ b → (TX8 a).2.1 ≠ (TX8 b).2.1 := by decide +kernel
theorem tyX8_ok : ∀ k, k < 17 → parseFieldDescriptor (TX8 k).2.2.1 = some (tyX8 k) := by decide +kernel
abbrev cX8_init : ByteArray := prog_10_method_1_code
def yX8_init : MethodName := ⟨RX8, "<init>", "()V"⟩
abbrev cX8_finds : ByteArray := prog_10_method_2_code
def yX8_finds : MethodName := ⟨RX8, "finds", "(I)I"⟩
abbrev cX8_orNone : ByteArray := prog_10_method_3_code
def yX8_orNone : MethodName := ⟨RX8, "orNone", "(I)I"⟩
abbrev cX8_in : ByteArray := prog_10_method_4_code
def yX8_in : MethodName := ⟨RX8, "in", "(JII)Z"⟩
abbrev cX8_held : ByteArray := prog_10_method_5_code
def yX8_held : MethodName := ⟨RX8, "held", "(III)I"⟩
abbrev cX8_copyAll : ByteArray := prog_10_method_6_code
def yX8_copyAll : MethodName := ⟨RX8, "copyAll", "([I[I)V"⟩
abbrev cX8_becomes : ByteArray := prog_10_method_7_code
def yX8_becomes : MethodName := ⟨RX8, "becomes", "(II)I"⟩
abbrev cX8_isThing : ByteArray := prog_10_method_8_code
def yX8_isThing : MethodName := ⟨RX8, "isThing", "(I)Z"⟩
abbrev cX8_isCell : ByteArray := prog_10_method_9_code
def yX8_isCell : MethodName := ⟨RX8, "isCell", "(I)Z"⟩
abbrev cX8_isWind : ByteArray := prog_10_method_10_code
def yX8_isWind : MethodName := ⟨RX8, "isWind", "(I)Z"⟩
abbrev cX8_it : ByteArray := prog_10_method_11_code
def yX8_it : MethodName := ⟨RX8, "it", "(II)I"⟩
abbrev cX8_put : ByteArray := prog_10_method_12_code
def yX8_put : MethodName := ⟨RX8, "put", "(III)V"⟩
abbrev cX8_blowing : ByteArray := prog_10_method_13_code
def yX8_blowing : MethodName := ⟨RX8, "blowing", "(I)I"⟩
abbrev cX8_blownTo : ByteArray := prog_10_method_14_code
def yX8_blownTo : MethodName := ⟨RX8, "blownTo", "(II)I"⟩
abbrev cX8_rota : ByteArray := prog_10_method_15_code
def yX8_rota : MethodName := ⟨RX8, "rota", "(II)I"⟩
abbrev cX8_rotaOf : ByteArray := prog_10_method_16_code
def yX8_rotaOf : MethodName := ⟨RX8, "rotaOf", "(I)I"⟩
abbrev cX8_ails : ByteArray := prog_10_method_17_code
def yX8_ails : MethodName := ⟨RX8, "ails", "(II)V"⟩
abbrev cX8_sick : ByteArray := prog_10_method_18_code
def yX8_sick : MethodName := ⟨RX8, "sick", "(II)I"⟩
abbrev cX8_force : ByteArray := prog_10_method_19_code
def yX8_force : MethodName := ⟨RX8, "force", "(I)I"⟩
abbrev cX8_blows : ByteArray := prog_10_method_20_code
def yX8_blows : MethodName := ⟨RX8, "blows", "(I)I"⟩
abbrev cX8_lee : ByteArray := prog_10_method_21_code
def yX8_lee : MethodName := ⟨RX8, "lee", "(II)I"⟩
abbrev cX8_off : ByteArray := prog_10_method_22_code
def yX8_off : MethodName := ⟨RX8, "off", "(II)I"⟩
abbrev cX8_doesGo : ByteArray := prog_10_method_23_code
def yX8_doesGo : MethodName := ⟨RX8, "doesGo", "(II)Z"⟩
abbrev cX8_earns : ByteArray := prog_10_method_24_code
def yX8_earns : MethodName := ⟨RX8, "earns", "(II)I"⟩
abbrev cX8_wentTo : ByteArray := prog_10_method_25_code
def yX8_wentTo : MethodName := ⟨RX8, "wentTo", "(III)I"⟩
abbrev cX8_comesAt : ByteArray := prog_10_method_26_code
def yX8_comesAt : MethodName := ⟨RX8, "comesAt", "(III)I"⟩
abbrev cX8_thing : ByteArray := prog_10_method_27_code
def yX8_thing : MethodName := ⟨RX8, "thing", "(II)I"⟩
abbrev cX8_of : ByteArray := prog_10_method_28_code
def yX8_of : MethodName := ⟨RX8, "of", "(II)I"⟩
abbrev cX8_set : ByteArray := prog_10_method_29_code
def yX8_set : MethodName := ⟨RX8, "set", "(III)I"⟩
abbrev cX8_turn : ByteArray := prog_10_method_30_code
def yX8_turn : MethodName := ⟨RX8, "turn", "(II)I"⟩
abbrev cX8_as : ByteArray := prog_10_method_31_code
def yX8_as : MethodName := ⟨RX8, "as", "(II)I"⟩
abbrev cX8_goes : ByteArray := prog_10_method_32_code
def yX8_goes : MethodName := ⟨RX8, "goes", "(I)V"⟩
abbrev cX8_day : ByteArray := prog_10_method_33_code
def yX8_day : MethodName := ⟨RX8, "day", "()V"⟩
abbrev cX8_sums : ByteArray := prog_10_method_34_code
def yX8_sums : MethodName := ⟨RX8, "sums", "()I"⟩
abbrev cX8_days : ByteArray := prog_10_method_35_code
def yX8_days : MethodName := ⟨RX8, "days", "(I)I"⟩
abbrev cX8_bribe : ByteArray := prog_10_method_36_code
def yX8_bribe : MethodName := ⟨RX8, "bribe", "(I)I"⟩
abbrev cX8_now : ByteArray := prog_10_method_37_code
def yX8_now : MethodName := ⟨RX8, "now", "(I)I"⟩
abbrev cX8_thinks : ByteArray := prog_10_method_38_code
def yX8_thinks : MethodName := ⟨RX8, "thinks", "()V"⟩
abbrev cX8_putsBack : ByteArray := prog_10_method_39_code
def yX8_putsBack : MethodName := ⟨RX8, "putsBack", "()V"⟩
abbrev cX8_on : ByteArray := prog_10_method_40_code
def yX8_on : MethodName := ⟨RX8, "on", "(III)I"⟩
abbrev cX8_comes : ByteArray := prog_10_method_41_code
def yX8_comes : MethodName := ⟨RX8, "comes", "(II)I"⟩
abbrev cX8_meet : ByteArray := prog_10_method_42_code
def yX8_meet : MethodName := ⟨RX8, "meet", "(II)I"⟩
abbrev cX8_begins : ByteArray := prog_10_method_43_code
def yX8_begins : MethodName := ⟨RX8, "begins", "(I)V"⟩
abbrev cX8_cheaper : ByteArray := prog_10_method_44_code
def yX8_cheaper : MethodName := ⟨RX8, "cheaper", "(II)V"⟩
abbrev cX8_dayOn : ByteArray := prog_10_method_45_code
def yX8_dayOn : MethodName := ⟨RX8, "dayOn", "(II)V"⟩
abbrev cX8_bribes : ByteArray := prog_10_method_46_code
def yX8_bribes : MethodName := ⟨RX8, "bribes", "(III)I"⟩
abbrev cX8_soonest : ByteArray := prog_10_method_47_code
def yX8_soonest : MethodName := ⟨RX8, "soonest", "(III)I"⟩
abbrev cX8_reach : ByteArray := prog_10_method_48_code
def yX8_reach : MethodName := ⟨RX8, "reach", "(II)J"⟩
abbrev cX8_gainOn : ByteArray := prog_10_method_49_code
def yX8_gainOn : MethodName := ⟨RX8, "gainOn", "(I)I"⟩
abbrev cX8_swap : ByteArray := prog_10_method_50_code
def yX8_swap : MethodName := ⟨RX8, "swap", "(I)I"⟩
abbrev cX8_missed : ByteArray := prog_10_method_51_code
def yX8_missed : MethodName := ⟨RX8, "missed", "(I)I"⟩
abbrev cX8_enough : ByteArray := prog_10_method_52_code
def yX8_enough : MethodName := ⟨RX8, "enough", "(II)I"⟩
abbrev cX8_bestAt : ByteArray := prog_10_method_53_code
def yX8_bestAt : MethodName := ⟨RX8, "bestAt", "(III)I"⟩
abbrev cX8_kind : ByteArray := prog_10_method_54_code
def yX8_kind : MethodName := ⟨RX8, "kind", "(II)I"⟩
abbrev cX8_facing : ByteArray := prog_10_method_55_code
def yX8_facing : MethodName := ⟨RX8, "facing", "(II)I"⟩
abbrev cX8_best : ByteArray := prog_10_method_56_code
def yX8_best : MethodName := ⟨RX8, "best", "(II)I"⟩
abbrev cX8_feed : ByteArray := prog_10_method_57_code
def yX8_feed : MethodName := ⟨RX8, "feed", "(II)I"⟩
abbrev cX8_wipe : ByteArray := prog_10_method_58_code
def yX8_wipe : MethodName := ⟨RX8, "wipe", "()I"⟩
abbrev cX8_isByte : ByteArray := prog_10_method_59_code
def yX8_isByte : MethodName := ⟨RX8, "isByte", "(III)Z"⟩
abbrev cX8_isName : ByteArray := prog_10_method_60_code
def yX8_isName : MethodName := ⟨RX8, "isName", "(II)Z"⟩
abbrev cX8_wordHere : ByteArray := prog_10_method_61_code
def yX8_wordHere : MethodName := ⟨RX8, "wordHere", "()I"⟩
abbrev cX8_reads : ByteArray := prog_10_method_62_code
def yX8_reads : MethodName := ⟨RX8, "reads", "()V"⟩
abbrev cX8_passes : ByteArray := prog_10_method_63_code
def yX8_passes : MethodName := ⟨RX8, "passes", "(I)Z"⟩
abbrev cX8_number : ByteArray := prog_10_method_64_code
def yX8_number : MethodName := ⟨RX8, "number", "(II)I"⟩
abbrev cX8_perhaps : ByteArray := prog_10_method_65_code
def yX8_perhaps : MethodName := ⟨RX8, "perhaps", "(IIII)I"⟩
abbrev cX8_thingItem : ByteArray := prog_10_method_66_code
def yX8_thingItem : MethodName := ⟨RX8, "thingItem", "()V"⟩
abbrev cX8_rotaItem : ByteArray := prog_10_method_67_code
def yX8_rotaItem : MethodName := ⟨RX8, "rotaItem", "()V"⟩
abbrev cX8_item : ByteArray := prog_10_method_68_code
def yX8_item : MethodName := ⟨RX8, "item", "()V"⟩
abbrev cX8_sea : ByteArray := prog_10_method_69_code
def yX8_sea : MethodName := ⟨RX8, "sea", "()I"⟩
abbrev cX8_isSheet : ByteArray := prog_10_method_70_code
def yX8_isSheet : MethodName := ⟨RX8, "isSheet", "(I)Z"⟩
abbrev cX8_sheet : ByteArray := prog_10_method_71_code
def yX8_sheet : MethodName := ⟨RX8, "sheet", "(III)I"⟩
abbrev cX8_notThere : ByteArray := prog_10_method_72_code
def yX8_notThere : MethodName := ⟨RX8, "notThere", "(I)I"⟩
abbrev cX8_cutTo : ByteArray := prog_10_method_73_code
def yX8_cutTo : MethodName := ⟨RX8, "cutTo", "(IJ)J"⟩
abbrev cX8_write : ByteArray := prog_10_method_74_code
def yX8_write : MethodName := ⟨RX8, "write", "(IIJ)J"⟩
abbrev cX8_notCopied : ByteArray := prog_10_method_75_code
def yX8_notCopied : MethodName := ⟨RX8, "notCopied", "(IIIII)I"⟩
abbrev cX8_copy : ByteArray := prog_10_method_76_code
def yX8_copy : MethodName := ⟨RX8, "copy", "(IIIII)I"⟩
abbrev cX8_lays : ByteArray := prog_10_method_77_code
def yX8_lays : MethodName := ⟨RX8, "lays", "(I)I"⟩
abbrev cX8_notAsked : ByteArray := prog_10_method_78_code
def yX8_notAsked : MethodName := ⟨RX8, "notAsked", "(II)I"⟩
abbrev cX8_book : ByteArray := prog_10_method_79_code
def yX8_book : MethodName := ⟨RX8, "book", "(II)I"⟩
abbrev cX8_isBook : ByteArray := prog_10_method_80_code
def yX8_isBook : MethodName := ⟨RX8, "isBook", "(II)Z"⟩
abbrev cX8_read : ByteArray := prog_10_method_81_code
def yX8_read : MethodName := ⟨RX8, "read", "(II)I"⟩
abbrev cX8_image : ByteArray := prog_10_method_82_code
def yX8_image : MethodName := ⟨RX8, "image", "()I"⟩
abbrev cX8_undo : ByteArray := prog_10_method_83_code
def yX8_undo : MethodName := ⟨RX8, "undo", "()I"⟩
abbrev cX8_tear : ByteArray := prog_10_method_84_code
def yX8_tear : MethodName := ⟨RX8, "tear", "()I"⟩
abbrev cX8_sickOnes : ByteArray := prog_10_method_85_code
def yX8_sickOnes : MethodName := ⟨RX8, "sickOnes", "()I"⟩
abbrev cX8_calms : ByteArray := prog_10_method_86_code
def yX8_calms : MethodName := ⟨RX8, "calms", "()I"⟩
abbrev cX8_count : ByteArray := prog_10_method_87_code
def yX8_count : MethodName := ⟨RX8, "count", "(I)I"⟩
abbrev cX8_status : ByteArray := prog_10_method_88_code
def yX8_status : MethodName := ⟨RX8, "status", "(I)I"⟩
def RJ6 : String := "java/lang/Integer"
def TJ6 : u_T := fun k => match k with
  | _ => ("", "", "", false)
def tyJ6 : Nat → FieldType := fun k => match k with
  | _ => .int
abbrev wsJ60 : List Cond := u_ws RJ6 TJ6 0
theorem nmJ6 : ∀ a, a < 0 → ∀ b, b < 0 → a ≠ b → (TJ6 a).2.1 ≠ (TJ6 b).2.1 := by decide +kernel
theorem tyJ6_ok : ∀ k, k < 0 → parseFieldDescriptor (TJ6 k).2.2.1 = some (tyJ6 k) := by decide +kernel
abbrev cJ6_bitCount_0f7a4 : ByteArray := prog_11_method_49_code
def yJ6_bitCount_0f7a4 : MethodName := ⟨RJ6, "bitCount", "(I)I"⟩
def RJ9 : String := "java/lang/Math"
def TJ9 : u_T := fun k => match k with
  | _ => ("", "", "", false)
def tyJ9 : Nat → FieldType := fun k => match k with
  | _ => .int
abbrev wsJ90 : List Cond := u_ws RJ9 TJ9 0
theorem nmJ9 : ∀ a, a < 0 → ∀ b, b < 0 → a ≠ b → (TJ9 a).2.1 ≠ (TJ9 b).2.1 := by decide +kernel
theorem tyJ9_ok : ∀ k, k < 0 → parseFieldDescriptor (TJ9 k).2.2.1 = some (tyJ9 k) := by decide +kernel
abbrev cJ9_floorMod_7cf53 : ByteArray := prog_12_method_50_code
def yJ9_floorMod_7cf53 : MethodName := ⟨RJ9, "floorMod", "(II)I"⟩
abbrev cJ9_max_7cf53 : ByteArray := prog_12_method_65_code
def yJ9_max_7cf53 : MethodName := ⟨RJ9, "max", "(II)I"⟩
abbrev cJ9_min_7cf53 : ByteArray := prog_12_method_69_code
def yJ9_min_7cf53 : MethodName := ⟨RJ9, "min", "(II)I"⟩
def RJ0 : String := "java/lang/String"
def TJ0 : u_T := fun k => match k with
  | _ => ("", "", "", false)
def tyJ0 : Nat → FieldType := fun k => match k with
  | _ => .int
abbrev wsJ00 : List Cond := u_ws RJ0 TJ0 0
theorem nmJ0 : ∀ a, a < 0 → ∀ b, b < 0 → a ≠ b → (TJ0 a).2.1 ≠ (TJ0 b).2.1 := by decide +kernel
theorem tyJ0_ok : ∀ k, k < 0 → parseFieldDescriptor (TJ0 k).2.2.1 = some (tyJ0 k) := by decide +kernel
abbrev cJ0_length_8abf5 : ByteArray := prog_13_method_54_code
def yJ0_length_8abf5 : MethodName := ⟨RJ0, "length", "()I"⟩
abbrev cJ0_charAt_5068e : ByteArray := prog_13_method_56_code
def yJ0_charAt_5068e : MethodName := ⟨RJ0, "charAt", "(I)C"⟩
abbrev cJ0_coder_7d493 : ByteArray := prog_13_method_152_code
def yJ0_coder_7d493 : MethodName := ⟨RJ0, "coder", "()B"⟩
abbrev cJ0_isLatin1_aae02 : ByteArray := prog_13_method_154_code
def yJ0_isLatin1_aae02 : MethodName := ⟨RJ0, "isLatin1", "()Z"⟩
abbrev cJ0_checkIndex_df160 : ByteArray := prog_13_method_155_code
def yJ0_checkIndex_df160 : MethodName := ⟨RJ0, "checkIndex", "(II)V"⟩
def RJ1 : String := "java/lang/StringLatin1"
def TJ1 : u_T := fun k => match k with
  | _ => ("", "", "", false)
def tyJ1 : Nat → FieldType := fun k => match k with
  | _ => .int
abbrev wsJ10 : List Cond := u_ws RJ1 TJ1 0
theorem nmJ1 : ∀ a, a < 0 → ∀ b, b < 0 → a ≠ b → (TJ1 a).2.1 ≠ (TJ1 b).2.1 := by decide +kernel
theorem tyJ1_ok : ∀ k, k < 0 → parseFieldDescriptor (TJ1 k).2.2.1 = some (tyJ1 k) := by decide +kernel
abbrev cJ1_charAt_3b067 : ByteArray := prog_14_method_2_code
def yJ1_charAt_3b067 : MethodName := ⟨RJ1, "charAt", "([BI)C"⟩
def RJ2 : String := "java/lang/StringUTF16"
def TJ2 : u_T := fun k => match k with
  | _ => ("", "", "", false)
def tyJ2 : Nat → FieldType := fun k => match k with
  | _ => .int
abbrev wsJ20 : List Cond := u_ws RJ2 TJ2 0
theorem nmJ2 : ∀ a, a < 0 → ∀ b, b < 0 → a ≠ b → (TJ2 a).2.1 ≠ (TJ2 b).2.1 := by decide +kernel
theorem tyJ2_ok : ∀ k, k < 0 → parseFieldDescriptor (TJ2 k).2.2.1 = some (tyJ2 k) := by decide +kernel
abbrev cJ2_getChar_3b067 : ByteArray := prog_15_method_5_code
def yJ2_getChar_3b067 : MethodName := ⟨RJ2, "getChar", "([BI)C"⟩
abbrev cJ2_length_9d52b : ByteArray := prog_15_method_6_code
def yJ2_length_9d52b : MethodName := ⟨RJ2, "length", "([B)I"⟩
abbrev cJ2_charAt_3b067 : ByteArray := prog_15_method_83_code
def yJ2_charAt_3b067 : MethodName := ⟨RJ2, "charAt", "([BI)C"⟩
abbrev cJ2_checkIndex_2214a : ByteArray := prog_15_method_91_code
def yJ2_checkIndex_2214a : MethodName := ⟨RJ2, "checkIndex", "(I[B)V"⟩
def RJ10 : String := "java/lang/System"
def TJ10 : u_T := fun k => match k with
  | _ => ("", "", "", false)
def tyJ10 : Nat → FieldType := fun k => match k with
  | _ => .int
abbrev wsJ100 : List Cond := u_ws RJ10 TJ10 0
theorem nmJ10 : ∀ a, a < 0 → ∀ b, b < 0 → a ≠ b → (TJ10 a).2.1 ≠ (TJ10 b).2.1 := by decide +kernel
theorem tyJ10_ok : ∀ k, k < 0 → parseFieldDescriptor (TJ10 k).2.2.1 = some (tyJ10 k) := by decide +kernel
def RJ3 : String := "jdk/internal/util/Preconditions"
def TJ3 : u_T := fun k => match k with
  | _ => ("", "", "", false)
def tyJ3 : Nat → FieldType := fun k => match k with
  | _ => .int
abbrev wsJ30 : List Cond := u_ws RJ3 TJ3 0
theorem nmJ3 : ∀ a, a < 0 → ∀ b, b < 0 → a ≠ b → (TJ3 a).2.1 ≠ (TJ3 b).2.1 := by decide +kernel
theorem tyJ3_ok : ∀ k, k < 0 → parseFieldDescriptor (TJ3 k).2.2.1 = some (tyJ3 k) := by decide +kernel
abbrev cJ3_checkIndex_8e157 : ByteArray := prog_17_method_11_code
def yJ3_checkIndex_8e157 : MethodName := ⟨RJ3, "checkIndex", "(IILjava/util/function/BiFunction;)I"⟩
def RL : String := "WindRotaLaw"
abbrev cL_law : ByteArray := code
def yL_law : MethodName := ⟨RL, "law", "([I)Z"⟩
abbrev vwCl : List vw_C := [(RX0, TX0, 2), (RX1, TX1, 6), (RX2, TX2, 3), (RX3, TX3, 5), (RX4, TX4, 1), (RX5, TX5, 4), (RX6, TX6, 2), (RX7, TX7, 12), (RX8, TX8, 17)]
end
section
theorem dX0_init_0 : decode cX0_init 0 = .ok (.aload_n 0, 1) := by decide +kernel
theorem dX0_init_1 : decode cX0_init 1 = .ok (.invokespecial 1, 3) := by decide +kernel
theorem dX0_init_4 : decode cX0_init 4 = .ok (.return_, 1) := by decide +kernel
theorem dX0_begin_0 : decode cX0_begin 0 = .ok (.aload_n 0, 1) := by decide +kernel
theorem dX0_begin_1 : decode cX0_begin 1 = .ok (.iconst (-1), 1) := by decide +kernel
theorem dX0_begin_2 : decode cX0_begin 2 = .ok (.putfield 9, 3) := by decide +kernel
theorem dX0_begin_5 : decode cX0_begin 5 = .ok (.aload_n 0, 1) := by decide +kernel
theorem dX0_begin_6 : decode cX0_begin 6 = .ok (.iload_n 1, 1) := by decide +kernel
theorem dX0_begin_7 : decode cX0_begin 7 = .ok (.putfield 13, 3) := by decide +kernel
theorem dX0_begin_10 : decode cX0_begin 10 = .ok (.return_, 1) := by decide +kernel
theorem dX0_weigh_0 : decode cX0_weigh 0 = .ok (.iload_n 2, 1) := by decide +kernel
theorem dX0_weigh_1 : decode cX0_weigh 1 = .ok (.aload_n 0, 1) := by decide +kernel
theorem dX0_weigh_2 : decode cX0_weigh 2 = .ok (.getfield 13, 3) := by decide +kernel
theorem dX0_weigh_5 : decode cX0_weigh 5 = .ok (.if_icmp .le 13, 3) := by decide +kernel
theorem dX0_weigh_8 : decode cX0_weigh 8 = .ok (.aload_n 0, 1) := by decide +kernel
theorem dX0_weigh_9 : decode cX0_weigh 9 = .ok (.iload_n 1, 1) := by decide +kernel
theorem dX0_weigh_10 : decode cX0_weigh 10 = .ok (.putfield 9, 3) := by decide +kernel
theorem dX0_weigh_13 : decode cX0_weigh 13 = .ok (.aload_n 0, 1) := by decide +kernel
theorem dX0_weigh_14 : decode cX0_weigh 14 = .ok (.iload_n 2, 1) := by decide +kernel
theorem dX0_weigh_15 : decode cX0_weigh 15 = .ok (.putfield 13, 3) := by decide +kernel
theorem dX0_weigh_18 : decode cX0_weigh 18 = .ok (.return_, 1) := by decide +kernel
theorem dX1_init_0 : decode cX1_init 0 = .ok (.aload_n 0, 1) := by decide +kernel
theorem dX1_init_1 : decode cX1_init 1 = .ok (.invokespecial 3, 3) := by decide +kernel
theorem dX1_init_4 : decode cX1_init 4 = .ok (.aload_n 0, 1) := by decide +kernel
theorem dX1_init_5 : decode cX1_init 5 = .ok (.iconst 0, 1) := by decide +kernel
theorem dX1_init_6 : decode cX1_init 6 = .ok (.putfield 9, 3) := by decide +kernel
theorem dX1_init_9 : decode cX1_init 9 = .ok (.aload_n 0, 1) := by decide +kernel
theorem dX1_init_10 : decode cX1_init 10 = .ok (.bipush 7, 2) := by decide +kernel
theorem dX1_init_12 : decode cX1_init 12 = .ok (.newarray .int, 2) := by decide +kernel
theorem dX1_init_14 : decode cX1_init 14 = .ok (.putfield 15, 3) := by decide +kernel
theorem dX1_init_17 : decode cX1_init 17 = .ok (.iconst 0, 1) := by decide +kernel
theorem dX1_init_18 : decode cX1_init 18 = .ok (.istore_n 1, 1) := by decide +kernel
theorem dX1_init_19 : decode cX1_init 19 = .ok (.iload_n 1, 1) := by decide +kernel
theorem dX1_init_20 : decode cX1_init 20 = .ok (.bipush 7, 2) := by decide +kernel
theorem dX1_init_22 : decode cX1_init 22 = .ok (.if_icmp .ge 27, 3) := by decide +kernel
theorem dX1_init_25 : decode cX1_init 25 = .ok (.aload_n 0, 1) := by decide +kernel
theorem dX1_init_26 : decode cX1_init 26 = .ok (.getfield 15, 3) := by decide +kernel
theorem dX1_init_29 : decode cX1_init 29 = .ok (.iload_n 1, 1) := by decide +kernel
theorem dX1_init_30 : decode cX1_init 30 = .ok (.iload_n 1, 1) := by decide +kernel
theorem dX1_init_31 : decode cX1_init 31 = .ok (.bipush 6, 2) := by decide +kernel
theorem dX1_init_33 : decode cX1_init 33 = .ok (.if_icmp .ne 8, 3) := by decide +kernel
theorem dX1_init_36 : decode cX1_init 36 = .ok (.bipush 8, 2) := by decide +kernel
theorem dX1_init_38 : decode cX1_init 38 = .ok (.goto 4, 3) := by decide +kernel
theorem dX1_init_41 : decode cX1_init 41 = .ok (.iload_n 1, 1) := by decide +kernel
theorem dX1_init_42 : decode cX1_init 42 = .ok (.iastore, 1) := by decide +kernel
theorem dX1_init_43 : decode cX1_init 43 = .ok (.iinc 1 1, 3) := by decide +kernel
theorem dX1_init_46 : decode cX1_init 46 = .ok (.goto (-27), 3) := by decide +kernel
theorem dX1_init_49 : decode cX1_init 49 = .ok (.aload_n 0, 1) := by decide +kernel
theorem dX1_init_50 : decode cX1_init 50 = .ok (.iconst 0, 1) := by decide +kernel
theorem dX1_init_51 : decode cX1_init 51 = .ok (.putfield 19, 3) := by decide +kernel
theorem dX1_init_54 : decode cX1_init 54 = .ok (.aload_n 0, 1) := by decide +kernel
theorem dX1_init_55 : decode cX1_init 55 = .ok (.iconst 4, 1) := by decide +kernel
theorem dX1_init_56 : decode cX1_init 56 = .ok (.putfield 22, 3) := by decide +kernel
theorem dX1_init_59 : decode cX1_init 59 = .ok (.aload_n 0, 1) := by decide +kernel
theorem dX1_init_60 : decode cX1_init 60 = .ok (.iconst 0, 1) := by decide +kernel
theorem dX1_init_61 : decode cX1_init 61 = .ok (.putfield 25, 3) := by decide +kernel
theorem dX1_init_64 : decode cX1_init 64 = .ok (.aload_n 0, 1) := by decide +kernel
theorem dX1_init_65 : decode cX1_init 65 = .ok (.bipush 8, 2) := by decide +kernel
theorem dX1_init_67 : decode cX1_init 67 = .ok (.anewarray 28, 3) := by decide +kernel
theorem dX1_init_70 : decode cX1_init 70 = .ok (.putfield 30, 3) := by decide +kernel
theorem dX1_init_73 : decode cX1_init 73 = .ok (.iconst 0, 1) := by decide +kernel
theorem dX1_init_74 : decode cX1_init 74 = .ok (.istore_n 1, 1) := by decide +kernel
theorem dX1_init_75 : decode cX1_init 75 = .ok (.iload_n 1, 1) := by decide +kernel
theorem dX1_init_76 : decode cX1_init 76 = .ok (.bipush 8, 2) := by decide +kernel
theorem dX1_init_78 : decode cX1_init 78 = .ok (.if_icmp .ge 22, 3) := by decide +kernel
theorem dX1_init_81 : decode cX1_init 81 = .ok (.aload_n 0, 1) := by decide +kernel
theorem dX1_init_82 : decode cX1_init 82 = .ok (.getfield 30, 3) := by decide +kernel
theorem dX1_init_85 : decode cX1_init 85 = .ok (.iload_n 1, 1) := by decide +kernel
theorem dX1_init_86 : decode cX1_init 86 = .ok (.new 28, 3) := by decide +kernel
theorem dX1_init_89 : decode cX1_init 89 = .ok (.dup, 1) := by decide +kernel
theorem dX1_init_90 : decode cX1_init 90 = .ok (.invokespecial 34, 3) := by decide +kernel
theorem dX1_init_93 : decode cX1_init 93 = .ok (.aastore, 1) := by decide +kernel
theorem dX1_init_94 : decode cX1_init 94 = .ok (.iinc 1 1, 3) := by decide +kernel
theorem dX1_init_97 : decode cX1_init 97 = .ok (.goto (-22), 3) := by decide +kernel
theorem dX1_init_100 : decode cX1_init 100 = .ok (.return_, 1) := by decide +kernel
theorem dX1_become_0 : decode cX1_become 0 = .ok (.aload_n 0, 1) := by decide +kernel
theorem dX1_become_1 : decode cX1_become 1 = .ok (.aload_n 1, 1) := by decide +kernel
theorem dX1_become_2 : decode cX1_become 2 = .ok (.getfield 9, 3) := by decide +kernel
theorem dX1_become_5 : decode cX1_become 5 = .ok (.putfield 9, 3) := by decide +kernel
theorem dX1_become_8 : decode cX1_become 8 = .ok (.aload_n 1, 1) := by decide +kernel
theorem dX1_become_9 : decode cX1_become 9 = .ok (.getfield 15, 3) := by decide +kernel
theorem dX1_become_12 : decode cX1_become 12 = .ok (.iconst 0, 1) := by decide +kernel
theorem dX1_become_13 : decode cX1_become 13 = .ok (.aload_n 0, 1) := by decide +kernel
theorem dX1_become_14 : decode cX1_become 14 = .ok (.getfield 15, 3) := by decide +kernel
theorem dX1_become_17 : decode cX1_become 17 = .ok (.iconst 0, 1) := by decide +kernel
theorem dX1_become_18 : decode cX1_become 18 = .ok (.bipush 7, 2) := by decide +kernel
theorem dX1_become_20 : decode cX1_become 20 = .ok (.invokestatic 35, 3) := by decide +kernel
theorem dX1_become_23 : decode cX1_become 23 = .ok (.aload_n 0, 1) := by decide +kernel
theorem dX1_become_24 : decode cX1_become 24 = .ok (.aload_n 1, 1) := by decide +kernel
theorem dX1_become_25 : decode cX1_become 25 = .ok (.getfield 19, 3) := by decide +kernel
theorem dX1_become_28 : decode cX1_become 28 = .ok (.putfield 19, 3) := by decide +kernel
theorem dX1_become_31 : decode cX1_become 31 = .ok (.aload_n 0, 1) := by decide +kernel
theorem dX1_become_32 : decode cX1_become 32 = .ok (.aload_n 1, 1) := by decide +kernel
theorem dX1_become_33 : decode cX1_become 33 = .ok (.getfield 22, 3) := by decide +kernel
theorem dX1_become_36 : decode cX1_become 36 = .ok (.putfield 22, 3) := by decide +kernel
theorem dX1_become_39 : decode cX1_become 39 = .ok (.aload_n 0, 1) := by decide +kernel
theorem dX1_become_40 : decode cX1_become 40 = .ok (.aload_n 1, 1) := by decide +kernel
theorem dX1_become_41 : decode cX1_become 41 = .ok (.getfield 25, 3) := by decide +kernel
theorem dX1_become_44 : decode cX1_become 44 = .ok (.putfield 25, 3) := by decide +kernel
theorem dX1_become_47 : decode cX1_become 47 = .ok (.iconst 0, 1) := by decide +kernel
theorem dX1_become_48 : decode cX1_become 48 = .ok (.istore_n 2, 1) := by decide +kernel
theorem dX1_become_49 : decode cX1_become 49 = .ok (.iload_n 2, 1) := by decide +kernel
theorem dX1_become_50 : decode cX1_become 50 = .ok (.aload_n 0, 1) := by decide +kernel
theorem dX1_become_51 : decode cX1_become 51 = .ok (.getfield 25, 3) := by decide +kernel
theorem dX1_become_54 : decode cX1_become 54 = .ok (.if_icmp .ge 24, 3) := by decide +kernel
theorem dX1_become_57 : decode cX1_become 57 = .ok (.aload_n 0, 1) := by decide +kernel
theorem dX1_become_58 : decode cX1_become 58 = .ok (.getfield 30, 3) := by decide +kernel
theorem dX1_become_61 : decode cX1_become 61 = .ok (.iload_n 2, 1) := by decide +kernel
theorem dX1_become_62 : decode cX1_become 62 = .ok (.aaload, 1) := by decide +kernel
theorem dX1_become_63 : decode cX1_become 63 = .ok (.aload_n 1, 1) := by decide +kernel
theorem dX1_become_64 : decode cX1_become 64 = .ok (.getfield 30, 3) := by decide +kernel
theorem dX1_become_67 : decode cX1_become 67 = .ok (.iload_n 2, 1) := by decide +kernel
theorem dX1_become_68 : decode cX1_become 68 = .ok (.aaload, 1) := by decide +kernel
theorem dX1_become_69 : decode cX1_become 69 = .ok (.invokevirtual 41, 3) := by decide +kernel
theorem dX1_become_72 : decode cX1_become 72 = .ok (.iinc 2 1, 3) := by decide +kernel
theorem dX1_become_75 : decode cX1_become 75 = .ok (.goto (-26), 3) := by decide +kernel
theorem dX1_become_78 : decode cX1_become 78 = .ok (.return_, 1) := by decide +kernel
theorem dX1_has_0 : decode cX1_has 0 = .ok (.iload_n 1, 1) := by decide +kernel
theorem dX1_has_1 : decode cX1_has 1 = .ok (.ifCond .lt 15, 3) := by decide +kernel
theorem dX1_has_4 : decode cX1_has 4 = .ok (.iload_n 1, 1) := by decide +kernel
theorem dX1_has_5 : decode cX1_has 5 = .ok (.aload_n 0, 1) := by decide +kernel
theorem dX1_has_6 : decode cX1_has 6 = .ok (.getfield 25, 3) := by decide +kernel
theorem dX1_has_9 : decode cX1_has 9 = .ok (.if_icmp .ge 7, 3) := by decide +kernel
theorem dX1_has_12 : decode cX1_has 12 = .ok (.iconst 1, 1) := by decide +kernel
theorem dX1_has_13 : decode cX1_has 13 = .ok (.goto 4, 3) := by decide +kernel
theorem dX1_has_16 : decode cX1_has 16 = .ok (.iconst 0, 1) := by decide +kernel
theorem dX1_has_17 : decode cX1_has 17 = .ok (.ireturn, 1) := by decide +kernel
theorem dX1_isFull_0 : decode cX1_isFull 0 = .ok (.aload_n 0, 1) := by decide +kernel
theorem dX1_isFull_1 : decode cX1_isFull 1 = .ok (.getfield 25, 3) := by decide +kernel
theorem dX1_isFull_4 : decode cX1_isFull 4 = .ok (.bipush 8, 2) := by decide +kernel
theorem dX1_isFull_6 : decode cX1_isFull 6 = .ok (.if_icmp .lt 7, 3) := by decide +kernel
theorem dX1_isFull_9 : decode cX1_isFull 9 = .ok (.iconst 1, 1) := by decide +kernel
theorem dX1_isFull_10 : decode cX1_isFull 10 = .ok (.goto 4, 3) := by decide +kernel
theorem dX1_isFull_13 : decode cX1_isFull 13 = .ok (.iconst 0, 1) := by decide +kernel
theorem dX1_isFull_14 : decode cX1_isFull 14 = .ok (.ireturn, 1) := by decide +kernel
theorem dX1_add_0 : decode cX1_add 0 = .ok (.aload_n 0, 1) := by decide +kernel
theorem dX1_add_1 : decode cX1_add 1 = .ok (.invokevirtual 45, 3) := by decide +kernel
theorem dX1_add_4 : decode cX1_add 4 = .ok (.ifCond .eq 4, 3) := by decide +kernel
theorem dX1_add_7 : decode cX1_add 7 = .ok (.return_, 1) := by decide +kernel
theorem dX1_add_8 : decode cX1_add 8 = .ok (.aload_n 0, 1) := by decide +kernel
theorem dX1_add_9 : decode cX1_add 9 = .ok (.getfield 30, 3) := by decide +kernel
theorem dX1_add_12 : decode cX1_add 12 = .ok (.aload_n 0, 1) := by decide +kernel
theorem dX1_add_13 : decode cX1_add 13 = .ok (.getfield 25, 3) := by decide +kernel
theorem dX1_add_16 : decode cX1_add 16 = .ok (.aaload, 1) := by decide +kernel
theorem dX1_add_17 : decode cX1_add 17 = .ok (.astore 4, 2) := by decide +kernel
theorem dX1_add_19 : decode cX1_add 19 = .ok (.aload 4, 2) := by decide +kernel
theorem dX1_add_21 : decode cX1_add 21 = .ok (.iload_n 1, 1) := by decide +kernel
theorem dX1_add_22 : decode cX1_add 22 = .ok (.putfield 49, 3) := by decide +kernel
theorem dX1_add_25 : decode cX1_add 25 = .ok (.aload 4, 2) := by decide +kernel
theorem dX1_add_27 : decode cX1_add 27 = .ok (.iload_n 2, 1) := by decide +kernel
theorem dX1_add_28 : decode cX1_add 28 = .ok (.putfield 52, 3) := by decide +kernel
theorem dX1_add_31 : decode cX1_add 31 = .ok (.aload 4, 2) := by decide +kernel
theorem dX1_add_33 : decode cX1_add 33 = .ok (.iload_n 3, 1) := by decide +kernel
theorem dX1_add_34 : decode cX1_add 34 = .ok (.putfield 55, 3) := by decide +kernel
theorem dX1_add_37 : decode cX1_add 37 = .ok (.aload 4, 2) := by decide +kernel
theorem dX1_add_39 : decode cX1_add 39 = .ok (.iconst 0, 1) := by decide +kernel
theorem dX1_add_40 : decode cX1_add 40 = .ok (.putfield 58, 3) := by decide +kernel
theorem dX1_add_43 : decode cX1_add 43 = .ok (.aload_n 0, 1) := by decide +kernel
theorem dX1_add_44 : decode cX1_add 44 = .ok (.dup, 1) := by decide +kernel
theorem dX1_add_45 : decode cX1_add 45 = .ok (.getfield 25, 3) := by decide +kernel
theorem dX1_add_48 : decode cX1_add 48 = .ok (.iconst 1, 1) := by decide +kernel
theorem dX1_add_49 : decode cX1_add 49 = .ok (.iadd, 1) := by decide +kernel
theorem dX1_add_50 : decode cX1_add 50 = .ok (.putfield 25, 3) := by decide +kernel
theorem dX1_add_53 : decode cX1_add 53 = .ok (.return_, 1) := by decide +kernel
theorem dX1_isSick_0 : decode cX1_isSick 0 = .ok (.aload_n 0, 1) := by decide +kernel
theorem dX1_isSick_1 : decode cX1_isSick 1 = .ok (.getfield 19, 3) := by decide +kernel
theorem dX1_isSick_4 : decode cX1_isSick 4 = .ok (.iload_n 1, 1) := by decide +kernel
theorem dX1_isSick_5 : decode cX1_isSick 5 = .ok (.ishr, 1) := by decide +kernel
theorem dX1_isSick_6 : decode cX1_isSick 6 = .ok (.iconst 1, 1) := by decide +kernel
theorem dX1_isSick_7 : decode cX1_isSick 7 = .ok (.iand, 1) := by decide +kernel
theorem dX1_isSick_8 : decode cX1_isSick 8 = .ok (.iconst 1, 1) := by decide +kernel
theorem dX1_isSick_9 : decode cX1_isSick 9 = .ok (.if_icmp .ne 7, 3) := by decide +kernel
theorem dX1_isSick_12 : decode cX1_isSick 12 = .ok (.iconst 1, 1) := by decide +kernel
theorem dX1_isSick_13 : decode cX1_isSick 13 = .ok (.goto 4, 3) := by decide +kernel
theorem dX1_isSick_16 : decode cX1_isSick 16 = .ok (.iconst 0, 1) := by decide +kernel
theorem dX1_isSick_17 : decode cX1_isSick 17 = .ok (.ireturn, 1) := by decide +kernel
theorem dX1_makeSick_0 : decode cX1_makeSick 0 = .ok (.aload_n 0, 1) := by decide +kernel
theorem dX1_makeSick_1 : decode cX1_makeSick 1 = .ok (.iload_n 2, 1) := by decide +kernel
theorem dX1_makeSick_2 : decode cX1_makeSick 2 = .ok (.ifCond .eq 14, 3) := by decide +kernel
theorem dX1_makeSick_5 : decode cX1_makeSick 5 = .ok (.aload_n 0, 1) := by decide +kernel
theorem dX1_makeSick_6 : decode cX1_makeSick 6 = .ok (.getfield 19, 3) := by decide +kernel
theorem dX1_makeSick_9 : decode cX1_makeSick 9 = .ok (.iconst 1, 1) := by decide +kernel
theorem dX1_makeSick_10 : decode cX1_makeSick 10 = .ok (.iload_n 1, 1) := by decide +kernel
theorem dX1_makeSick_11 : decode cX1_makeSick 11 = .ok (.ishl, 1) := by decide +kernel
theorem dX1_makeSick_12 : decode cX1_makeSick 12 = .ok (.ior, 1) := by decide +kernel
theorem dX1_makeSick_13 : decode cX1_makeSick 13 = .ok (.goto 13, 3) := by decide +kernel
theorem dX1_makeSick_16 : decode cX1_makeSick 16 = .ok (.aload_n 0, 1) := by decide +kernel
theorem dX1_makeSick_17 : decode cX1_makeSick 17 = .ok (.getfield 19, 3) := by decide +kernel
theorem dX1_makeSick_20 : decode cX1_makeSick 20 = .ok (.iconst 1, 1) := by decide +kernel
theorem dX1_makeSick_21 : decode cX1_makeSick 21 = .ok (.iload_n 1, 1) := by decide +kernel
theorem dX1_makeSick_22 : decode cX1_makeSick 22 = .ok (.ishl, 1) := by decide +kernel
theorem dX1_makeSick_23 : decode cX1_makeSick 23 = .ok (.iconst (-1), 1) := by decide +kernel
theorem dX1_makeSick_24 : decode cX1_makeSick 24 = .ok (.ixor, 1) := by decide +kernel
theorem dX1_makeSick_25 : decode cX1_makeSick 25 = .ok (.iand, 1) := by decide +kernel
theorem dX1_makeSick_26 : decode cX1_makeSick 26 = .ok (.putfield 19, 3) := by decide +kernel
theorem dX1_makeSick_29 : decode cX1_makeSick 29 = .ok (.return_, 1) := by decide +kernel
theorem dX1_calms_0 : decode cX1_calms 0 = .ok (.iconst 0, 1) := by decide +kernel
theorem dX1_calms_1 : decode cX1_calms 1 = .ok (.istore_n 1, 1) := by decide +kernel
theorem dX1_calms_2 : decode cX1_calms 2 = .ok (.iconst 0, 1) := by decide +kernel
theorem dX1_calms_3 : decode cX1_calms 3 = .ok (.istore_n 2, 1) := by decide +kernel
theorem dX1_calms_4 : decode cX1_calms 4 = .ok (.iload_n 2, 1) := by decide +kernel
theorem dX1_calms_5 : decode cX1_calms 5 = .ok (.bipush 7, 2) := by decide +kernel
theorem dX1_calms_7 : decode cX1_calms 7 = .ok (.if_icmp .ge 23, 3) := by decide +kernel
theorem dX1_calms_10 : decode cX1_calms 10 = .ok (.aload_n 0, 1) := by decide +kernel
theorem dX1_calms_11 : decode cX1_calms 11 = .ok (.getfield 15, 3) := by decide +kernel
theorem dX1_calms_14 : decode cX1_calms 14 = .ok (.iload_n 2, 1) := by decide +kernel
theorem dX1_calms_15 : decode cX1_calms 15 = .ok (.iaload, 1) := by decide +kernel
theorem dX1_calms_16 : decode cX1_calms 16 = .ok (.bipush 8, 2) := by decide +kernel
theorem dX1_calms_18 : decode cX1_calms 18 = .ok (.if_icmp .ne 6, 3) := by decide +kernel
theorem dX1_calms_21 : decode cX1_calms 21 = .ok (.iinc 1 1, 3) := by decide +kernel
theorem dX1_calms_24 : decode cX1_calms 24 = .ok (.iinc 2 1, 3) := by decide +kernel
theorem dX1_calms_27 : decode cX1_calms 27 = .ok (.goto (-23), 3) := by decide +kernel
theorem dX1_calms_30 : decode cX1_calms 30 = .ok (.iload_n 1, 1) := by decide +kernel
theorem dX1_calms_31 : decode cX1_calms 31 = .ok (.ireturn, 1) := by decide +kernel
theorem dX1_windOn_0 : decode cX1_windOn 0 = .ok (.aload_n 0, 1) := by decide +kernel
theorem dX1_windOn_1 : decode cX1_windOn 1 = .ok (.getfield 15, 3) := by decide +kernel
theorem dX1_windOn_4 : decode cX1_windOn 4 = .ok (.iload_n 1, 1) := by decide +kernel
theorem dX1_windOn_5 : decode cX1_windOn 5 = .ok (.bipush 7, 2) := by decide +kernel
theorem dX1_windOn_7 : decode cX1_windOn 7 = .ok (.invokestatic 61, 3) := by decide +kernel
theorem dX1_windOn_10 : decode cX1_windOn 10 = .ok (.iaload, 1) := by decide +kernel
theorem dX1_windOn_11 : decode cX1_windOn 11 = .ok (.istore_n 2, 1) := by decide +kernel
theorem dX1_windOn_12 : decode cX1_windOn 12 = .ok (.iload_n 2, 1) := by decide +kernel
theorem dX1_windOn_13 : decode cX1_windOn 13 = .ok (.bipush 8, 2) := by decide +kernel
theorem dX1_windOn_15 : decode cX1_windOn 15 = .ok (.if_icmp .ne 6, 3) := by decide +kernel
theorem dX1_windOn_18 : decode cX1_windOn 18 = .ok (.bipush 8, 2) := by decide +kernel
theorem dX1_windOn_20 : decode cX1_windOn 20 = .ok (.ireturn, 1) := by decide +kernel
theorem dX1_windOn_21 : decode cX1_windOn 21 = .ok (.iconst 0, 1) := by decide +kernel
theorem dX1_windOn_22 : decode cX1_windOn 22 = .ok (.istore_n 3, 1) := by decide +kernel
theorem dX1_windOn_23 : decode cX1_windOn 23 = .ok (.iload_n 3, 1) := by decide +kernel
theorem dX1_windOn_24 : decode cX1_windOn 24 = .ok (.bipush 8, 2) := by decide +kernel
theorem dX1_windOn_26 : decode cX1_windOn 26 = .ok (.if_icmp .ge 29, 3) := by decide +kernel
theorem dX1_windOn_29 : decode cX1_windOn 29 = .ok (.iload_n 2, 1) := by decide +kernel
theorem dX1_windOn_30 : decode cX1_windOn 30 = .ok (.iload_n 3, 1) := by decide +kernel
theorem dX1_windOn_31 : decode cX1_windOn 31 = .ok (.iadd, 1) := by decide +kernel
theorem dX1_windOn_32 : decode cX1_windOn 32 = .ok (.bipush 8, 2) := by decide +kernel
theorem dX1_windOn_34 : decode cX1_windOn 34 = .ok (.irem, 1) := by decide +kernel
theorem dX1_windOn_35 : decode cX1_windOn 35 = .ok (.istore 4, 2) := by decide +kernel
theorem dX1_windOn_37 : decode cX1_windOn 37 = .ok (.aload_n 0, 1) := by decide +kernel
theorem dX1_windOn_38 : decode cX1_windOn 38 = .ok (.iload 4, 2) := by decide +kernel
theorem dX1_windOn_40 : decode cX1_windOn 40 = .ok (.invokevirtual 67, 3) := by decide +kernel
theorem dX1_windOn_43 : decode cX1_windOn 43 = .ok (.ifCond .ne 6, 3) := by decide +kernel
theorem dX1_windOn_46 : decode cX1_windOn 46 = .ok (.iload 4, 2) := by decide +kernel
theorem dX1_windOn_48 : decode cX1_windOn 48 = .ok (.ireturn, 1) := by decide +kernel
theorem dX1_windOn_49 : decode cX1_windOn 49 = .ok (.iinc 3 1, 3) := by decide +kernel
theorem dX1_windOn_52 : decode cX1_windOn 52 = .ok (.goto (-29), 3) := by decide +kernel
theorem dX1_windOn_55 : decode cX1_windOn 55 = .ok (.bipush 8, 2) := by decide +kernel
theorem dX1_windOn_57 : decode cX1_windOn 57 = .ok (.ireturn, 1) := by decide +kernel
theorem dX1_sums_0 : decode cX1_sums 0 = .ok (.iconst 0, 1) := by decide +kernel
theorem dX1_sums_1 : decode cX1_sums 1 = .ok (.istore_n 1, 1) := by decide +kernel
theorem dX1_sums_2 : decode cX1_sums 2 = .ok (.iconst 0, 1) := by decide +kernel
theorem dX1_sums_3 : decode cX1_sums 3 = .ok (.istore_n 2, 1) := by decide +kernel
theorem dX1_sums_4 : decode cX1_sums 4 = .ok (.iload_n 2, 1) := by decide +kernel
theorem dX1_sums_5 : decode cX1_sums 5 = .ok (.aload_n 0, 1) := by decide +kernel
theorem dX1_sums_6 : decode cX1_sums 6 = .ok (.getfield 25, 3) := by decide +kernel
theorem dX1_sums_9 : decode cX1_sums 9 = .ok (.if_icmp .ge 21, 3) := by decide +kernel
theorem dX1_sums_12 : decode cX1_sums 12 = .ok (.iload_n 1, 1) := by decide +kernel
theorem dX1_sums_13 : decode cX1_sums 13 = .ok (.aload_n 0, 1) := by decide +kernel
theorem dX1_sums_14 : decode cX1_sums 14 = .ok (.getfield 30, 3) := by decide +kernel
theorem dX1_sums_17 : decode cX1_sums 17 = .ok (.iload_n 2, 1) := by decide +kernel
theorem dX1_sums_18 : decode cX1_sums 18 = .ok (.aaload, 1) := by decide +kernel
theorem dX1_sums_19 : decode cX1_sums 19 = .ok (.getfield 58, 3) := by decide +kernel
theorem dX1_sums_22 : decode cX1_sums 22 = .ok (.iadd, 1) := by decide +kernel
theorem dX1_sums_23 : decode cX1_sums 23 = .ok (.istore_n 1, 1) := by decide +kernel
theorem dX1_sums_24 : decode cX1_sums 24 = .ok (.iinc 2 1, 3) := by decide +kernel
theorem dX1_sums_27 : decode cX1_sums 27 = .ok (.goto (-23), 3) := by decide +kernel
theorem dX1_sums_30 : decode cX1_sums 30 = .ok (.iload_n 1, 1) := by decide +kernel
theorem dX1_sums_31 : decode cX1_sums 31 = .ok (.ireturn, 1) := by decide +kernel
theorem dX1_earningsToday_0 : decode cX1_earningsToday 0 = .ok (.aload_n 0, 1) := by decide +kernel
theorem dX1_earningsToday_1 : decode cX1_earningsToday 1 = .ok (.aload_n 0, 1) := by decide +kernel
theorem dX1_earningsToday_2 : decode cX1_earningsToday 2 = .ok (.getfield 9, 3) := by decide +kernel
theorem dX1_earningsToday_5 : decode cX1_earningsToday 5 = .ok (.invokevirtual 71, 3) := by decide +kernel
theorem dX1_earningsToday_8 : decode cX1_earningsToday 8 = .ok (.istore_n 1, 1) := by decide +kernel
theorem dX1_earningsToday_9 : decode cX1_earningsToday 9 = .ok (.iconst 0, 1) := by decide +kernel
theorem dX1_earningsToday_10 : decode cX1_earningsToday 10 = .ok (.istore_n 2, 1) := by decide +kernel
theorem dX1_earningsToday_11 : decode cX1_earningsToday 11 = .ok (.iconst 0, 1) := by decide +kernel
theorem dX1_earningsToday_12 : decode cX1_earningsToday 12 = .ok (.istore_n 3, 1) := by decide +kernel
theorem dX1_earningsToday_13 : decode cX1_earningsToday 13 = .ok (.iload_n 3, 1) := by decide +kernel
theorem dX1_earningsToday_14 : decode cX1_earningsToday 14 = .ok (.aload_n 0, 1) := by decide +kernel
theorem dX1_earningsToday_15 : decode cX1_earningsToday 15 = .ok (.getfield 25, 3) := by decide +kernel
theorem dX1_earningsToday_18 : decode cX1_earningsToday 18 = .ok (.if_icmp .ge 30, 3) := by decide +kernel
theorem dX1_earningsToday_21 : decode cX1_earningsToday 21 = .ok (.iload_n 2, 1) := by decide +kernel
theorem dX1_earningsToday_22 : decode cX1_earningsToday 22 = .ok (.aload_n 0, 1) := by decide +kernel
theorem dX1_earningsToday_23 : decode cX1_earningsToday 23 = .ok (.getfield 30, 3) := by decide +kernel
theorem dX1_earningsToday_26 : decode cX1_earningsToday 26 = .ok (.iload_n 3, 1) := by decide +kernel
theorem dX1_earningsToday_27 : decode cX1_earningsToday 27 = .ok (.aaload, 1) := by decide +kernel
theorem dX1_earningsToday_28 : decode cX1_earningsToday 28 = .ok (.aload_n 0, 1) := by decide +kernel
theorem dX1_earningsToday_29 : decode cX1_earningsToday 29 = .ok (.getfield 9, 3) := by decide +kernel
theorem dX1_earningsToday_32 : decode cX1_earningsToday 32 = .ok (.iload_n 1, 1) := by decide +kernel
theorem dX1_earningsToday_33 : decode cX1_earningsToday 33 = .ok (.aload_n 0, 1) := by decide +kernel
theorem dX1_earningsToday_34 : decode cX1_earningsToday 34 = .ok (.getfield 22, 3) := by decide +kernel
theorem dX1_earningsToday_37 : decode cX1_earningsToday 37 = .ok (.invokevirtual 75, 3) := by decide +kernel
theorem dX1_earningsToday_40 : decode cX1_earningsToday 40 = .ok (.iadd, 1) := by decide +kernel
theorem dX1_earningsToday_41 : decode cX1_earningsToday 41 = .ok (.istore_n 2, 1) := by decide +kernel
theorem dX1_earningsToday_42 : decode cX1_earningsToday 42 = .ok (.iinc 3 1, 3) := by decide +kernel
theorem dX1_earningsToday_45 : decode cX1_earningsToday 45 = .ok (.goto (-32), 3) := by decide +kernel
theorem dX1_earningsToday_48 : decode cX1_earningsToday 48 = .ok (.iload_n 2, 1) := by decide +kernel
theorem dX1_earningsToday_49 : decode cX1_earningsToday 49 = .ok (.ireturn, 1) := by decide +kernel
theorem dX1_goingToday_0 : decode cX1_goingToday 0 = .ok (.aload_n 0, 1) := by decide +kernel
theorem dX1_goingToday_1 : decode cX1_goingToday 1 = .ok (.aload_n 0, 1) := by decide +kernel
theorem dX1_goingToday_2 : decode cX1_goingToday 2 = .ok (.getfield 9, 3) := by decide +kernel
theorem dX1_goingToday_5 : decode cX1_goingToday 5 = .ok (.invokevirtual 71, 3) := by decide +kernel
theorem dX1_goingToday_8 : decode cX1_goingToday 8 = .ok (.istore_n 1, 1) := by decide +kernel
theorem dX1_goingToday_9 : decode cX1_goingToday 9 = .ok (.iconst 0, 1) := by decide +kernel
theorem dX1_goingToday_10 : decode cX1_goingToday 10 = .ok (.istore_n 2, 1) := by decide +kernel
theorem dX1_goingToday_11 : decode cX1_goingToday 11 = .ok (.iconst 0, 1) := by decide +kernel
theorem dX1_goingToday_12 : decode cX1_goingToday 12 = .ok (.istore_n 3, 1) := by decide +kernel
theorem dX1_goingToday_13 : decode cX1_goingToday 13 = .ok (.iload_n 3, 1) := by decide +kernel
theorem dX1_goingToday_14 : decode cX1_goingToday 14 = .ok (.aload_n 0, 1) := by decide +kernel
theorem dX1_goingToday_15 : decode cX1_goingToday 15 = .ok (.getfield 25, 3) := by decide +kernel
theorem dX1_goingToday_18 : decode cX1_goingToday 18 = .ok (.if_icmp .ge 32, 3) := by decide +kernel
theorem dX1_goingToday_21 : decode cX1_goingToday 21 = .ok (.aload_n 0, 1) := by decide +kernel
theorem dX1_goingToday_22 : decode cX1_goingToday 22 = .ok (.getfield 30, 3) := by decide +kernel
theorem dX1_goingToday_25 : decode cX1_goingToday 25 = .ok (.iload_n 3, 1) := by decide +kernel
theorem dX1_goingToday_26 : decode cX1_goingToday 26 = .ok (.aaload, 1) := by decide +kernel
theorem dX1_goingToday_27 : decode cX1_goingToday 27 = .ok (.iload_n 1, 1) := by decide +kernel
theorem dX1_goingToday_28 : decode cX1_goingToday 28 = .ok (.aload_n 0, 1) := by decide +kernel
theorem dX1_goingToday_29 : decode cX1_goingToday 29 = .ok (.getfield 22, 3) := by decide +kernel
theorem dX1_goingToday_32 : decode cX1_goingToday 32 = .ok (.invokevirtual 79, 3) := by decide +kernel
theorem dX1_goingToday_35 : decode cX1_goingToday 35 = .ok (.ifCond .eq 9, 3) := by decide +kernel
theorem dX1_goingToday_38 : decode cX1_goingToday 38 = .ok (.iload_n 2, 1) := by decide +kernel
theorem dX1_goingToday_39 : decode cX1_goingToday 39 = .ok (.iconst 1, 1) := by decide +kernel
theorem dX1_goingToday_40 : decode cX1_goingToday 40 = .ok (.iload_n 3, 1) := by decide +kernel
theorem dX1_goingToday_41 : decode cX1_goingToday 41 = .ok (.ishl, 1) := by decide +kernel
theorem dX1_goingToday_42 : decode cX1_goingToday 42 = .ok (.ior, 1) := by decide +kernel
theorem dX1_goingToday_43 : decode cX1_goingToday 43 = .ok (.istore_n 2, 1) := by decide +kernel
theorem dX1_goingToday_44 : decode cX1_goingToday 44 = .ok (.iinc 3 1, 3) := by decide +kernel
theorem dX1_goingToday_47 : decode cX1_goingToday 47 = .ok (.goto (-34), 3) := by decide +kernel
theorem dX1_goingToday_50 : decode cX1_goingToday 50 = .ok (.iload_n 2, 1) := by decide +kernel
theorem dX1_goingToday_51 : decode cX1_goingToday 51 = .ok (.ireturn, 1) := by decide +kernel
theorem dX1_goDay_0 : decode cX1_goDay 0 = .ok (.iconst 0, 1) := by decide +kernel
theorem dX1_goDay_1 : decode cX1_goDay 1 = .ok (.istore_n 2, 1) := by decide +kernel
theorem dX1_goDay_2 : decode cX1_goDay 2 = .ok (.iload_n 2, 1) := by decide +kernel
theorem dX1_goDay_3 : decode cX1_goDay 3 = .ok (.aload_n 0, 1) := by decide +kernel
theorem dX1_goDay_4 : decode cX1_goDay 4 = .ok (.getfield 25, 3) := by decide +kernel
theorem dX1_goDay_7 : decode cX1_goDay 7 = .ok (.if_icmp .ge 27, 3) := by decide +kernel
theorem dX1_goDay_10 : decode cX1_goDay 10 = .ok (.aload_n 0, 1) := by decide +kernel
theorem dX1_goDay_11 : decode cX1_goDay 11 = .ok (.getfield 30, 3) := by decide +kernel
theorem dX1_goDay_14 : decode cX1_goDay 14 = .ok (.iload_n 2, 1) := by decide +kernel
theorem dX1_goDay_15 : decode cX1_goDay 15 = .ok (.aaload, 1) := by decide +kernel
theorem dX1_goDay_16 : decode cX1_goDay 16 = .ok (.aload_n 0, 1) := by decide +kernel
theorem dX1_goDay_17 : decode cX1_goDay 17 = .ok (.getfield 9, 3) := by decide +kernel
theorem dX1_goDay_20 : decode cX1_goDay 20 = .ok (.iload_n 1, 1) := by decide +kernel
theorem dX1_goDay_21 : decode cX1_goDay 21 = .ok (.aload_n 0, 1) := by decide +kernel
theorem dX1_goDay_22 : decode cX1_goDay 22 = .ok (.getfield 22, 3) := by decide +kernel
theorem dX1_goDay_25 : decode cX1_goDay 25 = .ok (.invokevirtual 83, 3) := by decide +kernel
theorem dX1_goDay_28 : decode cX1_goDay 28 = .ok (.iinc 2 1, 3) := by decide +kernel
theorem dX1_goDay_31 : decode cX1_goDay 31 = .ok (.goto (-29), 3) := by decide +kernel
theorem dX1_goDay_34 : decode cX1_goDay 34 = .ok (.aload_n 0, 1) := by decide +kernel
theorem dX1_goDay_35 : decode cX1_goDay 35 = .ok (.dup, 1) := by decide +kernel
theorem dX1_goDay_36 : decode cX1_goDay 36 = .ok (.getfield 9, 3) := by decide +kernel
theorem dX1_goDay_39 : decode cX1_goDay 39 = .ok (.iconst 1, 1) := by decide +kernel
theorem dX1_goDay_40 : decode cX1_goDay 40 = .ok (.iadd, 1) := by decide +kernel
theorem dX1_goDay_41 : decode cX1_goDay 41 = .ok (.putfield 9, 3) := by decide +kernel
theorem dX1_goDay_44 : decode cX1_goDay 44 = .ok (.return_, 1) := by decide +kernel
theorem dX1_gainIn_0 : decode cX1_gainIn 0 = .ok (.aload_n 0, 1) := by decide +kernel
theorem dX1_gainIn_1 : decode cX1_gainIn 1 = .ok (.invokevirtual 87, 3) := by decide +kernel
theorem dX1_gainIn_4 : decode cX1_gainIn 4 = .ok (.istore_n 2, 1) := by decide +kernel
theorem dX1_gainIn_5 : decode cX1_gainIn 5 = .ok (.iconst 0, 1) := by decide +kernel
theorem dX1_gainIn_6 : decode cX1_gainIn 6 = .ok (.istore_n 3, 1) := by decide +kernel
theorem dX1_gainIn_7 : decode cX1_gainIn 7 = .ok (.iload_n 3, 1) := by decide +kernel
theorem dX1_gainIn_8 : decode cX1_gainIn 8 = .ok (.iload_n 1, 1) := by decide +kernel
theorem dX1_gainIn_9 : decode cX1_gainIn 9 = .ok (.if_icmp .ge 21, 3) := by decide +kernel
theorem dX1_gainIn_12 : decode cX1_gainIn 12 = .ok (.aload_n 0, 1) := by decide +kernel
theorem dX1_gainIn_13 : decode cX1_gainIn 13 = .ok (.aload_n 0, 1) := by decide +kernel
theorem dX1_gainIn_14 : decode cX1_gainIn 14 = .ok (.aload_n 0, 1) := by decide +kernel
theorem dX1_gainIn_15 : decode cX1_gainIn 15 = .ok (.getfield 9, 3) := by decide +kernel
theorem dX1_gainIn_18 : decode cX1_gainIn 18 = .ok (.invokevirtual 71, 3) := by decide +kernel
theorem dX1_gainIn_21 : decode cX1_gainIn 21 = .ok (.invokevirtual 91, 3) := by decide +kernel
theorem dX1_gainIn_24 : decode cX1_gainIn 24 = .ok (.iinc 3 1, 3) := by decide +kernel
theorem dX1_gainIn_27 : decode cX1_gainIn 27 = .ok (.goto (-20), 3) := by decide +kernel
theorem dX1_gainIn_30 : decode cX1_gainIn 30 = .ok (.aload_n 0, 1) := by decide +kernel
theorem dX1_gainIn_31 : decode cX1_gainIn 31 = .ok (.invokevirtual 87, 3) := by decide +kernel
theorem dX1_gainIn_34 : decode cX1_gainIn 34 = .ok (.iload_n 2, 1) := by decide +kernel
theorem dX1_gainIn_35 : decode cX1_gainIn 35 = .ok (.isub, 1) := by decide +kernel
theorem dX1_gainIn_36 : decode cX1_gainIn 36 = .ok (.ireturn, 1) := by decide +kernel
theorem dX1_carry_0 : decode cX1_carry 0 = .ok (.aload_n 0, 1) := by decide +kernel
theorem dX1_carry_1 : decode cX1_carry 1 = .ok (.getfield 9, 3) := by decide +kernel
theorem dX1_carry_4 : decode cX1_carry 4 = .ok (.iload_n 2, 1) := by decide +kernel
theorem dX1_carry_5 : decode cX1_carry 5 = .ok (.iadd, 1) := by decide +kernel
theorem dX1_carry_6 : decode cX1_carry 6 = .ok (.istore_n 3, 1) := by decide +kernel
theorem dX1_carry_7 : decode cX1_carry 7 = .ok (.aload_n 1, 1) := by decide +kernel
theorem dX1_carry_8 : decode cX1_carry 8 = .ok (.iload_n 3, 1) := by decide +kernel
theorem dX1_carry_9 : decode cX1_carry 9 = .ok (.aload_n 0, 1) := by decide +kernel
theorem dX1_carry_10 : decode cX1_carry 10 = .ok (.iload_n 3, 1) := by decide +kernel
theorem dX1_carry_11 : decode cX1_carry 11 = .ok (.invokevirtual 71, 3) := by decide +kernel
theorem dX1_carry_14 : decode cX1_carry 14 = .ok (.aload_n 0, 1) := by decide +kernel
theorem dX1_carry_15 : decode cX1_carry 15 = .ok (.getfield 22, 3) := by decide +kernel
theorem dX1_carry_18 : decode cX1_carry 18 = .ok (.invokevirtual 83, 3) := by decide +kernel
theorem dX1_carry_21 : decode cX1_carry 21 = .ok (.return_, 1) := by decide +kernel
theorem dX2_init_0 : decode cX2_init 0 = .ok (.aload_n 0, 1) := by decide +kernel
theorem dX2_init_1 : decode cX2_init 1 = .ok (.invokespecial 3, 3) := by decide +kernel
theorem dX2_init_4 : decode cX2_init 4 = .ok (.aload_n 0, 1) := by decide +kernel
theorem dX2_init_5 : decode cX2_init 5 = .ok (.iconst 0, 1) := by decide +kernel
theorem dX2_init_6 : decode cX2_init 6 = .ok (.putfield 9, 3) := by decide +kernel
theorem dX2_init_9 : decode cX2_init 9 = .ok (.aload_n 0, 1) := by decide +kernel
theorem dX2_init_10 : decode cX2_init 10 = .ok (.iconst 0, 1) := by decide +kernel
theorem dX2_init_11 : decode cX2_init 11 = .ok (.putfield 15, 3) := by decide +kernel
theorem dX2_init_14 : decode cX2_init 14 = .ok (.aload_n 0, 1) := by decide +kernel
theorem dX2_init_15 : decode cX2_init 15 = .ok (.bipush 40, 2) := by decide +kernel
theorem dX2_init_17 : decode cX2_init 17 = .ok (.newarray .long, 2) := by decide +kernel
theorem dX2_init_19 : decode cX2_init 19 = .ok (.putfield 18, 3) := by decide +kernel
theorem dX2_init_22 : decode cX2_init 22 = .ok (.return_, 1) := by decide +kernel
theorem dX2_begin_0 : decode cX2_begin 0 = .ok (.aload_n 0, 1) := by decide +kernel
theorem dX2_begin_1 : decode cX2_begin 1 = .ok (.iload_n 1, 1) := by decide +kernel
theorem dX2_begin_2 : decode cX2_begin 2 = .ok (.putfield 9, 3) := by decide +kernel
theorem dX2_begin_5 : decode cX2_begin 5 = .ok (.aload_n 0, 1) := by decide +kernel
theorem dX2_begin_6 : decode cX2_begin 6 = .ok (.iload_n 2, 1) := by decide +kernel
theorem dX2_begin_7 : decode cX2_begin 7 = .ok (.putfield 15, 3) := by decide +kernel
theorem dX2_begin_10 : decode cX2_begin 10 = .ok (.iconst 0, 1) := by decide +kernel
theorem dX2_begin_11 : decode cX2_begin 11 = .ok (.istore_n 3, 1) := by decide +kernel
theorem dX2_begin_12 : decode cX2_begin 12 = .ok (.iload_n 3, 1) := by decide +kernel
theorem dX2_begin_13 : decode cX2_begin 13 = .ok (.bipush 40, 2) := by decide +kernel
theorem dX2_begin_15 : decode cX2_begin 15 = .ok (.if_icmp .ge 16, 3) := by decide +kernel
theorem dX2_begin_18 : decode cX2_begin 18 = .ok (.aload_n 0, 1) := by decide +kernel
theorem dX2_begin_19 : decode cX2_begin 19 = .ok (.getfield 18, 3) := by decide +kernel
theorem dX2_begin_22 : decode cX2_begin 22 = .ok (.iload_n 3, 1) := by decide +kernel
theorem dX2_begin_23 : decode cX2_begin 23 = .ok (.lconst 0, 1) := by decide +kernel
theorem dX2_begin_24 : decode cX2_begin 24 = .ok (.lastore, 1) := by decide +kernel
theorem dX2_begin_25 : decode cX2_begin 25 = .ok (.iinc 3 1, 3) := by decide +kernel
theorem dX2_begin_28 : decode cX2_begin 28 = .ok (.goto (-16), 3) := by decide +kernel
theorem dX2_begin_31 : decode cX2_begin 31 = .ok (.return_, 1) := by decide +kernel
theorem dX2_isMissing_0 : decode cX2_isMissing 0 = .ok (.aload_n 0, 1) := by decide +kernel
theorem dX2_isMissing_1 : decode cX2_isMissing 1 = .ok (.getfield 9, 3) := by decide +kernel
theorem dX2_isMissing_4 : decode cX2_isMissing 4 = .ok (.ifCond .ne 7, 3) := by decide +kernel
theorem dX2_isMissing_7 : decode cX2_isMissing 7 = .ok (.iconst 1, 1) := by decide +kernel
theorem dX2_isMissing_8 : decode cX2_isMissing 8 = .ok (.goto 4, 3) := by decide +kernel
theorem dX2_isMissing_11 : decode cX2_isMissing 11 = .ok (.iconst 0, 1) := by decide +kernel
theorem dX2_isMissing_12 : decode cX2_isMissing 12 = .ok (.ireturn, 1) := by decide +kernel
theorem dX2_spans_0 : decode cX2_spans 0 = .ok (.iload_n 1, 1) := by decide +kernel
theorem dX2_spans_1 : decode cX2_spans 1 = .ok (.ifCond .lt 29, 3) := by decide +kernel
theorem dX2_spans_4 : decode cX2_spans 4 = .ok (.iload_n 2, 1) := by decide +kernel
theorem dX2_spans_5 : decode cX2_spans 5 = .ok (.ifCond .lt 25, 3) := by decide +kernel
theorem dX2_spans_8 : decode cX2_spans 8 = .ok (.iload_n 2, 1) := by decide +kernel
theorem dX2_spans_9 : decode cX2_spans 9 = .ok (.aload_n 0, 1) := by decide +kernel
theorem dX2_spans_10 : decode cX2_spans 10 = .ok (.getfield 15, 3) := by decide +kernel
theorem dX2_spans_13 : decode cX2_spans 13 = .ok (.if_icmp .gt 17, 3) := by decide +kernel
theorem dX2_spans_16 : decode cX2_spans 16 = .ok (.iload_n 1, 1) := by decide +kernel
theorem dX2_spans_17 : decode cX2_spans 17 = .ok (.aload_n 0, 1) := by decide +kernel
theorem dX2_spans_18 : decode cX2_spans 18 = .ok (.getfield 15, 3) := by decide +kernel
theorem dX2_spans_21 : decode cX2_spans 21 = .ok (.iload_n 2, 1) := by decide +kernel
theorem dX2_spans_22 : decode cX2_spans 22 = .ok (.isub, 1) := by decide +kernel
theorem dX2_spans_23 : decode cX2_spans 23 = .ok (.if_icmp .gt 7, 3) := by decide +kernel
theorem dX2_spans_26 : decode cX2_spans 26 = .ok (.iconst 1, 1) := by decide +kernel
theorem dX2_spans_27 : decode cX2_spans 27 = .ok (.goto 4, 3) := by decide +kernel
theorem dX2_spans_30 : decode cX2_spans 30 = .ok (.iconst 0, 1) := by decide +kernel
theorem dX2_spans_31 : decode cX2_spans 31 = .ok (.ireturn, 1) := by decide +kernel
theorem dX2_put_0 : decode cX2_put 0 = .ok (.iload_n 1, 1) := by decide +kernel
theorem dX2_put_1 : decode cX2_put 1 = .ok (.ifCond .lt 22, 3) := by decide +kernel
theorem dX2_put_4 : decode cX2_put 4 = .ok (.iload_n 1, 1) := by decide +kernel
theorem dX2_put_5 : decode cX2_put 5 = .ok (.aload_n 0, 1) := by decide +kernel
theorem dX2_put_6 : decode cX2_put 6 = .ok (.getfield 15, 3) := by decide +kernel
theorem dX2_put_9 : decode cX2_put 9 = .ok (.if_icmp .ge 14, 3) := by decide +kernel
theorem dX2_put_12 : decode cX2_put 12 = .ok (.aload_n 0, 1) := by decide +kernel
theorem dX2_put_13 : decode cX2_put 13 = .ok (.getfield 18, 3) := by decide +kernel
theorem dX2_put_16 : decode cX2_put 16 = .ok (.iload_n 1, 1) := by decide +kernel
theorem dX2_put_17 : decode cX2_put 17 = .ok (.aload_n 0, 1) := by decide +kernel
theorem dX2_put_18 : decode cX2_put 18 = .ok (.lload_n 2, 1) := by decide +kernel
theorem dX2_put_19 : decode cX2_put 19 = .ok (.invokevirtual 22, 3) := by decide +kernel
theorem dX2_put_22 : decode cX2_put 22 = .ok (.lastore, 1) := by decide +kernel
theorem dX2_put_23 : decode cX2_put 23 = .ok (.return_, 1) := by decide +kernel
theorem dX2_lowest_0 : decode cX2_lowest 0 = .ok (.aload_n 0, 1) := by decide +kernel
theorem dX2_lowest_1 : decode cX2_lowest 1 = .ok (.getfield 9, 3) := by decide +kernel
theorem dX2_lowest_4 : decode cX2_lowest 4 = .ok (.bipush 8, 2) := by decide +kernel
theorem dX2_lowest_6 : decode cX2_lowest 6 = .ok (.if_icmp .ne 8, 3) := by decide +kernel
theorem dX2_lowest_9 : decode cX2_lowest 9 = .ok (.lload_n 1, 1) := by decide +kernel
theorem dX2_lowest_10 : decode cX2_lowest 10 = .ok (.l2i, 1) := by decide +kernel
theorem dX2_lowest_11 : decode cX2_lowest 11 = .ok (.i2b, 1) := by decide +kernel
theorem dX2_lowest_12 : decode cX2_lowest 12 = .ok (.i2l, 1) := by decide +kernel
theorem dX2_lowest_13 : decode cX2_lowest 13 = .ok (.lreturn, 1) := by decide +kernel
theorem dX2_lowest_14 : decode cX2_lowest 14 = .ok (.aload_n 0, 1) := by decide +kernel
theorem dX2_lowest_15 : decode cX2_lowest 15 = .ok (.getfield 9, 3) := by decide +kernel
theorem dX2_lowest_18 : decode cX2_lowest 18 = .ok (.bipush 16, 2) := by decide +kernel
theorem dX2_lowest_20 : decode cX2_lowest 20 = .ok (.if_icmp .ne 10, 3) := by decide +kernel
theorem dX2_lowest_23 : decode cX2_lowest 23 = .ok (.lload_n 1, 1) := by decide +kernel
theorem dX2_lowest_24 : decode cX2_lowest 24 = .ok (.l2i, 1) := by decide +kernel
theorem dX2_lowest_25 : decode cX2_lowest 25 = .ok (.i2s, 1) := by decide +kernel
theorem dX2_lowest_26 : decode cX2_lowest 26 = .ok (.i2l, 1) := by decide +kernel
theorem dX2_lowest_27 : decode cX2_lowest 27 = .ok (.goto 4, 3) := by decide +kernel
theorem dX2_lowest_30 : decode cX2_lowest 30 = .ok (.lload_n 1, 1) := by decide +kernel
theorem dX2_lowest_31 : decode cX2_lowest 31 = .ok (.lreturn, 1) := by decide +kernel
theorem dX3_init_0 : decode cX3_init 0 = .ok (.aload_n 0, 1) := by decide +kernel
theorem dX3_init_1 : decode cX3_init 1 = .ok (.invokespecial 3, 3) := by decide +kernel
theorem dX3_init_4 : decode cX3_init 4 = .ok (.aload_n 0, 1) := by decide +kernel
theorem dX3_init_5 : decode cX3_init 5 = .ok (.bipush 120, 2) := by decide +kernel
theorem dX3_init_7 : decode cX3_init 7 = .ok (.newarray .int, 2) := by decide +kernel
theorem dX3_init_9 : decode cX3_init 9 = .ok (.putfield 9, 3) := by decide +kernel
theorem dX3_init_12 : decode cX3_init 12 = .ok (.aload_n 0, 1) := by decide +kernel
theorem dX3_init_13 : decode cX3_init 13 = .ok (.iconst 0, 1) := by decide +kernel
theorem dX3_init_14 : decode cX3_init 14 = .ok (.putfield 15, 3) := by decide +kernel
theorem dX3_init_17 : decode cX3_init 17 = .ok (.return_, 1) := by decide +kernel
theorem dX3_put_0 : decode cX3_put 0 = .ok (.aload_n 0, 1) := by decide +kernel
theorem dX3_put_1 : decode cX3_put 1 = .ok (.getfield 15, 3) := by decide +kernel
theorem dX3_put_4 : decode cX3_put 4 = .ok (.bipush 120, 2) := by decide +kernel
theorem dX3_put_6 : decode cX3_put 6 = .ok (.if_icmp .ge 23, 3) := by decide +kernel
theorem dX3_put_9 : decode cX3_put 9 = .ok (.aload_n 0, 1) := by decide +kernel
theorem dX3_put_10 : decode cX3_put 10 = .ok (.getfield 9, 3) := by decide +kernel
theorem dX3_put_13 : decode cX3_put 13 = .ok (.aload_n 0, 1) := by decide +kernel
theorem dX3_put_14 : decode cX3_put 14 = .ok (.getfield 15, 3) := by decide +kernel
theorem dX3_put_17 : decode cX3_put 17 = .ok (.iload_n 1, 1) := by decide +kernel
theorem dX3_put_18 : decode cX3_put 18 = .ok (.iastore, 1) := by decide +kernel
theorem dX3_put_19 : decode cX3_put 19 = .ok (.aload_n 0, 1) := by decide +kernel
theorem dX3_put_20 : decode cX3_put 20 = .ok (.dup, 1) := by decide +kernel
theorem dX3_put_21 : decode cX3_put 21 = .ok (.getfield 15, 3) := by decide +kernel
theorem dX3_put_24 : decode cX3_put 24 = .ok (.iconst 1, 1) := by decide +kernel
theorem dX3_put_25 : decode cX3_put 25 = .ok (.iadd, 1) := by decide +kernel
theorem dX3_put_26 : decode cX3_put 26 = .ok (.putfield 15, 3) := by decide +kernel
theorem dX3_put_29 : decode cX3_put 29 = .ok (.return_, 1) := by decide +kernel
theorem dX3_begin_0 : decode cX3_begin 0 = .ok (.aload_n 0, 1) := by decide +kernel
theorem dX3_begin_1 : decode cX3_begin 1 = .ok (.iconst 0, 1) := by decide +kernel
theorem dX3_begin_2 : decode cX3_begin 2 = .ok (.putfield 19, 3) := by decide +kernel
theorem dX3_begin_5 : decode cX3_begin 5 = .ok (.aload_n 0, 1) := by decide +kernel
theorem dX3_begin_6 : decode cX3_begin 6 = .ok (.invokevirtual 22, 3) := by decide +kernel
theorem dX3_begin_9 : decode cX3_begin 9 = .ok (.return_, 1) := by decide +kernel
theorem dX3_nextToken_0 : decode cX3_nextToken 0 = .ok (.aload_n 0, 1) := by decide +kernel
theorem dX3_nextToken_1 : decode cX3_nextToken 1 = .ok (.aload_n 0, 1) := by decide +kernel
theorem dX3_nextToken_2 : decode cX3_nextToken 2 = .ok (.getfield 19, 3) := by decide +kernel
theorem dX3_nextToken_5 : decode cX3_nextToken 5 = .ok (.putfield 25, 3) := by decide +kernel
theorem dX3_nextToken_8 : decode cX3_nextToken 8 = .ok (.aload_n 0, 1) := by decide +kernel
theorem dX3_nextToken_9 : decode cX3_nextToken 9 = .ok (.getfield 25, 3) := by decide +kernel
theorem dX3_nextToken_12 : decode cX3_nextToken 12 = .ok (.aload_n 0, 1) := by decide +kernel
theorem dX3_nextToken_13 : decode cX3_nextToken 13 = .ok (.getfield 15, 3) := by decide +kernel
theorem dX3_nextToken_16 : decode cX3_nextToken 16 = .ok (.if_icmp .ge 30, 3) := by decide +kernel
theorem dX3_nextToken_19 : decode cX3_nextToken 19 = .ok (.aload_n 0, 1) := by decide +kernel
theorem dX3_nextToken_20 : decode cX3_nextToken 20 = .ok (.getfield 9, 3) := by decide +kernel
theorem dX3_nextToken_23 : decode cX3_nextToken 23 = .ok (.aload_n 0, 1) := by decide +kernel
theorem dX3_nextToken_24 : decode cX3_nextToken 24 = .ok (.getfield 25, 3) := by decide +kernel
theorem dX3_nextToken_27 : decode cX3_nextToken 27 = .ok (.iaload, 1) := by decide +kernel
theorem dX3_nextToken_28 : decode cX3_nextToken 28 = .ok (.bipush 32, 2) := by decide +kernel
theorem dX3_nextToken_30 : decode cX3_nextToken 30 = .ok (.if_icmp .ne 16, 3) := by decide +kernel
theorem dX3_nextToken_33 : decode cX3_nextToken 33 = .ok (.aload_n 0, 1) := by decide +kernel
theorem dX3_nextToken_34 : decode cX3_nextToken 34 = .ok (.dup, 1) := by decide +kernel
theorem dX3_nextToken_35 : decode cX3_nextToken 35 = .ok (.getfield 25, 3) := by decide +kernel
theorem dX3_nextToken_38 : decode cX3_nextToken 38 = .ok (.iconst 1, 1) := by decide +kernel
theorem dX3_nextToken_39 : decode cX3_nextToken 39 = .ok (.iadd, 1) := by decide +kernel
theorem dX3_nextToken_40 : decode cX3_nextToken 40 = .ok (.putfield 25, 3) := by decide +kernel
theorem dX3_nextToken_43 : decode cX3_nextToken 43 = .ok (.goto (-35), 3) := by decide +kernel
theorem dX3_nextToken_46 : decode cX3_nextToken 46 = .ok (.aload_n 0, 1) := by decide +kernel
theorem dX3_nextToken_47 : decode cX3_nextToken 47 = .ok (.aload_n 0, 1) := by decide +kernel
theorem dX3_nextToken_48 : decode cX3_nextToken 48 = .ok (.getfield 25, 3) := by decide +kernel
theorem dX3_nextToken_51 : decode cX3_nextToken 51 = .ok (.putfield 19, 3) := by decide +kernel
theorem dX3_nextToken_54 : decode cX3_nextToken 54 = .ok (.aload_n 0, 1) := by decide +kernel
theorem dX3_nextToken_55 : decode cX3_nextToken 55 = .ok (.iconst 0, 1) := by decide +kernel
theorem dX3_nextToken_56 : decode cX3_nextToken 56 = .ok (.putfield 28, 3) := by decide +kernel
theorem dX3_nextToken_59 : decode cX3_nextToken 59 = .ok (.aload_n 0, 1) := by decide +kernel
theorem dX3_nextToken_60 : decode cX3_nextToken 60 = .ok (.getfield 25, 3) := by decide +kernel
theorem dX3_nextToken_63 : decode cX3_nextToken 63 = .ok (.aload_n 0, 1) := by decide +kernel
theorem dX3_nextToken_64 : decode cX3_nextToken 64 = .ok (.getfield 15, 3) := by decide +kernel
theorem dX3_nextToken_67 : decode cX3_nextToken 67 = .ok (.if_icmp .ge 29, 3) := by decide +kernel
theorem dX3_nextToken_70 : decode cX3_nextToken 70 = .ok (.aload_n 0, 1) := by decide +kernel
theorem dX3_nextToken_71 : decode cX3_nextToken 71 = .ok (.aload_n 0, 1) := by decide +kernel
theorem dX3_nextToken_72 : decode cX3_nextToken 72 = .ok (.getfield 9, 3) := by decide +kernel
theorem dX3_nextToken_75 : decode cX3_nextToken 75 = .ok (.aload_n 0, 1) := by decide +kernel
theorem dX3_nextToken_76 : decode cX3_nextToken 76 = .ok (.getfield 25, 3) := by decide +kernel
theorem dX3_nextToken_79 : decode cX3_nextToken 79 = .ok (.iaload, 1) := by decide +kernel
theorem dX3_nextToken_80 : decode cX3_nextToken 80 = .ok (.invokestatic 31, 3) := by decide +kernel
theorem dX3_nextToken_83 : decode cX3_nextToken 83 = .ok (.putfield 28, 3) := by decide +kernel
theorem dX3_nextToken_86 : decode cX3_nextToken 86 = .ok (.aload_n 0, 1) := by decide +kernel
theorem dX3_nextToken_87 : decode cX3_nextToken 87 = .ok (.dup, 1) := by decide +kernel
theorem dX3_nextToken_88 : decode cX3_nextToken 88 = .ok (.getfield 19, 3) := by decide +kernel
theorem dX3_nextToken_91 : decode cX3_nextToken 91 = .ok (.iconst 1, 1) := by decide +kernel
theorem dX3_nextToken_92 : decode cX3_nextToken 92 = .ok (.iadd, 1) := by decide +kernel
theorem dX3_nextToken_93 : decode cX3_nextToken 93 = .ok (.putfield 19, 3) := by decide +kernel
theorem dX3_nextToken_96 : decode cX3_nextToken 96 = .ok (.aload_n 0, 1) := by decide +kernel
theorem dX3_nextToken_97 : decode cX3_nextToken 97 = .ok (.getfield 28, 3) := by decide +kernel
theorem dX3_nextToken_100 : decode cX3_nextToken 100 = .ok (.iconst 1, 1) := by decide +kernel
theorem dX3_nextToken_101 : decode cX3_nextToken 101 = .ok (.if_icmp .eq 11, 3) := by decide +kernel
theorem dX3_nextToken_104 : decode cX3_nextToken 104 = .ok (.aload_n 0, 1) := by decide +kernel
theorem dX3_nextToken_105 : decode cX3_nextToken 105 = .ok (.getfield 28, 3) := by decide +kernel
theorem dX3_nextToken_108 : decode cX3_nextToken 108 = .ok (.iconst 2, 1) := by decide +kernel
theorem dX3_nextToken_109 : decode cX3_nextToken 109 = .ok (.if_icmp .ne 46, 3) := by decide +kernel
theorem dX3_nextToken_112 : decode cX3_nextToken 112 = .ok (.aload_n 0, 1) := by decide +kernel
theorem dX3_nextToken_113 : decode cX3_nextToken 113 = .ok (.getfield 19, 3) := by decide +kernel
theorem dX3_nextToken_116 : decode cX3_nextToken 116 = .ok (.aload_n 0, 1) := by decide +kernel
theorem dX3_nextToken_117 : decode cX3_nextToken 117 = .ok (.getfield 15, 3) := by decide +kernel
theorem dX3_nextToken_120 : decode cX3_nextToken 120 = .ok (.if_icmp .ge 35, 3) := by decide +kernel
theorem dX3_nextToken_123 : decode cX3_nextToken 123 = .ok (.aload_n 0, 1) := by decide +kernel
theorem dX3_nextToken_124 : decode cX3_nextToken 124 = .ok (.getfield 9, 3) := by decide +kernel
theorem dX3_nextToken_127 : decode cX3_nextToken 127 = .ok (.aload_n 0, 1) := by decide +kernel
theorem dX3_nextToken_128 : decode cX3_nextToken 128 = .ok (.getfield 19, 3) := by decide +kernel
theorem dX3_nextToken_131 : decode cX3_nextToken 131 = .ok (.iaload, 1) := by decide +kernel
theorem dX3_nextToken_132 : decode cX3_nextToken 132 = .ok (.invokestatic 31, 3) := by decide +kernel
theorem dX3_nextToken_135 : decode cX3_nextToken 135 = .ok (.aload_n 0, 1) := by decide +kernel
theorem dX3_nextToken_136 : decode cX3_nextToken 136 = .ok (.getfield 28, 3) := by decide +kernel
theorem dX3_nextToken_139 : decode cX3_nextToken 139 = .ok (.if_icmp .ne 16, 3) := by decide +kernel
theorem dX3_nextToken_142 : decode cX3_nextToken 142 = .ok (.aload_n 0, 1) := by decide +kernel
theorem dX3_nextToken_143 : decode cX3_nextToken 143 = .ok (.dup, 1) := by decide +kernel
theorem dX3_nextToken_144 : decode cX3_nextToken 144 = .ok (.getfield 19, 3) := by decide +kernel
theorem dX3_nextToken_147 : decode cX3_nextToken 147 = .ok (.iconst 1, 1) := by decide +kernel
theorem dX3_nextToken_148 : decode cX3_nextToken 148 = .ok (.iadd, 1) := by decide +kernel
theorem dX3_nextToken_149 : decode cX3_nextToken 149 = .ok (.putfield 19, 3) := by decide +kernel
theorem dX3_nextToken_152 : decode cX3_nextToken 152 = .ok (.goto (-40), 3) := by decide +kernel
theorem dX3_nextToken_155 : decode cX3_nextToken 155 = .ok (.return_, 1) := by decide +kernel
theorem dX3_isWord_0 : decode cX3_isWord 0 = .ok (.aload_n 0, 1) := by decide +kernel
theorem dX3_isWord_1 : decode cX3_isWord 1 = .ok (.getfield 28, 3) := by decide +kernel
theorem dX3_isWord_4 : decode cX3_isWord 4 = .ok (.iconst 1, 1) := by decide +kernel
theorem dX3_isWord_5 : decode cX3_isWord 5 = .ok (.if_icmp .ne 19, 3) := by decide +kernel
theorem dX3_isWord_8 : decode cX3_isWord 8 = .ok (.aload_n 0, 1) := by decide +kernel
theorem dX3_isWord_9 : decode cX3_isWord 9 = .ok (.getfield 19, 3) := by decide +kernel
theorem dX3_isWord_12 : decode cX3_isWord 12 = .ok (.aload_n 0, 1) := by decide +kernel
theorem dX3_isWord_13 : decode cX3_isWord 13 = .ok (.getfield 25, 3) := by decide +kernel
theorem dX3_isWord_16 : decode cX3_isWord 16 = .ok (.isub, 1) := by decide +kernel
theorem dX3_isWord_17 : decode cX3_isWord 17 = .ok (.aload_n 1, 1) := by decide +kernel
theorem dX3_isWord_18 : decode cX3_isWord 18 = .ok (.invokevirtual 35, 3) := by decide +kernel
theorem dX3_isWord_21 : decode cX3_isWord 21 = .ok (.if_icmp .eq 5, 3) := by decide +kernel
theorem dX3_isWord_24 : decode cX3_isWord 24 = .ok (.iconst 0, 1) := by decide +kernel
theorem dX3_isWord_25 : decode cX3_isWord 25 = .ok (.ireturn, 1) := by decide +kernel
theorem dX3_isWord_26 : decode cX3_isWord 26 = .ok (.iconst 0, 1) := by decide +kernel
theorem dX3_isWord_27 : decode cX3_isWord 27 = .ok (.istore_n 2, 1) := by decide +kernel
theorem dX3_isWord_28 : decode cX3_isWord 28 = .ok (.iload_n 2, 1) := by decide +kernel
theorem dX3_isWord_29 : decode cX3_isWord 29 = .ok (.aload_n 1, 1) := by decide +kernel
theorem dX3_isWord_30 : decode cX3_isWord 30 = .ok (.invokevirtual 35, 3) := by decide +kernel
theorem dX3_isWord_33 : decode cX3_isWord 33 = .ok (.if_icmp .ge 30, 3) := by decide +kernel
theorem dX3_isWord_36 : decode cX3_isWord 36 = .ok (.aload_n 0, 1) := by decide +kernel
theorem dX3_isWord_37 : decode cX3_isWord 37 = .ok (.getfield 9, 3) := by decide +kernel
theorem dX3_isWord_40 : decode cX3_isWord 40 = .ok (.aload_n 0, 1) := by decide +kernel
theorem dX3_isWord_41 : decode cX3_isWord 41 = .ok (.getfield 25, 3) := by decide +kernel
theorem dX3_isWord_44 : decode cX3_isWord 44 = .ok (.iload_n 2, 1) := by decide +kernel
theorem dX3_isWord_45 : decode cX3_isWord 45 = .ok (.iadd, 1) := by decide +kernel
theorem dX3_isWord_46 : decode cX3_isWord 46 = .ok (.iaload, 1) := by decide +kernel
theorem dX3_isWord_47 : decode cX3_isWord 47 = .ok (.aload_n 1, 1) := by decide +kernel
theorem dX3_isWord_48 : decode cX3_isWord 48 = .ok (.iload_n 2, 1) := by decide +kernel
theorem dX3_isWord_49 : decode cX3_isWord 49 = .ok (.invokevirtual 40, 3) := by decide +kernel
theorem dX3_isWord_52 : decode cX3_isWord 52 = .ok (.if_icmp .eq 5, 3) := by decide +kernel
theorem dX3_isWord_55 : decode cX3_isWord 55 = .ok (.iconst 0, 1) := by decide +kernel
theorem dX3_isWord_56 : decode cX3_isWord 56 = .ok (.ireturn, 1) := by decide +kernel
theorem dX3_isWord_57 : decode cX3_isWord 57 = .ok (.iinc 2 1, 3) := by decide +kernel
theorem dX3_isWord_60 : decode cX3_isWord 60 = .ok (.goto (-32), 3) := by decide +kernel
theorem dX3_isWord_63 : decode cX3_isWord 63 = .ok (.iconst 1, 1) := by decide +kernel
theorem dX3_isWord_64 : decode cX3_isWord 64 = .ok (.ireturn, 1) := by decide +kernel
theorem dX3_number_0 : decode cX3_number 0 = .ok (.iconst 0, 1) := by decide +kernel
theorem dX3_number_1 : decode cX3_number 1 = .ok (.istore_n 1, 1) := by decide +kernel
theorem dX3_number_2 : decode cX3_number 2 = .ok (.aload_n 0, 1) := by decide +kernel
theorem dX3_number_3 : decode cX3_number 3 = .ok (.getfield 25, 3) := by decide +kernel
theorem dX3_number_6 : decode cX3_number 6 = .ok (.istore_n 2, 1) := by decide +kernel
theorem dX3_number_7 : decode cX3_number 7 = .ok (.iload_n 2, 1) := by decide +kernel
theorem dX3_number_8 : decode cX3_number 8 = .ok (.aload_n 0, 1) := by decide +kernel
theorem dX3_number_9 : decode cX3_number 9 = .ok (.getfield 19, 3) := by decide +kernel
theorem dX3_number_12 : decode cX3_number 12 = .ok (.if_icmp .ge 30, 3) := by decide +kernel
theorem dX3_number_15 : decode cX3_number 15 = .ok (.sipush 1000, 3) := by decide +kernel
theorem dX3_number_18 : decode cX3_number 18 = .ok (.iload_n 1, 1) := by decide +kernel
theorem dX3_number_19 : decode cX3_number 19 = .ok (.bipush 10, 2) := by decide +kernel
theorem dX3_number_21 : decode cX3_number 21 = .ok (.imul, 1) := by decide +kernel
theorem dX3_number_22 : decode cX3_number 22 = .ok (.aload_n 0, 1) := by decide +kernel
theorem dX3_number_23 : decode cX3_number 23 = .ok (.getfield 9, 3) := by decide +kernel
theorem dX3_number_26 : decode cX3_number 26 = .ok (.iload_n 2, 1) := by decide +kernel
theorem dX3_number_27 : decode cX3_number 27 = .ok (.iaload, 1) := by decide +kernel
theorem dX3_number_28 : decode cX3_number 28 = .ok (.iadd, 1) := by decide +kernel
theorem dX3_number_29 : decode cX3_number 29 = .ok (.bipush 48, 2) := by decide +kernel
theorem dX3_number_31 : decode cX3_number 31 = .ok (.isub, 1) := by decide +kernel
theorem dX3_number_32 : decode cX3_number 32 = .ok (.invokestatic 44, 3) := by decide +kernel
theorem dX3_number_35 : decode cX3_number 35 = .ok (.istore_n 1, 1) := by decide +kernel
theorem dX3_number_36 : decode cX3_number 36 = .ok (.iinc 2 1, 3) := by decide +kernel
theorem dX3_number_39 : decode cX3_number 39 = .ok (.goto (-32), 3) := by decide +kernel
theorem dX3_number_42 : decode cX3_number 42 = .ok (.iload_n 1, 1) := by decide +kernel
theorem dX3_number_43 : decode cX3_number 43 = .ok (.ireturn, 1) := by decide +kernel
theorem dX3_tokenOf_0 : decode cX3_tokenOf 0 = .ok (.iload_n 0, 1) := by decide +kernel
theorem dX3_tokenOf_1 : decode cX3_tokenOf 1 = .ok (.bipush 97, 2) := by decide +kernel
theorem dX3_tokenOf_3 : decode cX3_tokenOf 3 = .ok (.if_icmp .lt 11, 3) := by decide +kernel
theorem dX3_tokenOf_6 : decode cX3_tokenOf 6 = .ok (.iload_n 0, 1) := by decide +kernel
theorem dX3_tokenOf_7 : decode cX3_tokenOf 7 = .ok (.bipush 122, 2) := by decide +kernel
theorem dX3_tokenOf_9 : decode cX3_tokenOf 9 = .ok (.if_icmp .gt 5, 3) := by decide +kernel
theorem dX3_tokenOf_12 : decode cX3_tokenOf 12 = .ok (.iconst 1, 1) := by decide +kernel
theorem dX3_tokenOf_13 : decode cX3_tokenOf 13 = .ok (.ireturn, 1) := by decide +kernel
theorem dX3_tokenOf_14 : decode cX3_tokenOf 14 = .ok (.iload_n 0, 1) := by decide +kernel
theorem dX3_tokenOf_15 : decode cX3_tokenOf 15 = .ok (.bipush 48, 2) := by decide +kernel
theorem dX3_tokenOf_17 : decode cX3_tokenOf 17 = .ok (.if_icmp .lt 11, 3) := by decide +kernel
theorem dX3_tokenOf_20 : decode cX3_tokenOf 20 = .ok (.iload_n 0, 1) := by decide +kernel
theorem dX3_tokenOf_21 : decode cX3_tokenOf 21 = .ok (.bipush 57, 2) := by decide +kernel
theorem dX3_tokenOf_23 : decode cX3_tokenOf 23 = .ok (.if_icmp .gt 5, 3) := by decide +kernel
theorem dX3_tokenOf_26 : decode cX3_tokenOf 26 = .ok (.iconst 2, 1) := by decide +kernel
theorem dX3_tokenOf_27 : decode cX3_tokenOf 27 = .ok (.ireturn, 1) := by decide +kernel
theorem dX3_tokenOf_28 : decode cX3_tokenOf 28 = .ok (.iload_n 0, 1) := by decide +kernel
theorem dX3_tokenOf_29 : decode cX3_tokenOf 29 = .ok (.bipush 59, 2) := by decide +kernel
theorem dX3_tokenOf_31 : decode cX3_tokenOf 31 = .ok (.if_icmp .ne 7, 3) := by decide +kernel
theorem dX3_tokenOf_34 : decode cX3_tokenOf 34 = .ok (.iconst 3, 1) := by decide +kernel
theorem dX3_tokenOf_35 : decode cX3_tokenOf 35 = .ok (.goto 4, 3) := by decide +kernel
theorem dX3_tokenOf_38 : decode cX3_tokenOf 38 = .ok (.iconst 4, 1) := by decide +kernel
theorem dX3_tokenOf_39 : decode cX3_tokenOf 39 = .ok (.ireturn, 1) := by decide +kernel
theorem dX4_init_0 : decode cX4_init 0 = .ok (.aload_n 0, 1) := by decide +kernel
theorem dX4_init_1 : decode cX4_init 1 = .ok (.invokespecial 3, 3) := by decide +kernel
theorem dX4_init_4 : decode cX4_init 4 = .ok (.aload_n 0, 1) := by decide +kernel
theorem dX4_init_5 : decode cX4_init 5 = .ok (.aload_n 1, 1) := by decide +kernel
theorem dX4_init_6 : decode cX4_init 6 = .ok (.putfield 9, 3) := by decide +kernel
theorem dX4_init_9 : decode cX4_init 9 = .ok (.return_, 1) := by decide +kernel
theorem dX4_tell_0 : decode cX4_tell 0 = .ok (.aload_n 0, 1) := by decide +kernel
theorem dX4_tell_1 : decode cX4_tell 1 = .ok (.getfield 9, 3) := by decide +kernel
theorem dX4_tell_4 : decode cX4_tell 4 = .ok (.invokevirtual 15, 3) := by decide +kernel
theorem dX4_tell_7 : decode cX4_tell 7 = .ok (.iconst 1, 1) := by decide +kernel
theorem dX4_tell_8 : decode cX4_tell 8 = .ok (.istore_n 2, 1) := by decide +kernel
theorem dX4_tell_9 : decode cX4_tell 9 = .ok (.iload_n 2, 1) := by decide +kernel
theorem dX4_tell_10 : decode cX4_tell 10 = .ok (.bipush 120, 2) := by decide +kernel
theorem dX4_tell_12 : decode cX4_tell 12 = .ok (.if_icmp .gt 67, 3) := by decide +kernel
theorem dX4_tell_15 : decode cX4_tell 15 = .ok (.aload_n 0, 1) := by decide +kernel
theorem dX4_tell_16 : decode cX4_tell 16 = .ok (.aload_n 1, 1) := by decide +kernel
theorem dX4_tell_17 : decode cX4_tell 17 = .ok (.invokevirtual 20, 3) := by decide +kernel
theorem dX4_tell_20 : decode cX4_tell 20 = .ok (.ifCond .ne 13, 3) := by decide +kernel
theorem dX4_tell_23 : decode cX4_tell 23 = .ok (.iconst (-1), 1) := by decide +kernel
theorem dX4_tell_24 : decode cX4_tell 24 = .ok (.aload_n 0, 1) := by decide +kernel
theorem dX4_tell_25 : decode cX4_tell 25 = .ok (.getfield 9, 3) := by decide +kernel
theorem dX4_tell_28 : decode cX4_tell 28 = .ok (.getfield 24, 3) := by decide +kernel
theorem dX4_tell_31 : decode cX4_tell 31 = .ok (.isub, 1) := by decide +kernel
theorem dX4_tell_32 : decode cX4_tell 32 = .ok (.ireturn, 1) := by decide +kernel
theorem dX4_tell_33 : decode cX4_tell 33 = .ok (.aload_n 0, 1) := by decide +kernel
theorem dX4_tell_34 : decode cX4_tell 34 = .ok (.getfield 9, 3) := by decide +kernel
theorem dX4_tell_37 : decode cX4_tell 37 = .ok (.getfield 28, 3) := by decide +kernel
theorem dX4_tell_40 : decode cX4_tell 40 = .ok (.ifCond .ne 5, 3) := by decide +kernel
theorem dX4_tell_43 : decode cX4_tell 43 = .ok (.iload_n 2, 1) := by decide +kernel
theorem dX4_tell_44 : decode cX4_tell 44 = .ok (.ireturn, 1) := by decide +kernel
theorem dX4_tell_45 : decode cX4_tell 45 = .ok (.aload_n 0, 1) := by decide +kernel
theorem dX4_tell_46 : decode cX4_tell 46 = .ok (.getfield 9, 3) := by decide +kernel
theorem dX4_tell_49 : decode cX4_tell 49 = .ok (.getfield 28, 3) := by decide +kernel
theorem dX4_tell_52 : decode cX4_tell 52 = .ok (.iconst 3, 1) := by decide +kernel
theorem dX4_tell_53 : decode cX4_tell 53 = .ok (.if_icmp .eq 13, 3) := by decide +kernel
theorem dX4_tell_56 : decode cX4_tell 56 = .ok (.iconst (-1), 1) := by decide +kernel
theorem dX4_tell_57 : decode cX4_tell 57 = .ok (.aload_n 0, 1) := by decide +kernel
theorem dX4_tell_58 : decode cX4_tell 58 = .ok (.getfield 9, 3) := by decide +kernel
theorem dX4_tell_61 : decode cX4_tell 61 = .ok (.getfield 24, 3) := by decide +kernel
theorem dX4_tell_64 : decode cX4_tell 64 = .ok (.isub, 1) := by decide +kernel
theorem dX4_tell_65 : decode cX4_tell 65 = .ok (.ireturn, 1) := by decide +kernel
theorem dX4_tell_66 : decode cX4_tell 66 = .ok (.aload_n 0, 1) := by decide +kernel
theorem dX4_tell_67 : decode cX4_tell 67 = .ok (.getfield 9, 3) := by decide +kernel
theorem dX4_tell_70 : decode cX4_tell 70 = .ok (.invokevirtual 31, 3) := by decide +kernel
theorem dX4_tell_73 : decode cX4_tell 73 = .ok (.iinc 2 1, 3) := by decide +kernel
theorem dX4_tell_76 : decode cX4_tell 76 = .ok (.goto (-67), 3) := by decide +kernel
theorem dX4_tell_79 : decode cX4_tell 79 = .ok (.iconst (-1), 1) := by decide +kernel
theorem dX4_tell_80 : decode cX4_tell 80 = .ok (.aload_n 0, 1) := by decide +kernel
theorem dX4_tell_81 : decode cX4_tell 81 = .ok (.getfield 9, 3) := by decide +kernel
theorem dX4_tell_84 : decode cX4_tell 84 = .ok (.getfield 24, 3) := by decide +kernel
theorem dX4_tell_87 : decode cX4_tell 87 = .ok (.isub, 1) := by decide +kernel
theorem dX4_tell_88 : decode cX4_tell 88 = .ok (.ireturn, 1) := by decide +kernel
theorem dX4_tellItem_0 : decode cX4_tellItem 0 = .ok (.aload_n 0, 1) := by decide +kernel
theorem dX4_tellItem_1 : decode cX4_tellItem 1 = .ok (.invokevirtual 34, 3) := by decide +kernel
theorem dX4_tellItem_4 : decode cX4_tellItem 4 = .ok (.istore_n 2, 1) := by decide +kernel
theorem dX4_tellItem_5 : decode cX4_tellItem 5 = .ok (.iload_n 2, 1) := by decide +kernel
theorem dX4_tellItem_6 : decode cX4_tellItem 6 = .ok (.iconst (-1), 1) := by decide +kernel
theorem dX4_tellItem_7 : decode cX4_tellItem 7 = .ok (.if_icmp .eq 10, 3) := by decide +kernel
theorem dX4_tellItem_10 : decode cX4_tellItem 10 = .ok (.aload_n 0, 1) := by decide +kernel
theorem dX4_tellItem_11 : decode cX4_tellItem 11 = .ok (.aload_n 1, 1) := by decide +kernel
theorem dX4_tellItem_12 : decode cX4_tellItem 12 = .ok (.iload_n 2, 1) := by decide +kernel
theorem dX4_tellItem_13 : decode cX4_tellItem 13 = .ok (.invokevirtual 38, 3) := by decide +kernel
theorem dX4_tellItem_16 : decode cX4_tellItem 16 = .ok (.ireturn, 1) := by decide +kernel
theorem dX4_tellItem_17 : decode cX4_tellItem 17 = .ok (.aload_n 0, 1) := by decide +kernel
theorem dX4_tellItem_18 : decode cX4_tellItem 18 = .ok (.ldc 42, 2) := by decide +kernel
theorem dX4_tellItem_20 : decode cX4_tellItem 20 = .ok (.invokevirtual 44, 3) := by decide +kernel
theorem dX4_tellItem_23 : decode cX4_tellItem 23 = .ok (.ifCond .eq 9, 3) := by decide +kernel
theorem dX4_tellItem_26 : decode cX4_tellItem 26 = .ok (.aload_n 0, 1) := by decide +kernel
theorem dX4_tellItem_27 : decode cX4_tellItem 27 = .ok (.aload_n 1, 1) := by decide +kernel
theorem dX4_tellItem_28 : decode cX4_tellItem 28 = .ok (.invokevirtual 48, 3) := by decide +kernel
theorem dX4_tellItem_31 : decode cX4_tellItem 31 = .ok (.ireturn, 1) := by decide +kernel
theorem dX4_tellItem_32 : decode cX4_tellItem 32 = .ok (.aload_n 0, 1) := by decide +kernel
theorem dX4_tellItem_33 : decode cX4_tellItem 33 = .ok (.ldc 51, 2) := by decide +kernel
theorem dX4_tellItem_35 : decode cX4_tellItem 35 = .ok (.invokevirtual 44, 3) := by decide +kernel
theorem dX4_tellItem_38 : decode cX4_tellItem 38 = .ok (.ifCond .eq 10, 3) := by decide +kernel
theorem dX4_tellItem_41 : decode cX4_tellItem 41 = .ok (.aload_n 0, 1) := by decide +kernel
theorem dX4_tellItem_42 : decode cX4_tellItem 42 = .ok (.aload_n 1, 1) := by decide +kernel
theorem dX4_tellItem_43 : decode cX4_tellItem 43 = .ok (.iconst 1, 1) := by decide +kernel
theorem dX4_tellItem_44 : decode cX4_tellItem 44 = .ok (.invokevirtual 53, 3) := by decide +kernel
theorem dX4_tellItem_47 : decode cX4_tellItem 47 = .ok (.ireturn, 1) := by decide +kernel
theorem dX4_tellItem_48 : decode cX4_tellItem 48 = .ok (.aload_n 0, 1) := by decide +kernel
theorem dX4_tellItem_49 : decode cX4_tellItem 49 = .ok (.ldc 57, 2) := by decide +kernel
theorem dX4_tellItem_51 : decode cX4_tellItem 51 = .ok (.invokevirtual 44, 3) := by decide +kernel
theorem dX4_tellItem_54 : decode cX4_tellItem 54 = .ok (.ifCond .eq 10, 3) := by decide +kernel
theorem dX4_tellItem_57 : decode cX4_tellItem 57 = .ok (.aload_n 0, 1) := by decide +kernel
theorem dX4_tellItem_58 : decode cX4_tellItem 58 = .ok (.aload_n 1, 1) := by decide +kernel
theorem dX4_tellItem_59 : decode cX4_tellItem 59 = .ok (.iconst 0, 1) := by decide +kernel
theorem dX4_tellItem_60 : decode cX4_tellItem 60 = .ok (.invokevirtual 53, 3) := by decide +kernel
theorem dX4_tellItem_63 : decode cX4_tellItem 63 = .ok (.ireturn, 1) := by decide +kernel
theorem dX4_tellItem_64 : decode cX4_tellItem 64 = .ok (.aload_n 0, 1) := by decide +kernel
theorem dX4_tellItem_65 : decode cX4_tellItem 65 = .ok (.ldc 59, 2) := by decide +kernel
theorem dX4_tellItem_67 : decode cX4_tellItem 67 = .ok (.invokevirtual 44, 3) := by decide +kernel
theorem dX4_tellItem_70 : decode cX4_tellItem 70 = .ok (.ifCond .eq 15, 3) := by decide +kernel
theorem dX4_tellItem_73 : decode cX4_tellItem 73 = .ok (.aload_n 0, 1) := by decide +kernel
theorem dX4_tellItem_74 : decode cX4_tellItem 74 = .ok (.aload_n 1, 1) := by decide +kernel
theorem dX4_tellItem_75 : decode cX4_tellItem 75 = .ok (.invokevirtual 61, 3) := by decide +kernel
theorem dX4_tellItem_78 : decode cX4_tellItem 78 = .ok (.ifCond .eq 7, 3) := by decide +kernel
theorem dX4_tellItem_81 : decode cX4_tellItem 81 = .ok (.iconst 1, 1) := by decide +kernel
theorem dX4_tellItem_82 : decode cX4_tellItem 82 = .ok (.goto 4, 3) := by decide +kernel
theorem dX4_tellItem_85 : decode cX4_tellItem 85 = .ok (.iconst 0, 1) := by decide +kernel
theorem dX4_tellItem_86 : decode cX4_tellItem 86 = .ok (.ireturn, 1) := by decide +kernel
theorem dX4_tellThing_0 : decode cX4_tellThing 0 = .ok (.aload_n 1, 1) := by decide +kernel
theorem dX4_tellThing_1 : decode cX4_tellThing 1 = .ok (.invokevirtual 64, 3) := by decide +kernel
theorem dX4_tellThing_4 : decode cX4_tellThing 4 = .ok (.ifCond .eq 5, 3) := by decide +kernel
theorem dX4_tellThing_7 : decode cX4_tellThing 7 = .ok (.iconst 0, 1) := by decide +kernel
theorem dX4_tellThing_8 : decode cX4_tellThing 8 = .ok (.ireturn, 1) := by decide +kernel
theorem dX4_tellThing_9 : decode cX4_tellThing 9 = .ok (.aload_n 0, 1) := by decide +kernel
theorem dX4_tellThing_10 : decode cX4_tellThing 10 = .ok (.getfield 9, 3) := by decide +kernel
theorem dX4_tellThing_13 : decode cX4_tellThing 13 = .ok (.invokevirtual 31, 3) := by decide +kernel
theorem dX4_tellThing_16 : decode cX4_tellThing 16 = .ok (.aload_n 0, 1) := by decide +kernel
theorem dX4_tellThing_17 : decode cX4_tellThing 17 = .ok (.ldc 70, 2) := by decide +kernel
theorem dX4_tellThing_19 : decode cX4_tellThing 19 = .ok (.invokevirtual 44, 3) := by decide +kernel
theorem dX4_tellThing_22 : decode cX4_tellThing 22 = .ok (.ifCond .ne 5, 3) := by decide +kernel
theorem dX4_tellThing_25 : decode cX4_tellThing 25 = .ok (.iconst 0, 1) := by decide +kernel
theorem dX4_tellThing_26 : decode cX4_tellThing 26 = .ok (.ireturn, 1) := by decide +kernel
theorem dX4_tellThing_27 : decode cX4_tellThing 27 = .ok (.aload_n 0, 1) := by decide +kernel
theorem dX4_tellThing_28 : decode cX4_tellThing 28 = .ok (.bipush 35, 2) := by decide +kernel
theorem dX4_tellThing_30 : decode cX4_tellThing 30 = .ok (.invokevirtual 72, 3) := by decide +kernel
theorem dX4_tellThing_33 : decode cX4_tellThing 33 = .ok (.istore_n 3, 1) := by decide +kernel
theorem dX4_tellThing_34 : decode cX4_tellThing 34 = .ok (.iload_n 3, 1) := by decide +kernel
theorem dX4_tellThing_35 : decode cX4_tellThing 35 = .ok (.iconst (-1), 1) := by decide +kernel
theorem dX4_tellThing_36 : decode cX4_tellThing 36 = .ok (.if_icmp .ne 5, 3) := by decide +kernel
theorem dX4_tellThing_39 : decode cX4_tellThing 39 = .ok (.iconst 0, 1) := by decide +kernel
theorem dX4_tellThing_40 : decode cX4_tellThing 40 = .ok (.ireturn, 1) := by decide +kernel
theorem dX4_tellThing_41 : decode cX4_tellThing 41 = .ok (.iconst 0, 1) := by decide +kernel
theorem dX4_tellThing_42 : decode cX4_tellThing 42 = .ok (.istore 4, 2) := by decide +kernel
theorem dX4_tellThing_44 : decode cX4_tellThing 44 = .ok (.aload_n 0, 1) := by decide +kernel
theorem dX4_tellThing_45 : decode cX4_tellThing 45 = .ok (.ldc 76, 2) := by decide +kernel
theorem dX4_tellThing_47 : decode cX4_tellThing 47 = .ok (.invokevirtual 44, 3) := by decide +kernel
theorem dX4_tellThing_50 : decode cX4_tellThing 50 = .ok (.ifCond .eq 11, 3) := by decide +kernel
theorem dX4_tellThing_53 : decode cX4_tellThing 53 = .ok (.aload_n 0, 1) := by decide +kernel
theorem dX4_tellThing_54 : decode cX4_tellThing 54 = .ok (.bipush 7, 2) := by decide +kernel
theorem dX4_tellThing_56 : decode cX4_tellThing 56 = .ok (.invokevirtual 72, 3) := by decide +kernel
theorem dX4_tellThing_59 : decode cX4_tellThing 59 = .ok (.istore 4, 2) := by decide +kernel
theorem dX4_tellThing_61 : decode cX4_tellThing 61 = .ok (.iload 4, 2) := by decide +kernel
theorem dX4_tellThing_63 : decode cX4_tellThing 63 = .ok (.iconst (-1), 1) := by decide +kernel
theorem dX4_tellThing_64 : decode cX4_tellThing 64 = .ok (.if_icmp .ne 5, 3) := by decide +kernel
theorem dX4_tellThing_67 : decode cX4_tellThing 67 = .ok (.iconst 0, 1) := by decide +kernel
theorem dX4_tellThing_68 : decode cX4_tellThing 68 = .ok (.ireturn, 1) := by decide +kernel
theorem dX4_tellThing_69 : decode cX4_tellThing 69 = .ok (.aload_n 1, 1) := by decide +kernel
theorem dX4_tellThing_70 : decode cX4_tellThing 70 = .ok (.iload_n 2, 1) := by decide +kernel
theorem dX4_tellThing_71 : decode cX4_tellThing 71 = .ok (.iload_n 3, 1) := by decide +kernel
theorem dX4_tellThing_72 : decode cX4_tellThing 72 = .ok (.iload 4, 2) := by decide +kernel
theorem dX4_tellThing_74 : decode cX4_tellThing 74 = .ok (.invokevirtual 78, 3) := by decide +kernel
theorem dX4_tellThing_77 : decode cX4_tellThing 77 = .ok (.iconst 1, 1) := by decide +kernel
theorem dX4_tellThing_78 : decode cX4_tellThing 78 = .ok (.ireturn, 1) := by decide +kernel
theorem dX4_tellRota_0 : decode cX4_tellRota 0 = .ok (.iconst 0, 1) := by decide +kernel
theorem dX4_tellRota_1 : decode cX4_tellRota 1 = .ok (.istore_n 2, 1) := by decide +kernel
theorem dX4_tellRota_2 : decode cX4_tellRota 2 = .ok (.iload_n 2, 1) := by decide +kernel
theorem dX4_tellRota_3 : decode cX4_tellRota 3 = .ok (.bipush 7, 2) := by decide +kernel
theorem dX4_tellRota_5 : decode cX4_tellRota 5 = .ok (.if_icmp .ge 47, 3) := by decide +kernel
theorem dX4_tellRota_8 : decode cX4_tellRota 8 = .ok (.iload_n 2, 1) := by decide +kernel
theorem dX4_tellRota_9 : decode cX4_tellRota 9 = .ok (.ifCond .le 16, 3) := by decide +kernel
theorem dX4_tellRota_12 : decode cX4_tellRota 12 = .ok (.aload_n 0, 1) := by decide +kernel
theorem dX4_tellRota_13 : decode cX4_tellRota 13 = .ok (.getfield 9, 3) := by decide +kernel
theorem dX4_tellRota_16 : decode cX4_tellRota 16 = .ok (.getfield 28, 3) := by decide +kernel
theorem dX4_tellRota_19 : decode cX4_tellRota 19 = .ok (.iconst 2, 1) := by decide +kernel
theorem dX4_tellRota_20 : decode cX4_tellRota 20 = .ok (.if_icmp .eq 5, 3) := by decide +kernel
theorem dX4_tellRota_23 : decode cX4_tellRota 23 = .ok (.iconst 1, 1) := by decide +kernel
theorem dX4_tellRota_24 : decode cX4_tellRota 24 = .ok (.ireturn, 1) := by decide +kernel
theorem dX4_tellRota_25 : decode cX4_tellRota 25 = .ok (.aload_n 0, 1) := by decide +kernel
theorem dX4_tellRota_26 : decode cX4_tellRota 26 = .ok (.bipush 8, 2) := by decide +kernel
theorem dX4_tellRota_28 : decode cX4_tellRota 28 = .ok (.invokevirtual 72, 3) := by decide +kernel
theorem dX4_tellRota_31 : decode cX4_tellRota 31 = .ok (.istore_n 3, 1) := by decide +kernel
theorem dX4_tellRota_32 : decode cX4_tellRota 32 = .ok (.iload_n 3, 1) := by decide +kernel
theorem dX4_tellRota_33 : decode cX4_tellRota 33 = .ok (.iconst (-1), 1) := by decide +kernel
theorem dX4_tellRota_34 : decode cX4_tellRota 34 = .ok (.if_icmp .ne 5, 3) := by decide +kernel
theorem dX4_tellRota_37 : decode cX4_tellRota 37 = .ok (.iconst 0, 1) := by decide +kernel
theorem dX4_tellRota_38 : decode cX4_tellRota 38 = .ok (.ireturn, 1) := by decide +kernel
theorem dX4_tellRota_39 : decode cX4_tellRota 39 = .ok (.aload_n 1, 1) := by decide +kernel
theorem dX4_tellRota_40 : decode cX4_tellRota 40 = .ok (.getfield 82, 3) := by decide +kernel
theorem dX4_tellRota_43 : decode cX4_tellRota 43 = .ok (.iload_n 2, 1) := by decide +kernel
theorem dX4_tellRota_44 : decode cX4_tellRota 44 = .ok (.iload_n 3, 1) := by decide +kernel
theorem dX4_tellRota_45 : decode cX4_tellRota 45 = .ok (.iastore, 1) := by decide +kernel
theorem dX4_tellRota_46 : decode cX4_tellRota 46 = .ok (.iinc 2 1, 3) := by decide +kernel
theorem dX4_tellRota_49 : decode cX4_tellRota 49 = .ok (.goto (-47), 3) := by decide +kernel
theorem dX4_tellRota_52 : decode cX4_tellRota 52 = .ok (.iconst 1, 1) := by decide +kernel
theorem dX4_tellRota_53 : decode cX4_tellRota 53 = .ok (.ireturn, 1) := by decide +kernel
theorem dX4_tellHealth_0 : decode cX4_tellHealth 0 = .ok (.aload_n 0, 1) := by decide +kernel
theorem dX4_tellHealth_1 : decode cX4_tellHealth 1 = .ok (.bipush 7, 2) := by decide +kernel
theorem dX4_tellHealth_3 : decode cX4_tellHealth 3 = .ok (.invokevirtual 72, 3) := by decide +kernel
theorem dX4_tellHealth_6 : decode cX4_tellHealth 6 = .ok (.istore_n 3, 1) := by decide +kernel
theorem dX4_tellHealth_7 : decode cX4_tellHealth 7 = .ok (.iload_n 3, 1) := by decide +kernel
theorem dX4_tellHealth_8 : decode cX4_tellHealth 8 = .ok (.iconst (-1), 1) := by decide +kernel
theorem dX4_tellHealth_9 : decode cX4_tellHealth 9 = .ok (.if_icmp .ne 5, 3) := by decide +kernel
theorem dX4_tellHealth_12 : decode cX4_tellHealth 12 = .ok (.iconst 0, 1) := by decide +kernel
theorem dX4_tellHealth_13 : decode cX4_tellHealth 13 = .ok (.ireturn, 1) := by decide +kernel
theorem dX4_tellHealth_14 : decode cX4_tellHealth 14 = .ok (.aload_n 1, 1) := by decide +kernel
theorem dX4_tellHealth_15 : decode cX4_tellHealth 15 = .ok (.iload_n 3, 1) := by decide +kernel
theorem dX4_tellHealth_16 : decode cX4_tellHealth 16 = .ok (.iload_n 2, 1) := by decide +kernel
theorem dX4_tellHealth_17 : decode cX4_tellHealth 17 = .ok (.invokevirtual 85, 3) := by decide +kernel
theorem dX4_tellHealth_20 : decode cX4_tellHealth 20 = .ok (.iconst 1, 1) := by decide +kernel
theorem dX4_tellHealth_21 : decode cX4_tellHealth 21 = .ok (.ireturn, 1) := by decide +kernel
theorem dX4_tellForce_0 : decode cX4_tellForce 0 = .ok (.aload_n 0, 1) := by decide +kernel
theorem dX4_tellForce_1 : decode cX4_tellForce 1 = .ok (.bipush 9, 2) := by decide +kernel
theorem dX4_tellForce_3 : decode cX4_tellForce 3 = .ok (.invokevirtual 72, 3) := by decide +kernel
theorem dX4_tellForce_6 : decode cX4_tellForce 6 = .ok (.istore_n 2, 1) := by decide +kernel
theorem dX4_tellForce_7 : decode cX4_tellForce 7 = .ok (.iload_n 2, 1) := by decide +kernel
theorem dX4_tellForce_8 : decode cX4_tellForce 8 = .ok (.iconst (-1), 1) := by decide +kernel
theorem dX4_tellForce_9 : decode cX4_tellForce 9 = .ok (.if_icmp .ne 5, 3) := by decide +kernel
theorem dX4_tellForce_12 : decode cX4_tellForce 12 = .ok (.iconst 0, 1) := by decide +kernel
theorem dX4_tellForce_13 : decode cX4_tellForce 13 = .ok (.ireturn, 1) := by decide +kernel
theorem dX4_tellForce_14 : decode cX4_tellForce 14 = .ok (.aload_n 1, 1) := by decide +kernel
theorem dX4_tellForce_15 : decode cX4_tellForce 15 = .ok (.iload_n 2, 1) := by decide +kernel
theorem dX4_tellForce_16 : decode cX4_tellForce 16 = .ok (.putfield 89, 3) := by decide +kernel
theorem dX4_tellForce_19 : decode cX4_tellForce 19 = .ok (.iconst 1, 1) := by decide +kernel
theorem dX4_tellForce_20 : decode cX4_tellForce 20 = .ok (.ireturn, 1) := by decide +kernel
theorem dX4_kindNamed_0 : decode cX4_kindNamed 0 = .ok (.iconst 0, 1) := by decide +kernel
theorem dX4_kindNamed_1 : decode cX4_kindNamed 1 = .ok (.istore_n 1, 1) := by decide +kernel
theorem dX4_kindNamed_2 : decode cX4_kindNamed 2 = .ok (.iload_n 1, 1) := by decide +kernel
theorem dX4_kindNamed_3 : decode cX4_kindNamed 3 = .ok (.bipush 6, 2) := by decide +kernel
theorem dX4_kindNamed_5 : decode cX4_kindNamed 5 = .ok (.if_icmp .ge 25, 3) := by decide +kernel
theorem dX4_kindNamed_8 : decode cX4_kindNamed 8 = .ok (.aload_n 0, 1) := by decide +kernel
theorem dX4_kindNamed_9 : decode cX4_kindNamed 9 = .ok (.getfield 9, 3) := by decide +kernel
theorem dX4_kindNamed_12 : decode cX4_kindNamed 12 = .ok (.iload_n 1, 1) := by decide +kernel
theorem dX4_kindNamed_13 : decode cX4_kindNamed 13 = .ok (.invokestatic 91, 3) := by decide +kernel
theorem dX4_kindNamed_16 : decode cX4_kindNamed 16 = .ok (.invokevirtual 95, 3) := by decide +kernel
theorem dX4_kindNamed_19 : decode cX4_kindNamed 19 = .ok (.ifCond .eq 5, 3) := by decide +kernel
theorem dX4_kindNamed_22 : decode cX4_kindNamed 22 = .ok (.iload_n 1, 1) := by decide +kernel
theorem dX4_kindNamed_23 : decode cX4_kindNamed 23 = .ok (.ireturn, 1) := by decide +kernel
theorem dX4_kindNamed_24 : decode cX4_kindNamed 24 = .ok (.iinc 1 1, 3) := by decide +kernel
theorem dX4_kindNamed_27 : decode cX4_kindNamed 27 = .ok (.goto (-25), 3) := by decide +kernel
theorem dX4_kindNamed_30 : decode cX4_kindNamed 30 = .ok (.iconst (-1), 1) := by decide +kernel
theorem dX4_kindNamed_31 : decode cX4_kindNamed 31 = .ok (.ireturn, 1) := by decide +kernel
theorem dX4_nameOf_0 : decode cX4_nameOf 0 = .ok (.iload_n 0, 1) := by decide +kernel
theorem dX4_nameOf_1 : decode cX4_nameOf 1 = .ok (.tableswitch 50 1 5 #[35, 38, 41, 44, 47], 35) := by decide +kernel
theorem dX4_nameOf_36 : decode cX4_nameOf 36 = .ok (.ldc 98, 2) := by decide +kernel
theorem dX4_nameOf_38 : decode cX4_nameOf 38 = .ok (.areturn, 1) := by decide +kernel
theorem dX4_nameOf_39 : decode cX4_nameOf 39 = .ok (.ldc 100, 2) := by decide +kernel
theorem dX4_nameOf_41 : decode cX4_nameOf 41 = .ok (.areturn, 1) := by decide +kernel
theorem dX4_nameOf_42 : decode cX4_nameOf 42 = .ok (.ldc 102, 2) := by decide +kernel
theorem dX4_nameOf_44 : decode cX4_nameOf 44 = .ok (.areturn, 1) := by decide +kernel
theorem dX4_nameOf_45 : decode cX4_nameOf 45 = .ok (.ldc 104, 2) := by decide +kernel
theorem dX4_nameOf_47 : decode cX4_nameOf 47 = .ok (.areturn, 1) := by decide +kernel
theorem dX4_nameOf_48 : decode cX4_nameOf 48 = .ok (.ldc 106, 2) := by decide +kernel
theorem dX4_nameOf_50 : decode cX4_nameOf 50 = .ok (.areturn, 1) := by decide +kernel
theorem dX4_nameOf_51 : decode cX4_nameOf 51 = .ok (.ldc 108, 2) := by decide +kernel
theorem dX4_nameOf_53 : decode cX4_nameOf 53 = .ok (.areturn, 1) := by decide +kernel
theorem dX4_takesWord_0 : decode cX4_takesWord 0 = .ok (.aload_n 0, 1) := by decide +kernel
theorem dX4_takesWord_1 : decode cX4_takesWord 1 = .ok (.getfield 9, 3) := by decide +kernel
theorem dX4_takesWord_4 : decode cX4_takesWord 4 = .ok (.aload_n 1, 1) := by decide +kernel
theorem dX4_takesWord_5 : decode cX4_takesWord 5 = .ok (.invokevirtual 95, 3) := by decide +kernel
theorem dX4_takesWord_8 : decode cX4_takesWord 8 = .ok (.ifCond .ne 5, 3) := by decide +kernel
theorem dX4_takesWord_11 : decode cX4_takesWord 11 = .ok (.iconst 0, 1) := by decide +kernel
theorem dX4_takesWord_12 : decode cX4_takesWord 12 = .ok (.ireturn, 1) := by decide +kernel
theorem dX4_takesWord_13 : decode cX4_takesWord 13 = .ok (.aload_n 0, 1) := by decide +kernel
theorem dX4_takesWord_14 : decode cX4_takesWord 14 = .ok (.getfield 9, 3) := by decide +kernel
theorem dX4_takesWord_17 : decode cX4_takesWord 17 = .ok (.invokevirtual 31, 3) := by decide +kernel
theorem dX4_takesWord_20 : decode cX4_takesWord 20 = .ok (.iconst 1, 1) := by decide +kernel
theorem dX4_takesWord_21 : decode cX4_takesWord 21 = .ok (.ireturn, 1) := by decide +kernel
theorem dX4_takenNumber_0 : decode cX4_takenNumber 0 = .ok (.aload_n 0, 1) := by decide +kernel
theorem dX4_takenNumber_1 : decode cX4_takenNumber 1 = .ok (.getfield 9, 3) := by decide +kernel
theorem dX4_takenNumber_4 : decode cX4_takenNumber 4 = .ok (.getfield 28, 3) := by decide +kernel
theorem dX4_takenNumber_7 : decode cX4_takenNumber 7 = .ok (.iconst 2, 1) := by decide +kernel
theorem dX4_takenNumber_8 : decode cX4_takenNumber 8 = .ok (.if_icmp .ne 14, 3) := by decide +kernel
theorem dX4_takenNumber_11 : decode cX4_takenNumber 11 = .ok (.aload_n 0, 1) := by decide +kernel
theorem dX4_takenNumber_12 : decode cX4_takenNumber 12 = .ok (.getfield 9, 3) := by decide +kernel
theorem dX4_takenNumber_15 : decode cX4_takenNumber 15 = .ok (.invokevirtual 110, 3) := by decide +kernel
theorem dX4_takenNumber_18 : decode cX4_takenNumber 18 = .ok (.iload_n 1, 1) := by decide +kernel
theorem dX4_takenNumber_19 : decode cX4_takenNumber 19 = .ok (.if_icmp .le 5, 3) := by decide +kernel
theorem dX4_takenNumber_22 : decode cX4_takenNumber 22 = .ok (.iconst (-1), 1) := by decide +kernel
theorem dX4_takenNumber_23 : decode cX4_takenNumber 23 = .ok (.ireturn, 1) := by decide +kernel
theorem dX4_takenNumber_24 : decode cX4_takenNumber 24 = .ok (.aload_n 0, 1) := by decide +kernel
theorem dX4_takenNumber_25 : decode cX4_takenNumber 25 = .ok (.getfield 9, 3) := by decide +kernel
theorem dX4_takenNumber_28 : decode cX4_takenNumber 28 = .ok (.invokevirtual 110, 3) := by decide +kernel
theorem dX4_takenNumber_31 : decode cX4_takenNumber 31 = .ok (.istore_n 2, 1) := by decide +kernel
theorem dX4_takenNumber_32 : decode cX4_takenNumber 32 = .ok (.aload_n 0, 1) := by decide +kernel
theorem dX4_takenNumber_33 : decode cX4_takenNumber 33 = .ok (.getfield 9, 3) := by decide +kernel
theorem dX4_takenNumber_36 : decode cX4_takenNumber 36 = .ok (.invokevirtual 31, 3) := by decide +kernel
theorem dX4_takenNumber_39 : decode cX4_takenNumber 39 = .ok (.iload_n 2, 1) := by decide +kernel
theorem dX4_takenNumber_40 : decode cX4_takenNumber 40 = .ok (.ireturn, 1) := by decide +kernel
theorem dX5_init_0 : decode cX5_init 0 = .ok (.aload_n 0, 1) := by decide +kernel
theorem dX5_init_1 : decode cX5_init 1 = .ok (.invokespecial 3, 3) := by decide +kernel
theorem dX5_init_4 : decode cX5_init 4 = .ok (.return_, 1) := by decide +kernel
theorem dX5_become_0 : decode cX5_become 0 = .ok (.aload_n 0, 1) := by decide +kernel
theorem dX5_become_1 : decode cX5_become 1 = .ok (.aload_n 1, 1) := by decide +kernel
theorem dX5_become_2 : decode cX5_become 2 = .ok (.getfield 9, 3) := by decide +kernel
theorem dX5_become_5 : decode cX5_become 5 = .ok (.putfield 9, 3) := by decide +kernel
theorem dX5_become_8 : decode cX5_become 8 = .ok (.aload_n 0, 1) := by decide +kernel
theorem dX5_become_9 : decode cX5_become 9 = .ok (.aload_n 1, 1) := by decide +kernel
theorem dX5_become_10 : decode cX5_become 10 = .ok (.getfield 15, 3) := by decide +kernel
theorem dX5_become_13 : decode cX5_become 13 = .ok (.putfield 15, 3) := by decide +kernel
theorem dX5_become_16 : decode cX5_become 16 = .ok (.aload_n 0, 1) := by decide +kernel
theorem dX5_become_17 : decode cX5_become 17 = .ok (.aload_n 1, 1) := by decide +kernel
theorem dX5_become_18 : decode cX5_become 18 = .ok (.getfield 18, 3) := by decide +kernel
theorem dX5_become_21 : decode cX5_become 21 = .ok (.putfield 18, 3) := by decide +kernel
theorem dX5_become_24 : decode cX5_become 24 = .ok (.aload_n 0, 1) := by decide +kernel
theorem dX5_become_25 : decode cX5_become 25 = .ok (.aload_n 1, 1) := by decide +kernel
theorem dX5_become_26 : decode cX5_become 26 = .ok (.getfield 21, 3) := by decide +kernel
theorem dX5_become_29 : decode cX5_become 29 = .ok (.putfield 21, 3) := by decide +kernel
theorem dX5_become_32 : decode cX5_become 32 = .ok (.return_, 1) := by decide +kernel
theorem dX5_earnings_0 : decode cX5_earnings 0 = .ok (.iload_n 2, 1) := by decide +kernel
theorem dX5_earnings_1 : decode cX5_earnings 1 = .ok (.bipush 8, 2) := by decide +kernel
theorem dX5_earnings_3 : decode cX5_earnings 3 = .ok (.if_icmp .ne 7, 3) := by decide +kernel
theorem dX5_earnings_6 : decode cX5_earnings 6 = .ok (.iconst 0, 1) := by decide +kernel
theorem dX5_earnings_7 : decode cX5_earnings 7 = .ok (.goto 4, 3) := by decide +kernel
theorem dX5_earnings_10 : decode cX5_earnings 10 = .ok (.iload_n 3, 1) := by decide +kernel
theorem dX5_earnings_11 : decode cX5_earnings 11 = .ok (.istore 4, 2) := by decide +kernel
theorem dX5_earnings_13 : decode cX5_earnings 13 = .ok (.iconst 0, 1) := by decide +kernel
theorem dX5_earnings_14 : decode cX5_earnings 14 = .ok (.iload 4, 2) := by decide +kernel
theorem dX5_earnings_16 : decode cX5_earnings 16 = .ok (.aload_n 0, 1) := by decide +kernel
theorem dX5_earnings_17 : decode cX5_earnings 17 = .ok (.iload_n 2, 1) := by decide +kernel
theorem dX5_earnings_18 : decode cX5_earnings 18 = .ok (.invokevirtual 24, 3) := by decide +kernel
theorem dX5_earnings_21 : decode cX5_earnings 21 = .ok (.isub, 1) := by decide +kernel
theorem dX5_earnings_22 : decode cX5_earnings 22 = .ok (.invokestatic 28, 3) := by decide +kernel
theorem dX5_earnings_25 : decode cX5_earnings 25 = .ok (.istore 5, 2) := by decide +kernel
theorem dX5_earnings_27 : decode cX5_earnings 27 = .ok (.iload 4, 2) := by decide +kernel
theorem dX5_earnings_29 : decode cX5_earnings 29 = .ok (.iconst 1, 1) := by decide +kernel
theorem dX5_earnings_30 : decode cX5_earnings 30 = .ok (.if_icmp .lt 13, 3) := by decide +kernel
theorem dX5_earnings_33 : decode cX5_earnings 33 = .ok (.iload 4, 2) := by decide +kernel
theorem dX5_earnings_35 : decode cX5_earnings 35 = .ok (.iconst 5, 1) := by decide +kernel
theorem dX5_earnings_36 : decode cX5_earnings 36 = .ok (.if_icmp .gt 7, 3) := by decide +kernel
theorem dX5_earnings_39 : decode cX5_earnings 39 = .ok (.iconst 3, 1) := by decide +kernel
theorem dX5_earnings_40 : decode cX5_earnings 40 = .ok (.goto 4, 3) := by decide +kernel
theorem dX5_earnings_43 : decode cX5_earnings 43 = .ok (.iconst 0, 1) := by decide +kernel
theorem dX5_earnings_44 : decode cX5_earnings 44 = .ok (.istore 6, 2) := by decide +kernel
theorem dX5_earnings_46 : decode cX5_earnings 46 = .ok (.aload_n 0, 1) := by decide +kernel
theorem dX5_earnings_47 : decode cX5_earnings 47 = .ok (.getfield 9, 3) := by decide +kernel
theorem dX5_earnings_50 : decode cX5_earnings 50 = .ok (.tableswitch 98 1 5 #[34, 39, 42, 60, 78], 34) := by decide +kernel
theorem dX5_earnings_84 : decode cX5_earnings 84 = .ok (.iload 5, 2) := by decide +kernel
theorem dX5_earnings_86 : decode cX5_earnings 86 = .ok (.iconst 1, 1) := by decide +kernel
theorem dX5_earnings_87 : decode cX5_earnings 87 = .ok (.iadd, 1) := by decide +kernel
theorem dX5_earnings_88 : decode cX5_earnings 88 = .ok (.ireturn, 1) := by decide +kernel
theorem dX5_earnings_89 : decode cX5_earnings 89 = .ok (.iload 6, 2) := by decide +kernel
theorem dX5_earnings_91 : decode cX5_earnings 91 = .ok (.ireturn, 1) := by decide +kernel
theorem dX5_earnings_92 : decode cX5_earnings 92 = .ok (.aload_n 0, 1) := by decide +kernel
theorem dX5_earnings_93 : decode cX5_earnings 93 = .ok (.iload_n 2, 1) := by decide +kernel
theorem dX5_earnings_94 : decode cX5_earnings 94 = .ok (.invokevirtual 24, 3) := by decide +kernel
theorem dX5_earnings_97 : decode cX5_earnings 97 = .ok (.ifCond .ne 10, 3) := by decide +kernel
theorem dX5_earnings_100 : decode cX5_earnings 100 = .ok (.iconst 2, 1) := by decide +kernel
theorem dX5_earnings_101 : decode cX5_earnings 101 = .ok (.iload 5, 2) := by decide +kernel
theorem dX5_earnings_103 : decode cX5_earnings 103 = .ok (.imul, 1) := by decide +kernel
theorem dX5_earnings_104 : decode cX5_earnings 104 = .ok (.goto 5, 3) := by decide +kernel
theorem dX5_earnings_107 : decode cX5_earnings 107 = .ok (.iload 5, 2) := by decide +kernel
theorem dX5_earnings_109 : decode cX5_earnings 109 = .ok (.ireturn, 1) := by decide +kernel
theorem dX5_earnings_110 : decode cX5_earnings 110 = .ok (.aload_n 0, 1) := by decide +kernel
theorem dX5_earnings_111 : decode cX5_earnings 111 = .ok (.iload_n 2, 1) := by decide +kernel
theorem dX5_earnings_112 : decode cX5_earnings 112 = .ok (.iload_n 3, 1) := by decide +kernel
theorem dX5_earnings_113 : decode cX5_earnings 113 = .ok (.invokevirtual 34, 3) := by decide +kernel
theorem dX5_earnings_116 : decode cX5_earnings 116 = .ok (.ifCond .eq 10, 3) := by decide +kernel
theorem dX5_earnings_119 : decode cX5_earnings 119 = .ok (.iload 5, 2) := by decide +kernel
theorem dX5_earnings_121 : decode cX5_earnings 121 = .ok (.iconst 1, 1) := by decide +kernel
theorem dX5_earnings_122 : decode cX5_earnings 122 = .ok (.iadd, 1) := by decide +kernel
theorem dX5_earnings_123 : decode cX5_earnings 123 = .ok (.goto 4, 3) := by decide +kernel
theorem dX5_earnings_126 : decode cX5_earnings 126 = .ok (.iconst 0, 1) := by decide +kernel
theorem dX5_earnings_127 : decode cX5_earnings 127 = .ok (.ireturn, 1) := by decide +kernel
theorem dX5_earnings_128 : decode cX5_earnings 128 = .ok (.iload_n 1, 1) := by decide +kernel
theorem dX5_earnings_129 : decode cX5_earnings 129 = .ok (.bipush 7, 2) := by decide +kernel
theorem dX5_earnings_131 : decode cX5_earnings 131 = .ok (.invokestatic 38, 3) := by decide +kernel
theorem dX5_earnings_134 : decode cX5_earnings 134 = .ok (.iconst 1, 1) := by decide +kernel
theorem dX5_earnings_135 : decode cX5_earnings 135 = .ok (.if_icmp .ne 10, 3) := by decide +kernel
theorem dX5_earnings_138 : decode cX5_earnings 138 = .ok (.iload 6, 2) := by decide +kernel
theorem dX5_earnings_140 : decode cX5_earnings 140 = .ok (.iconst 5, 1) := by decide +kernel
theorem dX5_earnings_141 : decode cX5_earnings 141 = .ok (.iadd, 1) := by decide +kernel
theorem dX5_earnings_142 : decode cX5_earnings 142 = .ok (.goto 5, 3) := by decide +kernel
theorem dX5_earnings_145 : decode cX5_earnings 145 = .ok (.iload 6, 2) := by decide +kernel
theorem dX5_earnings_147 : decode cX5_earnings 147 = .ok (.ireturn, 1) := by decide +kernel
theorem dX5_earnings_148 : decode cX5_earnings 148 = .ok (.iload 5, 2) := by decide +kernel
theorem dX5_earnings_150 : decode cX5_earnings 150 = .ok (.ireturn, 1) := by decide +kernel
theorem dX5_isGoing_0 : decode cX5_isGoing 0 = .ok (.iload_n 1, 1) := by decide +kernel
theorem dX5_isGoing_1 : decode cX5_isGoing 1 = .ok (.bipush 8, 2) := by decide +kernel
theorem dX5_isGoing_3 : decode cX5_isGoing 3 = .ok (.if_icmp .ne 5, 3) := by decide +kernel
theorem dX5_isGoing_6 : decode cX5_isGoing 6 = .ok (.iconst 0, 1) := by decide +kernel
theorem dX5_isGoing_7 : decode cX5_isGoing 7 = .ok (.ireturn, 1) := by decide +kernel
theorem dX5_isGoing_8 : decode cX5_isGoing 8 = .ok (.aload_n 0, 1) := by decide +kernel
theorem dX5_isGoing_9 : decode cX5_isGoing 9 = .ok (.getfield 9, 3) := by decide +kernel
theorem dX5_isGoing_12 : decode cX5_isGoing 12 = .ok (.tableswitch 79 1 5 #[36, 67, 79, 47, 67], 36) := by decide +kernel
theorem dX5_isGoing_48 : decode cX5_isGoing 48 = .ok (.iload_n 2, 1) := by decide +kernel
theorem dX5_isGoing_49 : decode cX5_isGoing 49 = .ok (.iconst 2, 1) := by decide +kernel
theorem dX5_isGoing_50 : decode cX5_isGoing 50 = .ok (.if_icmp .lt 7, 3) := by decide +kernel
theorem dX5_isGoing_53 : decode cX5_isGoing 53 = .ok (.iconst 1, 1) := by decide +kernel
theorem dX5_isGoing_54 : decode cX5_isGoing 54 = .ok (.goto 4, 3) := by decide +kernel
theorem dX5_isGoing_57 : decode cX5_isGoing 57 = .ok (.iconst 0, 1) := by decide +kernel
theorem dX5_isGoing_58 : decode cX5_isGoing 58 = .ok (.ireturn, 1) := by decide +kernel
theorem dX5_isGoing_59 : decode cX5_isGoing 59 = .ok (.iload_n 2, 1) := by decide +kernel
theorem dX5_isGoing_60 : decode cX5_isGoing 60 = .ok (.iconst 2, 1) := by decide +kernel
theorem dX5_isGoing_61 : decode cX5_isGoing 61 = .ok (.if_icmp .lt 16, 3) := by decide +kernel
theorem dX5_isGoing_64 : decode cX5_isGoing 64 = .ok (.aload_n 0, 1) := by decide +kernel
theorem dX5_isGoing_65 : decode cX5_isGoing 65 = .ok (.iload_n 1, 1) := by decide +kernel
theorem dX5_isGoing_66 : decode cX5_isGoing 66 = .ok (.invokevirtual 24, 3) := by decide +kernel
theorem dX5_isGoing_69 : decode cX5_isGoing 69 = .ok (.iconst 1, 1) := by decide +kernel
theorem dX5_isGoing_70 : decode cX5_isGoing 70 = .ok (.if_icmp .gt 7, 3) := by decide +kernel
theorem dX5_isGoing_73 : decode cX5_isGoing 73 = .ok (.iconst 1, 1) := by decide +kernel
theorem dX5_isGoing_74 : decode cX5_isGoing 74 = .ok (.goto 4, 3) := by decide +kernel
theorem dX5_isGoing_77 : decode cX5_isGoing 77 = .ok (.iconst 0, 1) := by decide +kernel
theorem dX5_isGoing_78 : decode cX5_isGoing 78 = .ok (.ireturn, 1) := by decide +kernel
theorem dX5_isGoing_79 : decode cX5_isGoing 79 = .ok (.iload_n 2, 1) := by decide +kernel
theorem dX5_isGoing_80 : decode cX5_isGoing 80 = .ok (.bipush 9, 2) := by decide +kernel
theorem dX5_isGoing_82 : decode cX5_isGoing 82 = .ok (.if_icmp .ne 7, 3) := by decide +kernel
theorem dX5_isGoing_85 : decode cX5_isGoing 85 = .ok (.iconst 1, 1) := by decide +kernel
theorem dX5_isGoing_86 : decode cX5_isGoing 86 = .ok (.goto 4, 3) := by decide +kernel
theorem dX5_isGoing_89 : decode cX5_isGoing 89 = .ok (.iconst 0, 1) := by decide +kernel
theorem dX5_isGoing_90 : decode cX5_isGoing 90 = .ok (.ireturn, 1) := by decide +kernel
theorem dX5_isGoing_91 : decode cX5_isGoing 91 = .ok (.iconst 0, 1) := by decide +kernel
theorem dX5_isGoing_92 : decode cX5_isGoing 92 = .ok (.ireturn, 1) := by decide +kernel
theorem dX5_cellAfter_0 : decode cX5_cellAfter 0 = .ok (.aload_n 0, 1) := by decide +kernel
theorem dX5_cellAfter_1 : decode cX5_cellAfter 1 = .ok (.iload_n 2, 1) := by decide +kernel
theorem dX5_cellAfter_2 : decode cX5_cellAfter 2 = .ok (.iload_n 3, 1) := by decide +kernel
theorem dX5_cellAfter_3 : decode cX5_cellAfter 3 = .ok (.invokevirtual 34, 3) := by decide +kernel
theorem dX5_cellAfter_6 : decode cX5_cellAfter 6 = .ok (.ifCond .ne 5, 3) := by decide +kernel
theorem dX5_cellAfter_9 : decode cX5_cellAfter 9 = .ok (.iload_n 1, 1) := by decide +kernel
theorem dX5_cellAfter_10 : decode cX5_cellAfter 10 = .ok (.ireturn, 1) := by decide +kernel
theorem dX5_cellAfter_11 : decode cX5_cellAfter 11 = .ok (.iload_n 1, 1) := by decide +kernel
theorem dX5_cellAfter_12 : decode cX5_cellAfter 12 = .ok (.iload_n 2, 1) := by decide +kernel
theorem dX5_cellAfter_13 : decode cX5_cellAfter 13 = .ok (.invokestatic 41, 3) := by decide +kernel
theorem dX5_cellAfter_16 : decode cX5_cellAfter 16 = .ok (.istore 4, 2) := by decide +kernel
theorem dX5_cellAfter_18 : decode cX5_cellAfter 18 = .ok (.iload 4, 2) := by decide +kernel
theorem dX5_cellAfter_20 : decode cX5_cellAfter 20 = .ok (.iconst (-1), 1) := by decide +kernel
theorem dX5_cellAfter_21 : decode cX5_cellAfter 21 = .ok (.if_icmp .ne 7, 3) := by decide +kernel
theorem dX5_cellAfter_24 : decode cX5_cellAfter 24 = .ok (.iload_n 1, 1) := by decide +kernel
theorem dX5_cellAfter_25 : decode cX5_cellAfter 25 = .ok (.goto 5, 3) := by decide +kernel
theorem dX5_cellAfter_28 : decode cX5_cellAfter 28 = .ok (.iload 4, 2) := by decide +kernel
theorem dX5_cellAfter_30 : decode cX5_cellAfter 30 = .ok (.ireturn, 1) := by decide +kernel
theorem dX5_goDay_0 : decode cX5_goDay 0 = .ok (.aload_n 0, 1) := by decide +kernel
theorem dX5_goDay_1 : decode cX5_goDay 1 = .ok (.ldc 44, 2) := by decide +kernel
theorem dX5_goDay_3 : decode cX5_goDay 3 = .ok (.aload_n 0, 1) := by decide +kernel
theorem dX5_goDay_4 : decode cX5_goDay 4 = .ok (.getfield 21, 3) := by decide +kernel
theorem dX5_goDay_7 : decode cX5_goDay 7 = .ok (.aload_n 0, 1) := by decide +kernel
theorem dX5_goDay_8 : decode cX5_goDay 8 = .ok (.iload_n 1, 1) := by decide +kernel
theorem dX5_goDay_9 : decode cX5_goDay 9 = .ok (.iload_n 2, 1) := by decide +kernel
theorem dX5_goDay_10 : decode cX5_goDay 10 = .ok (.iload_n 3, 1) := by decide +kernel
theorem dX5_goDay_11 : decode cX5_goDay 11 = .ok (.invokevirtual 45, 3) := by decide +kernel
theorem dX5_goDay_14 : decode cX5_goDay 14 = .ok (.iadd, 1) := by decide +kernel
theorem dX5_goDay_15 : decode cX5_goDay 15 = .ok (.invokestatic 49, 3) := by decide +kernel
theorem dX5_goDay_18 : decode cX5_goDay 18 = .ok (.putfield 21, 3) := by decide +kernel
theorem dX5_goDay_21 : decode cX5_goDay 21 = .ok (.aload_n 0, 1) := by decide +kernel
theorem dX5_goDay_22 : decode cX5_goDay 22 = .ok (.aload_n 0, 1) := by decide +kernel
theorem dX5_goDay_23 : decode cX5_goDay 23 = .ok (.aload_n 0, 1) := by decide +kernel
theorem dX5_goDay_24 : decode cX5_goDay 24 = .ok (.getfield 15, 3) := by decide +kernel
theorem dX5_goDay_27 : decode cX5_goDay 27 = .ok (.iload_n 2, 1) := by decide +kernel
theorem dX5_goDay_28 : decode cX5_goDay 28 = .ok (.iload_n 3, 1) := by decide +kernel
theorem dX5_goDay_29 : decode cX5_goDay 29 = .ok (.invokevirtual 52, 3) := by decide +kernel
theorem dX5_goDay_32 : decode cX5_goDay 32 = .ok (.putfield 15, 3) := by decide +kernel
theorem dX5_goDay_35 : decode cX5_goDay 35 = .ok (.return_, 1) := by decide +kernel
theorem dX5_off_0 : decode cX5_off 0 = .ok (.iload_n 1, 1) := by decide +kernel
theorem dX5_off_1 : decode cX5_off 1 = .ok (.bipush 8, 2) := by decide +kernel
theorem dX5_off_3 : decode cX5_off 3 = .ok (.if_icmp .ne 7, 3) := by decide +kernel
theorem dX5_off_6 : decode cX5_off 6 = .ok (.iconst 4, 1) := by decide +kernel
theorem dX5_off_7 : decode cX5_off 7 = .ok (.goto 16, 3) := by decide +kernel
theorem dX5_off_10 : decode cX5_off 10 = .ok (.getstatic 55, 3) := by decide +kernel
theorem dX5_off_13 : decode cX5_off 13 = .ok (.iload_n 1, 1) := by decide +kernel
theorem dX5_off_14 : decode cX5_off 14 = .ok (.aload_n 0, 1) := by decide +kernel
theorem dX5_off_15 : decode cX5_off 15 = .ok (.getfield 18, 3) := by decide +kernel
theorem dX5_off_18 : decode cX5_off 18 = .ok (.isub, 1) := by decide +kernel
theorem dX5_off_19 : decode cX5_off 19 = .ok (.bipush 7, 2) := by decide +kernel
theorem dX5_off_21 : decode cX5_off 21 = .ok (.iand, 1) := by decide +kernel
theorem dX5_off_22 : decode cX5_off 22 = .ok (.iaload, 1) := by decide +kernel
theorem dX5_off_23 : decode cX5_off 23 = .ok (.ireturn, 1) := by decide +kernel
theorem dX6_init_0 : decode cX6_init 0 = .ok (.aload_n 0, 1) := by decide +kernel
theorem dX6_init_1 : decode cX6_init 1 = .ok (.invokespecial 3, 3) := by decide +kernel
theorem dX6_init_4 : decode cX6_init 4 = .ok (.aload_n 0, 1) := by decide +kernel
theorem dX6_init_5 : decode cX6_init 5 = .ok (.bipush 36, 2) := by decide +kernel
theorem dX6_init_7 : decode cX6_init 7 = .ok (.newarray .int, 2) := by decide +kernel
theorem dX6_init_9 : decode cX6_init 9 = .ok (.putfield 9, 3) := by decide +kernel
theorem dX6_init_12 : decode cX6_init 12 = .ok (.aload_n 0, 1) := by decide +kernel
theorem dX6_init_13 : decode cX6_init 13 = .ok (.bipush 36, 2) := by decide +kernel
theorem dX6_init_15 : decode cX6_init 15 = .ok (.newarray .int, 2) := by decide +kernel
theorem dX6_init_17 : decode cX6_init 17 = .ok (.putfield 15, 3) := by decide +kernel
theorem dX6_init_20 : decode cX6_init 20 = .ok (.return_, 1) := by decide +kernel
theorem dX6_begin_0 : decode cX6_begin 0 = .ok (.iconst 0, 1) := by decide +kernel
theorem dX6_begin_1 : decode cX6_begin 1 = .ok (.istore_n 2, 1) := by decide +kernel
theorem dX6_begin_2 : decode cX6_begin 2 = .ok (.iload_n 2, 1) := by decide +kernel
theorem dX6_begin_3 : decode cX6_begin 3 = .ok (.bipush 36, 2) := by decide +kernel
theorem dX6_begin_5 : decode cX6_begin 5 = .ok (.if_icmp .ge 27, 3) := by decide +kernel
theorem dX6_begin_8 : decode cX6_begin 8 = .ok (.aload_n 0, 1) := by decide +kernel
theorem dX6_begin_9 : decode cX6_begin 9 = .ok (.getfield 9, 3) := by decide +kernel
theorem dX6_begin_12 : decode cX6_begin 12 = .ok (.iload_n 2, 1) := by decide +kernel
theorem dX6_begin_13 : decode cX6_begin 13 = .ok (.iload_n 2, 1) := by decide +kernel
theorem dX6_begin_14 : decode cX6_begin 14 = .ok (.iload_n 1, 1) := by decide +kernel
theorem dX6_begin_15 : decode cX6_begin 15 = .ok (.if_icmp .ne 7, 3) := by decide +kernel
theorem dX6_begin_18 : decode cX6_begin 18 = .ok (.iconst 0, 1) := by decide +kernel
theorem dX6_begin_19 : decode cX6_begin 19 = .ok (.goto 6, 3) := by decide +kernel
theorem dX6_begin_22 : decode cX6_begin 22 = .ok (.sipush 1000, 3) := by decide +kernel
theorem dX6_begin_25 : decode cX6_begin 25 = .ok (.iastore, 1) := by decide +kernel
theorem dX6_begin_26 : decode cX6_begin 26 = .ok (.iinc 2 1, 3) := by decide +kernel
theorem dX6_begin_29 : decode cX6_begin 29 = .ok (.goto (-27), 3) := by decide +kernel
theorem dX6_begin_32 : decode cX6_begin 32 = .ok (.return_, 1) := by decide +kernel
theorem dX6_goDay_0 : decode cX6_goDay 0 = .ok (.iconst 0, 1) := by decide +kernel
theorem dX6_goDay_1 : decode cX6_goDay 1 = .ok (.istore 4, 2) := by decide +kernel
theorem dX6_goDay_3 : decode cX6_goDay 3 = .ok (.iload 4, 2) := by decide +kernel
theorem dX6_goDay_5 : decode cX6_goDay 5 = .ok (.bipush 36, 2) := by decide +kernel
theorem dX6_goDay_7 : decode cX6_goDay 7 = .ok (.if_icmp .ge 19, 3) := by decide +kernel
theorem dX6_goDay_10 : decode cX6_goDay 10 = .ok (.aload_n 0, 1) := by decide +kernel
theorem dX6_goDay_11 : decode cX6_goDay 11 = .ok (.getfield 15, 3) := by decide +kernel
theorem dX6_goDay_14 : decode cX6_goDay 14 = .ok (.iload 4, 2) := by decide +kernel
theorem dX6_goDay_16 : decode cX6_goDay 16 = .ok (.sipush 1000, 3) := by decide +kernel
theorem dX6_goDay_19 : decode cX6_goDay 19 = .ok (.iastore, 1) := by decide +kernel
theorem dX6_goDay_20 : decode cX6_goDay 20 = .ok (.iinc 4 1, 3) := by decide +kernel
theorem dX6_goDay_23 : decode cX6_goDay 23 = .ok (.goto (-20), 3) := by decide +kernel
theorem dX6_goDay_26 : decode cX6_goDay 26 = .ok (.iconst 0, 1) := by decide +kernel
theorem dX6_goDay_27 : decode cX6_goDay 27 = .ok (.istore 4, 2) := by decide +kernel
theorem dX6_goDay_29 : decode cX6_goDay 29 = .ok (.iload 4, 2) := by decide +kernel
theorem dX6_goDay_31 : decode cX6_goDay 31 = .ok (.bipush 36, 2) := by decide +kernel
theorem dX6_goDay_33 : decode cX6_goDay 33 = .ok (.if_icmp .ge 79, 3) := by decide +kernel
theorem dX6_goDay_36 : decode cX6_goDay 36 = .ok (.aload_n 0, 1) := by decide +kernel
theorem dX6_goDay_37 : decode cX6_goDay 37 = .ok (.getfield 9, 3) := by decide +kernel
theorem dX6_goDay_40 : decode cX6_goDay 40 = .ok (.iload 4, 2) := by decide +kernel
theorem dX6_goDay_42 : decode cX6_goDay 42 = .ok (.iaload, 1) := by decide +kernel
theorem dX6_goDay_43 : decode cX6_goDay 43 = .ok (.sipush 1000, 3) := by decide +kernel
theorem dX6_goDay_46 : decode cX6_goDay 46 = .ok (.if_icmp .ge 60, 3) := by decide +kernel
theorem dX6_goDay_49 : decode cX6_goDay 49 = .ok (.aload_n 0, 1) := by decide +kernel
theorem dX6_goDay_50 : decode cX6_goDay 50 = .ok (.aload_n 1, 1) := by decide +kernel
theorem dX6_goDay_51 : decode cX6_goDay 51 = .ok (.iload 4, 2) := by decide +kernel
theorem dX6_goDay_53 : decode cX6_goDay 53 = .ok (.iload_n 2, 1) := by decide +kernel
theorem dX6_goDay_54 : decode cX6_goDay 54 = .ok (.iload_n 3, 1) := by decide +kernel
theorem dX6_goDay_55 : decode cX6_goDay 55 = .ok (.invokevirtual 18, 3) := by decide +kernel
theorem dX6_goDay_58 : decode cX6_goDay 58 = .ok (.aload_n 0, 1) := by decide +kernel
theorem dX6_goDay_59 : decode cX6_goDay 59 = .ok (.getfield 9, 3) := by decide +kernel
theorem dX6_goDay_62 : decode cX6_goDay 62 = .ok (.iload 4, 2) := by decide +kernel
theorem dX6_goDay_64 : decode cX6_goDay 64 = .ok (.iaload, 1) := by decide +kernel
theorem dX6_goDay_65 : decode cX6_goDay 65 = .ok (.invokevirtual 24, 3) := by decide +kernel
theorem dX6_goDay_68 : decode cX6_goDay 68 = .ok (.iconst 0, 1) := by decide +kernel
theorem dX6_goDay_69 : decode cX6_goDay 69 = .ok (.istore 5, 2) := by decide +kernel
theorem dX6_goDay_71 : decode cX6_goDay 71 = .ok (.iload 5, 2) := by decide +kernel
theorem dX6_goDay_73 : decode cX6_goDay 73 = .ok (.bipush 8, 2) := by decide +kernel
theorem dX6_goDay_75 : decode cX6_goDay 75 = .ok (.if_icmp .ge 31, 3) := by decide +kernel
theorem dX6_goDay_78 : decode cX6_goDay 78 = .ok (.aload_n 0, 1) := by decide +kernel
theorem dX6_goDay_79 : decode cX6_goDay 79 = .ok (.aload_n 1, 1) := by decide +kernel
theorem dX6_goDay_80 : decode cX6_goDay 80 = .ok (.iload 4, 2) := by decide +kernel
theorem dX6_goDay_82 : decode cX6_goDay 82 = .ok (.iload 5, 2) := by decide +kernel
theorem dX6_goDay_84 : decode cX6_goDay 84 = .ok (.iload_n 3, 1) := by decide +kernel
theorem dX6_goDay_85 : decode cX6_goDay 85 = .ok (.invokevirtual 18, 3) := by decide +kernel
end
section
theorem dX6_goDay_88 : decode cX6_goDay 88 = .ok (.aload_n 0, 1) := by decide +kernel
theorem dX6_goDay_89 : decode cX6_goDay 89 = .ok (.getfield 9, 3) := by decide +kernel
theorem dX6_goDay_92 : decode cX6_goDay 92 = .ok (.iload 4, 2) := by decide +kernel
theorem dX6_goDay_94 : decode cX6_goDay 94 = .ok (.iaload, 1) := by decide +kernel
theorem dX6_goDay_95 : decode cX6_goDay 95 = .ok (.iconst 1, 1) := by decide +kernel
theorem dX6_goDay_96 : decode cX6_goDay 96 = .ok (.iadd, 1) := by decide +kernel
theorem dX6_goDay_97 : decode cX6_goDay 97 = .ok (.invokevirtual 24, 3) := by decide +kernel
theorem dX6_goDay_100 : decode cX6_goDay 100 = .ok (.iinc 5 1, 3) := by decide +kernel
theorem dX6_goDay_103 : decode cX6_goDay 103 = .ok (.goto (-32), 3) := by decide +kernel
theorem dX6_goDay_106 : decode cX6_goDay 106 = .ok (.iinc 4 1, 3) := by decide +kernel
theorem dX6_goDay_109 : decode cX6_goDay 109 = .ok (.goto (-80), 3) := by decide +kernel
theorem dX6_goDay_112 : decode cX6_goDay 112 = .ok (.aload_n 0, 1) := by decide +kernel
theorem dX6_goDay_113 : decode cX6_goDay 113 = .ok (.getfield 15, 3) := by decide +kernel
theorem dX6_goDay_116 : decode cX6_goDay 116 = .ok (.iconst 0, 1) := by decide +kernel
theorem dX6_goDay_117 : decode cX6_goDay 117 = .ok (.aload_n 0, 1) := by decide +kernel
theorem dX6_goDay_118 : decode cX6_goDay 118 = .ok (.getfield 9, 3) := by decide +kernel
theorem dX6_goDay_121 : decode cX6_goDay 121 = .ok (.iconst 0, 1) := by decide +kernel
theorem dX6_goDay_122 : decode cX6_goDay 122 = .ok (.bipush 36, 2) := by decide +kernel
theorem dX6_goDay_124 : decode cX6_goDay 124 = .ok (.invokestatic 28, 3) := by decide +kernel
theorem dX6_goDay_127 : decode cX6_goDay 127 = .ok (.return_, 1) := by decide +kernel
theorem dX6_reached_0 : decode cX6_reached 0 = .ok (.lconst 0, 1) := by decide +kernel
theorem dX6_reached_1 : decode cX6_reached 1 = .ok (.lstore_n 1, 1) := by decide +kernel
theorem dX6_reached_2 : decode cX6_reached 2 = .ok (.iconst 0, 1) := by decide +kernel
theorem dX6_reached_3 : decode cX6_reached 3 = .ok (.istore_n 3, 1) := by decide +kernel
theorem dX6_reached_4 : decode cX6_reached 4 = .ok (.iload_n 3, 1) := by decide +kernel
theorem dX6_reached_5 : decode cX6_reached 5 = .ok (.bipush 36, 2) := by decide +kernel
theorem dX6_reached_7 : decode cX6_reached 7 = .ok (.if_icmp .ge 27, 3) := by decide +kernel
theorem dX6_reached_10 : decode cX6_reached 10 = .ok (.aload_n 0, 1) := by decide +kernel
theorem dX6_reached_11 : decode cX6_reached 11 = .ok (.getfield 9, 3) := by decide +kernel
theorem dX6_reached_14 : decode cX6_reached 14 = .ok (.iload_n 3, 1) := by decide +kernel
theorem dX6_reached_15 : decode cX6_reached 15 = .ok (.iaload, 1) := by decide +kernel
theorem dX6_reached_16 : decode cX6_reached 16 = .ok (.sipush 1000, 3) := by decide +kernel
theorem dX6_reached_19 : decode cX6_reached 19 = .ok (.if_icmp .ge 9, 3) := by decide +kernel
theorem dX6_reached_22 : decode cX6_reached 22 = .ok (.lload_n 1, 1) := by decide +kernel
theorem dX6_reached_23 : decode cX6_reached 23 = .ok (.lconst 1, 1) := by decide +kernel
theorem dX6_reached_24 : decode cX6_reached 24 = .ok (.iload_n 3, 1) := by decide +kernel
theorem dX6_reached_25 : decode cX6_reached 25 = .ok (.lshl, 1) := by decide +kernel
theorem dX6_reached_26 : decode cX6_reached 26 = .ok (.lor, 1) := by decide +kernel
theorem dX6_reached_27 : decode cX6_reached 27 = .ok (.lstore_n 1, 1) := by decide +kernel
theorem dX6_reached_28 : decode cX6_reached 28 = .ok (.iinc 3 1, 3) := by decide +kernel
theorem dX6_reached_31 : decode cX6_reached 31 = .ok (.goto (-27), 3) := by decide +kernel
theorem dX6_reached_34 : decode cX6_reached 34 = .ok (.lload_n 1, 1) := by decide +kernel
theorem dX6_reached_35 : decode cX6_reached 35 = .ok (.lreturn, 1) := by decide +kernel
theorem dX6_lower_0 : decode cX6_lower 0 = .ok (.iload_n 1, 1) := by decide +kernel
theorem dX6_lower_1 : decode cX6_lower 1 = .ok (.bipush 35, 2) := by decide +kernel
theorem dX6_lower_3 : decode cX6_lower 3 = .ok (.invokestatic 34, 3) := by decide +kernel
theorem dX6_lower_6 : decode cX6_lower 6 = .ok (.ifCond .eq 20, 3) := by decide +kernel
theorem dX6_lower_9 : decode cX6_lower 9 = .ok (.iload_n 2, 1) := by decide +kernel
theorem dX6_lower_10 : decode cX6_lower 10 = .ok (.aload_n 0, 1) := by decide +kernel
theorem dX6_lower_11 : decode cX6_lower 11 = .ok (.getfield 15, 3) := by decide +kernel
theorem dX6_lower_14 : decode cX6_lower 14 = .ok (.iload_n 1, 1) := by decide +kernel
theorem dX6_lower_15 : decode cX6_lower 15 = .ok (.iaload, 1) := by decide +kernel
theorem dX6_lower_16 : decode cX6_lower 16 = .ok (.if_icmp .ge 10, 3) := by decide +kernel
theorem dX6_lower_19 : decode cX6_lower 19 = .ok (.aload_n 0, 1) := by decide +kernel
theorem dX6_lower_20 : decode cX6_lower 20 = .ok (.getfield 15, 3) := by decide +kernel
theorem dX6_lower_23 : decode cX6_lower 23 = .ok (.iload_n 1, 1) := by decide +kernel
theorem dX6_lower_24 : decode cX6_lower 24 = .ok (.iload_n 2, 1) := by decide +kernel
theorem dX6_lower_25 : decode cX6_lower 25 = .ok (.iastore, 1) := by decide +kernel
theorem dX6_lower_26 : decode cX6_lower 26 = .ok (.return_, 1) := by decide +kernel
theorem dX7_init_0 : decode cX7_init 0 = .ok (.aload_n 0, 1) := by decide +kernel
theorem dX7_init_1 : decode cX7_init 1 = .ok (.invokespecial 1, 3) := by decide +kernel
theorem dX7_init_4 : decode cX7_init 4 = .ok (.aload_n 0, 1) := by decide +kernel
theorem dX7_init_5 : decode cX7_init 5 = .ok (.new 7, 3) := by decide +kernel
theorem dX7_init_8 : decode cX7_init 8 = .ok (.dup, 1) := by decide +kernel
theorem dX7_init_9 : decode cX7_init 9 = .ok (.invokespecial 9, 3) := by decide +kernel
theorem dX7_init_12 : decode cX7_init 12 = .ok (.putfield 10, 3) := by decide +kernel
theorem dX7_init_15 : decode cX7_init 15 = .ok (.aload_n 0, 1) := by decide +kernel
theorem dX7_init_16 : decode cX7_init 16 = .ok (.new 7, 3) := by decide +kernel
theorem dX7_init_19 : decode cX7_init 19 = .ok (.dup, 1) := by decide +kernel
theorem dX7_init_20 : decode cX7_init 20 = .ok (.invokespecial 9, 3) := by decide +kernel
theorem dX7_init_23 : decode cX7_init 23 = .ok (.putfield 16, 3) := by decide +kernel
theorem dX7_init_26 : decode cX7_init 26 = .ok (.aload_n 0, 1) := by decide +kernel
theorem dX7_init_27 : decode cX7_init 27 = .ok (.new 7, 3) := by decide +kernel
theorem dX7_init_30 : decode cX7_init 30 = .ok (.dup, 1) := by decide +kernel
theorem dX7_init_31 : decode cX7_init 31 = .ok (.invokespecial 9, 3) := by decide +kernel
theorem dX7_init_34 : decode cX7_init 34 = .ok (.putfield 19, 3) := by decide +kernel
theorem dX7_init_37 : decode cX7_init 37 = .ok (.aload_n 0, 1) := by decide +kernel
theorem dX7_init_38 : decode cX7_init 38 = .ok (.iconst 0, 1) := by decide +kernel
theorem dX7_init_39 : decode cX7_init 39 = .ok (.putfield 22, 3) := by decide +kernel
theorem dX7_init_42 : decode cX7_init 42 = .ok (.aload_n 0, 1) := by decide +kernel
theorem dX7_init_43 : decode cX7_init 43 = .ok (.new 26, 3) := by decide +kernel
theorem dX7_init_46 : decode cX7_init 46 = .ok (.dup, 1) := by decide +kernel
theorem dX7_init_47 : decode cX7_init 47 = .ok (.invokespecial 28, 3) := by decide +kernel
theorem dX7_init_50 : decode cX7_init 50 = .ok (.putfield 29, 3) := by decide +kernel
theorem dX7_init_53 : decode cX7_init 53 = .ok (.aload_n 0, 1) := by decide +kernel
theorem dX7_init_54 : decode cX7_init 54 = .ok (.new 26, 3) := by decide +kernel
theorem dX7_init_57 : decode cX7_init 57 = .ok (.dup, 1) := by decide +kernel
theorem dX7_init_58 : decode cX7_init 58 = .ok (.invokespecial 28, 3) := by decide +kernel
theorem dX7_init_61 : decode cX7_init 61 = .ok (.putfield 33, 3) := by decide +kernel
theorem dX7_init_64 : decode cX7_init 64 = .ok (.aload_n 0, 1) := by decide +kernel
theorem dX7_init_65 : decode cX7_init 65 = .ok (.new 36, 3) := by decide +kernel
theorem dX7_init_68 : decode cX7_init 68 = .ok (.dup, 1) := by decide +kernel
theorem dX7_init_69 : decode cX7_init 69 = .ok (.invokespecial 38, 3) := by decide +kernel
theorem dX7_init_72 : decode cX7_init 72 = .ok (.putfield 39, 3) := by decide +kernel
theorem dX7_init_75 : decode cX7_init 75 = .ok (.aload_n 0, 1) := by decide +kernel
theorem dX7_init_76 : decode cX7_init 76 = .ok (.new 43, 3) := by decide +kernel
theorem dX7_init_79 : decode cX7_init 79 = .ok (.dup, 1) := by decide +kernel
theorem dX7_init_80 : decode cX7_init 80 = .ok (.invokespecial 45, 3) := by decide +kernel
theorem dX7_init_83 : decode cX7_init 83 = .ok (.putfield 46, 3) := by decide +kernel
theorem dX7_init_86 : decode cX7_init 86 = .ok (.aload_n 0, 1) := by decide +kernel
theorem dX7_init_87 : decode cX7_init 87 = .ok (.new 50, 3) := by decide +kernel
theorem dX7_init_90 : decode cX7_init 90 = .ok (.dup, 1) := by decide +kernel
theorem dX7_init_91 : decode cX7_init 91 = .ok (.invokespecial 52, 3) := by decide +kernel
theorem dX7_init_94 : decode cX7_init 94 = .ok (.putfield 53, 3) := by decide +kernel
theorem dX7_init_97 : decode cX7_init 97 = .ok (.aload_n 0, 1) := by decide +kernel
theorem dX7_init_98 : decode cX7_init 98 = .ok (.new 57, 3) := by decide +kernel
theorem dX7_init_101 : decode cX7_init 101 = .ok (.dup, 1) := by decide +kernel
theorem dX7_init_102 : decode cX7_init 102 = .ok (.aload_n 0, 1) := by decide +kernel
theorem dX7_init_103 : decode cX7_init 103 = .ok (.getfield 53, 3) := by decide +kernel
theorem dX7_init_106 : decode cX7_init 106 = .ok (.invokespecial 59, 3) := by decide +kernel
theorem dX7_init_109 : decode cX7_init 109 = .ok (.putfield 62, 3) := by decide +kernel
theorem dX7_init_112 : decode cX7_init 112 = .ok (.aload_n 0, 1) := by decide +kernel
theorem dX7_init_113 : decode cX7_init 113 = .ok (.iconst 4, 1) := by decide +kernel
theorem dX7_init_114 : decode cX7_init 114 = .ok (.anewarray 66, 3) := by decide +kernel
theorem dX7_init_117 : decode cX7_init 117 = .ok (.putfield 68, 3) := by decide +kernel
theorem dX7_init_120 : decode cX7_init 120 = .ok (.iconst 0, 1) := by decide +kernel
theorem dX7_init_121 : decode cX7_init 121 = .ok (.istore_n 1, 1) := by decide +kernel
theorem dX7_init_122 : decode cX7_init 122 = .ok (.iload_n 1, 1) := by decide +kernel
theorem dX7_init_123 : decode cX7_init 123 = .ok (.iconst 4, 1) := by decide +kernel
theorem dX7_init_124 : decode cX7_init 124 = .ok (.if_icmp .ge 22, 3) := by decide +kernel
theorem dX7_init_127 : decode cX7_init 127 = .ok (.aload_n 0, 1) := by decide +kernel
theorem dX7_init_128 : decode cX7_init 128 = .ok (.getfield 68, 3) := by decide +kernel
theorem dX7_init_131 : decode cX7_init 131 = .ok (.iload_n 1, 1) := by decide +kernel
theorem dX7_init_132 : decode cX7_init 132 = .ok (.new 66, 3) := by decide +kernel
theorem dX7_init_135 : decode cX7_init 135 = .ok (.dup, 1) := by decide +kernel
theorem dX7_init_136 : decode cX7_init 136 = .ok (.invokespecial 72, 3) := by decide +kernel
theorem dX7_init_139 : decode cX7_init 139 = .ok (.aastore, 1) := by decide +kernel
theorem dX7_init_140 : decode cX7_init 140 = .ok (.iinc 1 1, 3) := by decide +kernel
theorem dX7_init_143 : decode cX7_init 143 = .ok (.goto (-21), 3) := by decide +kernel
theorem dX7_init_146 : decode cX7_init 146 = .ok (.aload_n 0, 1) := by decide +kernel
theorem dX7_init_147 : decode cX7_init 147 = .ok (.bipush 7, 2) := by decide +kernel
theorem dX7_init_149 : decode cX7_init 149 = .ok (.newarray .int, 2) := by decide +kernel
theorem dX7_init_151 : decode cX7_init 151 = .ok (.putfield 73, 3) := by decide +kernel
theorem dX7_init_154 : decode cX7_init 154 = .ok (.return_, 1) := by decide +kernel
theorem dX7_rota_0 : decode cX7_rota 0 = .ok (.iload_n 1, 1) := by decide +kernel
theorem dX7_rota_1 : decode cX7_rota 1 = .ok (.bipush 6, 2) := by decide +kernel
theorem dX7_rota_3 : decode cX7_rota 3 = .ok (.invokestatic 77, 3) := by decide +kernel
theorem dX7_rota_6 : decode cX7_rota 6 = .ok (.ifCond .eq 12, 3) := by decide +kernel
theorem dX7_rota_9 : decode cX7_rota 9 = .ok (.iload_n 2, 1) := by decide +kernel
theorem dX7_rota_10 : decode cX7_rota 10 = .ok (.bipush 8, 2) := by decide +kernel
theorem dX7_rota_12 : decode cX7_rota 12 = .ok (.invokestatic 77, 3) := by decide +kernel
theorem dX7_rota_15 : decode cX7_rota 15 = .ok (.ifCond .ne 10, 3) := by decide +kernel
theorem dX7_rota_18 : decode cX7_rota 18 = .ok (.aload_n 0, 1) := by decide +kernel
theorem dX7_rota_19 : decode cX7_rota 19 = .ok (.ldc 81, 2) := by decide +kernel
theorem dX7_rota_21 : decode cX7_rota 21 = .ok (.invokevirtual 82, 3) := by decide +kernel
theorem dX7_rota_24 : decode cX7_rota 24 = .ok (.ireturn, 1) := by decide +kernel
theorem dX7_rota_25 : decode cX7_rota 25 = .ok (.aload_n 0, 1) := by decide +kernel
theorem dX7_rota_26 : decode cX7_rota 26 = .ok (.getfield 10, 3) := by decide +kernel
theorem dX7_rota_29 : decode cX7_rota 29 = .ok (.getfield 86, 3) := by decide +kernel
theorem dX7_rota_32 : decode cX7_rota 32 = .ok (.iload_n 1, 1) := by decide +kernel
theorem dX7_rota_33 : decode cX7_rota 33 = .ok (.iaload, 1) := by decide +kernel
theorem dX7_rota_34 : decode cX7_rota 34 = .ok (.istore_n 3, 1) := by decide +kernel
theorem dX7_rota_35 : decode cX7_rota 35 = .ok (.aload_n 0, 1) := by decide +kernel
theorem dX7_rota_36 : decode cX7_rota 36 = .ok (.getfield 10, 3) := by decide +kernel
theorem dX7_rota_39 : decode cX7_rota 39 = .ok (.getfield 86, 3) := by decide +kernel
theorem dX7_rota_42 : decode cX7_rota 42 = .ok (.iload_n 1, 1) := by decide +kernel
theorem dX7_rota_43 : decode cX7_rota 43 = .ok (.iload_n 2, 1) := by decide +kernel
theorem dX7_rota_44 : decode cX7_rota 44 = .ok (.iastore, 1) := by decide +kernel
theorem dX7_rota_45 : decode cX7_rota 45 = .ok (.iload_n 3, 1) := by decide +kernel
theorem dX7_rota_46 : decode cX7_rota 46 = .ok (.ireturn, 1) := by decide +kernel
theorem dX7_rotaOf_0 : decode cX7_rotaOf 0 = .ok (.iload_n 1, 1) := by decide +kernel
theorem dX7_rotaOf_1 : decode cX7_rotaOf 1 = .ok (.bipush 6, 2) := by decide +kernel
theorem dX7_rotaOf_3 : decode cX7_rotaOf 3 = .ok (.invokestatic 77, 3) := by decide +kernel
theorem dX7_rotaOf_6 : decode cX7_rotaOf 6 = .ok (.ifCond .ne 10, 3) := by decide +kernel
theorem dX7_rotaOf_9 : decode cX7_rotaOf 9 = .ok (.aload_n 0, 1) := by decide +kernel
theorem dX7_rotaOf_10 : decode cX7_rotaOf 10 = .ok (.ldc 81, 2) := by decide +kernel
theorem dX7_rotaOf_12 : decode cX7_rotaOf 12 = .ok (.invokevirtual 82, 3) := by decide +kernel
theorem dX7_rotaOf_15 : decode cX7_rotaOf 15 = .ok (.ireturn, 1) := by decide +kernel
theorem dX7_rotaOf_16 : decode cX7_rotaOf 16 = .ok (.aload_n 0, 1) := by decide +kernel
theorem dX7_rotaOf_17 : decode cX7_rotaOf 17 = .ok (.getfield 10, 3) := by decide +kernel
theorem dX7_rotaOf_20 : decode cX7_rotaOf 20 = .ok (.getfield 86, 3) := by decide +kernel
theorem dX7_rotaOf_23 : decode cX7_rotaOf 23 = .ok (.iload_n 1, 1) := by decide +kernel
theorem dX7_rotaOf_24 : decode cX7_rotaOf 24 = .ok (.iaload, 1) := by decide +kernel
theorem dX7_rotaOf_25 : decode cX7_rotaOf 25 = .ok (.ireturn, 1) := by decide +kernel
theorem dX7_sick_0 : decode cX7_sick 0 = .ok (.iload_n 1, 1) := by decide +kernel
theorem dX7_sick_1 : decode cX7_sick 1 = .ok (.bipush 7, 2) := by decide +kernel
theorem dX7_sick_3 : decode cX7_sick 3 = .ok (.invokestatic 77, 3) := by decide +kernel
theorem dX7_sick_6 : decode cX7_sick 6 = .ok (.ifCond .eq 11, 3) := by decide +kernel
theorem dX7_sick_9 : decode cX7_sick 9 = .ok (.iload_n 2, 1) := by decide +kernel
theorem dX7_sick_10 : decode cX7_sick 10 = .ok (.iconst 1, 1) := by decide +kernel
theorem dX7_sick_11 : decode cX7_sick 11 = .ok (.invokestatic 77, 3) := by decide +kernel
theorem dX7_sick_14 : decode cX7_sick 14 = .ok (.ifCond .ne 10, 3) := by decide +kernel
theorem dX7_sick_17 : decode cX7_sick 17 = .ok (.aload_n 0, 1) := by decide +kernel
theorem dX7_sick_18 : decode cX7_sick 18 = .ok (.ldc 81, 2) := by decide +kernel
theorem dX7_sick_20 : decode cX7_sick 20 = .ok (.invokevirtual 82, 3) := by decide +kernel
theorem dX7_sick_23 : decode cX7_sick 23 = .ok (.ireturn, 1) := by decide +kernel
theorem dX7_sick_24 : decode cX7_sick 24 = .ok (.aload_n 0, 1) := by decide +kernel
theorem dX7_sick_25 : decode cX7_sick 25 = .ok (.getfield 10, 3) := by decide +kernel
theorem dX7_sick_28 : decode cX7_sick 28 = .ok (.iload_n 1, 1) := by decide +kernel
theorem dX7_sick_29 : decode cX7_sick 29 = .ok (.invokevirtual 89, 3) := by decide +kernel
theorem dX7_sick_32 : decode cX7_sick 32 = .ok (.ifCond .eq 7, 3) := by decide +kernel
theorem dX7_sick_35 : decode cX7_sick 35 = .ok (.iconst 1, 1) := by decide +kernel
theorem dX7_sick_36 : decode cX7_sick 36 = .ok (.goto 4, 3) := by decide +kernel
theorem dX7_sick_39 : decode cX7_sick 39 = .ok (.iconst 0, 1) := by decide +kernel
theorem dX7_sick_40 : decode cX7_sick 40 = .ok (.istore_n 3, 1) := by decide +kernel
theorem dX7_sick_41 : decode cX7_sick 41 = .ok (.aload_n 0, 1) := by decide +kernel
theorem dX7_sick_42 : decode cX7_sick 42 = .ok (.getfield 10, 3) := by decide +kernel
theorem dX7_sick_45 : decode cX7_sick 45 = .ok (.iload_n 1, 1) := by decide +kernel
theorem dX7_sick_46 : decode cX7_sick 46 = .ok (.iload_n 2, 1) := by decide +kernel
theorem dX7_sick_47 : decode cX7_sick 47 = .ok (.iconst 1, 1) := by decide +kernel
theorem dX7_sick_48 : decode cX7_sick 48 = .ok (.if_icmp .ne 7, 3) := by decide +kernel
theorem dX7_sick_51 : decode cX7_sick 51 = .ok (.iconst 1, 1) := by decide +kernel
theorem dX7_sick_52 : decode cX7_sick 52 = .ok (.goto 4, 3) := by decide +kernel
theorem dX7_sick_55 : decode cX7_sick 55 = .ok (.iconst 0, 1) := by decide +kernel
theorem dX7_sick_56 : decode cX7_sick 56 = .ok (.invokevirtual 93, 3) := by decide +kernel
theorem dX7_sick_59 : decode cX7_sick 59 = .ok (.iload_n 3, 1) := by decide +kernel
theorem dX7_sick_60 : decode cX7_sick 60 = .ok (.ireturn, 1) := by decide +kernel
theorem dX7_force_0 : decode cX7_force 0 = .ok (.iload_n 1, 1) := by decide +kernel
theorem dX7_force_1 : decode cX7_force 1 = .ok (.bipush 9, 2) := by decide +kernel
theorem dX7_force_3 : decode cX7_force 3 = .ok (.invokestatic 77, 3) := by decide +kernel
theorem dX7_force_6 : decode cX7_force 6 = .ok (.ifCond .ne 10, 3) := by decide +kernel
theorem dX7_force_9 : decode cX7_force 9 = .ok (.aload_n 0, 1) := by decide +kernel
theorem dX7_force_10 : decode cX7_force 10 = .ok (.ldc 81, 2) := by decide +kernel
theorem dX7_force_12 : decode cX7_force 12 = .ok (.invokevirtual 82, 3) := by decide +kernel
theorem dX7_force_15 : decode cX7_force 15 = .ok (.ireturn, 1) := by decide +kernel
theorem dX7_force_16 : decode cX7_force 16 = .ok (.aload_n 0, 1) := by decide +kernel
theorem dX7_force_17 : decode cX7_force 17 = .ok (.getfield 10, 3) := by decide +kernel
theorem dX7_force_20 : decode cX7_force 20 = .ok (.getfield 97, 3) := by decide +kernel
theorem dX7_force_23 : decode cX7_force 23 = .ok (.istore_n 2, 1) := by decide +kernel
theorem dX7_force_24 : decode cX7_force 24 = .ok (.aload_n 0, 1) := by decide +kernel
theorem dX7_force_25 : decode cX7_force 25 = .ok (.getfield 10, 3) := by decide +kernel
theorem dX7_force_28 : decode cX7_force 28 = .ok (.iload_n 1, 1) := by decide +kernel
theorem dX7_force_29 : decode cX7_force 29 = .ok (.putfield 97, 3) := by decide +kernel
theorem dX7_force_32 : decode cX7_force 32 = .ok (.iload_n 2, 1) := by decide +kernel
theorem dX7_force_33 : decode cX7_force 33 = .ok (.ireturn, 1) := by decide +kernel
theorem dX7_blows_0 : decode cX7_blows 0 = .ok (.iload_n 1, 1) := by decide +kernel
theorem dX7_blows_1 : decode cX7_blows 1 = .ok (.sipush 9999, 3) := by decide +kernel
theorem dX7_blows_4 : decode cX7_blows 4 = .ok (.invokestatic 77, 3) := by decide +kernel
theorem dX7_blows_7 : decode cX7_blows 7 = .ok (.ifCond .ne 10, 3) := by decide +kernel
theorem dX7_blows_10 : decode cX7_blows 10 = .ok (.aload_n 0, 1) := by decide +kernel
theorem dX7_blows_11 : decode cX7_blows 11 = .ok (.ldc 81, 2) := by decide +kernel
theorem dX7_blows_13 : decode cX7_blows 13 = .ok (.invokevirtual 82, 3) := by decide +kernel
theorem dX7_blows_16 : decode cX7_blows 16 = .ok (.ireturn, 1) := by decide +kernel
theorem dX7_blows_17 : decode cX7_blows 17 = .ok (.aload_n 0, 1) := by decide +kernel
theorem dX7_blows_18 : decode cX7_blows 18 = .ok (.getfield 10, 3) := by decide +kernel
theorem dX7_blows_21 : decode cX7_blows 21 = .ok (.iload_n 1, 1) := by decide +kernel
theorem dX7_blows_22 : decode cX7_blows 22 = .ok (.invokevirtual 101, 3) := by decide +kernel
theorem dX7_blows_25 : decode cX7_blows 25 = .ok (.ireturn, 1) := by decide +kernel
theorem dX7_lee_0 : decode cX7_lee 0 = .ok (.iload_n 1, 1) := by decide +kernel
theorem dX7_lee_1 : decode cX7_lee 1 = .ok (.bipush 35, 2) := by decide +kernel
theorem dX7_lee_3 : decode cX7_lee 3 = .ok (.invokestatic 77, 3) := by decide +kernel
theorem dX7_lee_6 : decode cX7_lee 6 = .ok (.ifCond .eq 12, 3) := by decide +kernel
theorem dX7_lee_9 : decode cX7_lee 9 = .ok (.iload_n 2, 1) := by decide +kernel
theorem dX7_lee_10 : decode cX7_lee 10 = .ok (.bipush 7, 2) := by decide +kernel
theorem dX7_lee_12 : decode cX7_lee 12 = .ok (.invokestatic 77, 3) := by decide +kernel
theorem dX7_lee_15 : decode cX7_lee 15 = .ok (.ifCond .ne 10, 3) := by decide +kernel
theorem dX7_lee_18 : decode cX7_lee 18 = .ok (.aload_n 0, 1) := by decide +kernel
theorem dX7_lee_19 : decode cX7_lee 19 = .ok (.ldc 81, 2) := by decide +kernel
theorem dX7_lee_21 : decode cX7_lee 21 = .ok (.invokevirtual 82, 3) := by decide +kernel
theorem dX7_lee_24 : decode cX7_lee 24 = .ok (.ireturn, 1) := by decide +kernel
theorem dX7_lee_25 : decode cX7_lee 25 = .ok (.iload_n 1, 1) := by decide +kernel
theorem dX7_lee_26 : decode cX7_lee 26 = .ok (.iload_n 2, 1) := by decide +kernel
theorem dX7_lee_27 : decode cX7_lee 27 = .ok (.invokestatic 104, 3) := by decide +kernel
theorem dX7_lee_30 : decode cX7_lee 30 = .ok (.istore_n 3, 1) := by decide +kernel
theorem dX7_lee_31 : decode cX7_lee 31 = .ok (.iload_n 3, 1) := by decide +kernel
theorem dX7_lee_32 : decode cX7_lee 32 = .ok (.iconst (-1), 1) := by decide +kernel
theorem dX7_lee_33 : decode cX7_lee 33 = .ok (.if_icmp .ne 12, 3) := by decide +kernel
theorem dX7_lee_36 : decode cX7_lee 36 = .ok (.aload_n 0, 1) := by decide +kernel
theorem dX7_lee_37 : decode cX7_lee 37 = .ok (.ldc 108, 2) := by decide +kernel
theorem dX7_lee_39 : decode cX7_lee 39 = .ok (.invokevirtual 82, 3) := by decide +kernel
theorem dX7_lee_42 : decode cX7_lee 42 = .ok (.goto 4, 3) := by decide +kernel
theorem dX7_lee_45 : decode cX7_lee 45 = .ok (.iload_n 3, 1) := by decide +kernel
theorem dX7_lee_46 : decode cX7_lee 46 = .ok (.ireturn, 1) := by decide +kernel
theorem dX7_thing_0 : decode cX7_thing 0 = .ok (.iload_n 1, 1) := by decide +kernel
theorem dX7_thing_1 : decode cX7_thing 1 = .ok (.iconst 5, 1) := by decide +kernel
theorem dX7_thing_2 : decode cX7_thing 2 = .ok (.invokestatic 77, 3) := by decide +kernel
theorem dX7_thing_5 : decode cX7_thing 5 = .ok (.ifCond .eq 12, 3) := by decide +kernel
theorem dX7_thing_8 : decode cX7_thing 8 = .ok (.iload_n 2, 1) := by decide +kernel
theorem dX7_thing_9 : decode cX7_thing 9 = .ok (.bipush 35, 2) := by decide +kernel
theorem dX7_thing_11 : decode cX7_thing 11 = .ok (.invokestatic 77, 3) := by decide +kernel
theorem dX7_thing_14 : decode cX7_thing 14 = .ok (.ifCond .ne 10, 3) := by decide +kernel
theorem dX7_thing_17 : decode cX7_thing 17 = .ok (.aload_n 0, 1) := by decide +kernel
theorem dX7_thing_18 : decode cX7_thing 18 = .ok (.ldc 81, 2) := by decide +kernel
theorem dX7_thing_20 : decode cX7_thing 20 = .ok (.invokevirtual 82, 3) := by decide +kernel
theorem dX7_thing_23 : decode cX7_thing 23 = .ok (.ireturn, 1) := by decide +kernel
theorem dX7_thing_24 : decode cX7_thing 24 = .ok (.aload_n 0, 1) := by decide +kernel
theorem dX7_thing_25 : decode cX7_thing 25 = .ok (.getfield 10, 3) := by decide +kernel
theorem dX7_thing_28 : decode cX7_thing 28 = .ok (.invokevirtual 109, 3) := by decide +kernel
theorem dX7_thing_31 : decode cX7_thing 31 = .ok (.ifCond .eq 10, 3) := by decide +kernel
theorem dX7_thing_34 : decode cX7_thing 34 = .ok (.aload_n 0, 1) := by decide +kernel
theorem dX7_thing_35 : decode cX7_thing 35 = .ok (.ldc 113, 2) := by decide +kernel
theorem dX7_thing_37 : decode cX7_thing 37 = .ok (.invokevirtual 82, 3) := by decide +kernel
theorem dX7_thing_40 : decode cX7_thing 40 = .ok (.ireturn, 1) := by decide +kernel
theorem dX7_thing_41 : decode cX7_thing 41 = .ok (.aload_n 0, 1) := by decide +kernel
theorem dX7_thing_42 : decode cX7_thing 42 = .ok (.getfield 10, 3) := by decide +kernel
theorem dX7_thing_45 : decode cX7_thing 45 = .ok (.iload_n 1, 1) := by decide +kernel
theorem dX7_thing_46 : decode cX7_thing 46 = .ok (.iload_n 2, 1) := by decide +kernel
theorem dX7_thing_47 : decode cX7_thing 47 = .ok (.iconst 0, 1) := by decide +kernel
theorem dX7_thing_48 : decode cX7_thing 48 = .ok (.invokevirtual 114, 3) := by decide +kernel
theorem dX7_thing_51 : decode cX7_thing 51 = .ok (.aload_n 0, 1) := by decide +kernel
theorem dX7_thing_52 : decode cX7_thing 52 = .ok (.getfield 10, 3) := by decide +kernel
theorem dX7_thing_55 : decode cX7_thing 55 = .ok (.getfield 118, 3) := by decide +kernel
theorem dX7_thing_58 : decode cX7_thing 58 = .ok (.iconst 1, 1) := by decide +kernel
theorem dX7_thing_59 : decode cX7_thing 59 = .ok (.isub, 1) := by decide +kernel
theorem dX7_thing_60 : decode cX7_thing 60 = .ok (.ireturn, 1) := by decide +kernel
theorem dX7_of_0 : decode cX7_of 0 = .ok (.aload_n 0, 1) := by decide +kernel
theorem dX7_of_1 : decode cX7_of 1 = .ok (.getfield 10, 3) := by decide +kernel
theorem dX7_of_4 : decode cX7_of 4 = .ok (.iload_n 1, 1) := by decide +kernel
theorem dX7_of_5 : decode cX7_of 5 = .ok (.invokevirtual 121, 3) := by decide +kernel
theorem dX7_of_8 : decode cX7_of 8 = .ok (.ifCond .eq 11, 3) := by decide +kernel
theorem dX7_of_11 : decode cX7_of 11 = .ok (.iload_n 2, 1) := by decide +kernel
theorem dX7_of_12 : decode cX7_of 12 = .ok (.iconst 5, 1) := by decide +kernel
theorem dX7_of_13 : decode cX7_of 13 = .ok (.invokestatic 77, 3) := by decide +kernel
theorem dX7_of_16 : decode cX7_of 16 = .ok (.ifCond .ne 10, 3) := by decide +kernel
theorem dX7_of_19 : decode cX7_of 19 = .ok (.aload_n 0, 1) := by decide +kernel
theorem dX7_of_20 : decode cX7_of 20 = .ok (.ldc 81, 2) := by decide +kernel
theorem dX7_of_22 : decode cX7_of 22 = .ok (.invokevirtual 82, 3) := by decide +kernel
theorem dX7_of_25 : decode cX7_of 25 = .ok (.ireturn, 1) := by decide +kernel
theorem dX7_of_26 : decode cX7_of 26 = .ok (.aload_n 0, 1) := by decide +kernel
theorem dX7_of_27 : decode cX7_of 27 = .ok (.getfield 10, 3) := by decide +kernel
theorem dX7_of_30 : decode cX7_of 30 = .ok (.getfield 124, 3) := by decide +kernel
theorem dX7_of_33 : decode cX7_of 33 = .ok (.iload_n 1, 1) := by decide +kernel
theorem dX7_of_34 : decode cX7_of 34 = .ok (.aaload, 1) := by decide +kernel
theorem dX7_of_35 : decode cX7_of 35 = .ok (.astore_n 3, 1) := by decide +kernel
theorem dX7_of_36 : decode cX7_of 36 = .ok (.aload_n 0, 1) := by decide +kernel
theorem dX7_of_37 : decode cX7_of 37 = .ok (.getfield 10, 3) := by decide +kernel
theorem dX7_of_40 : decode cX7_of 40 = .ok (.aload_n 0, 1) := by decide +kernel
theorem dX7_of_41 : decode cX7_of 41 = .ok (.getfield 10, 3) := by decide +kernel
theorem dX7_of_44 : decode cX7_of 44 = .ok (.getfield 128, 3) := by decide +kernel
theorem dX7_of_47 : decode cX7_of 47 = .ok (.invokevirtual 101, 3) := by decide +kernel
theorem dX7_of_50 : decode cX7_of 50 = .ok (.istore 4, 2) := by decide +kernel
theorem dX7_of_52 : decode cX7_of 52 = .ok (.iload_n 2, 1) := by decide +kernel
theorem dX7_of_53 : decode cX7_of 53 = .ok (.tableswitch 76 0 4 #[35, 40, 45, 50, 55], 35) := by decide +kernel
theorem dX7_of_88 : decode cX7_of 88 = .ok (.aload_n 3, 1) := by decide +kernel
theorem dX7_of_89 : decode cX7_of 89 = .ok (.getfield 131, 3) := by decide +kernel
theorem dX7_of_92 : decode cX7_of 92 = .ok (.ireturn, 1) := by decide +kernel
theorem dX7_of_93 : decode cX7_of 93 = .ok (.aload_n 3, 1) := by decide +kernel
theorem dX7_of_94 : decode cX7_of 94 = .ok (.getfield 134, 3) := by decide +kernel
theorem dX7_of_97 : decode cX7_of 97 = .ok (.ireturn, 1) := by decide +kernel
theorem dX7_of_98 : decode cX7_of 98 = .ok (.aload_n 3, 1) := by decide +kernel
theorem dX7_of_99 : decode cX7_of 99 = .ok (.getfield 137, 3) := by decide +kernel
theorem dX7_of_102 : decode cX7_of 102 = .ok (.ireturn, 1) := by decide +kernel
theorem dX7_of_103 : decode cX7_of 103 = .ok (.aload_n 3, 1) := by decide +kernel
theorem dX7_of_104 : decode cX7_of 104 = .ok (.getfield 140, 3) := by decide +kernel
theorem dX7_of_107 : decode cX7_of 107 = .ok (.ireturn, 1) := by decide +kernel
theorem dX7_of_108 : decode cX7_of 108 = .ok (.aload_n 3, 1) := by decide +kernel
theorem dX7_of_109 : decode cX7_of 109 = .ok (.aload_n 0, 1) := by decide +kernel
theorem dX7_of_110 : decode cX7_of 110 = .ok (.getfield 10, 3) := by decide +kernel
theorem dX7_of_113 : decode cX7_of 113 = .ok (.getfield 128, 3) := by decide +kernel
theorem dX7_of_116 : decode cX7_of 116 = .ok (.iload 4, 2) := by decide +kernel
theorem dX7_of_118 : decode cX7_of 118 = .ok (.aload_n 0, 1) := by decide +kernel
theorem dX7_of_119 : decode cX7_of 119 = .ok (.getfield 10, 3) := by decide +kernel
theorem dX7_of_122 : decode cX7_of 122 = .ok (.getfield 97, 3) := by decide +kernel
theorem dX7_of_125 : decode cX7_of 125 = .ok (.invokevirtual 143, 3) := by decide +kernel
theorem dX7_of_128 : decode cX7_of 128 = .ok (.ireturn, 1) := by decide +kernel
theorem dX7_of_129 : decode cX7_of 129 = .ok (.aload_n 3, 1) := by decide +kernel
theorem dX7_of_130 : decode cX7_of 130 = .ok (.iload 4, 2) := by decide +kernel
theorem dX7_of_132 : decode cX7_of 132 = .ok (.aload_n 0, 1) := by decide +kernel
theorem dX7_of_133 : decode cX7_of 133 = .ok (.getfield 10, 3) := by decide +kernel
theorem dX7_of_136 : decode cX7_of 136 = .ok (.getfield 97, 3) := by decide +kernel
theorem dX7_of_139 : decode cX7_of 139 = .ok (.invokevirtual 147, 3) := by decide +kernel
theorem dX7_of_142 : decode cX7_of 142 = .ok (.ifCond .eq 7, 3) := by decide +kernel
theorem dX7_of_145 : decode cX7_of 145 = .ok (.iconst 1, 1) := by decide +kernel
theorem dX7_of_146 : decode cX7_of 146 = .ok (.goto 4, 3) := by decide +kernel
theorem dX7_of_149 : decode cX7_of 149 = .ok (.iconst 0, 1) := by decide +kernel
theorem dX7_of_150 : decode cX7_of 150 = .ok (.ireturn, 1) := by decide +kernel
theorem dX7_set_0 : decode cX7_set 0 = .ok (.aload_n 0, 1) := by decide +kernel
theorem dX7_set_1 : decode cX7_set 1 = .ok (.getfield 10, 3) := by decide +kernel
theorem dX7_set_4 : decode cX7_set 4 = .ok (.iload_n 1, 1) := by decide +kernel
theorem dX7_set_5 : decode cX7_set 5 = .ok (.invokevirtual 121, 3) := by decide +kernel
theorem dX7_set_8 : decode cX7_set 8 = .ok (.ifCond .eq 24, 3) := by decide +kernel
theorem dX7_set_11 : decode cX7_set 11 = .ok (.iload_n 2, 1) := by decide +kernel
theorem dX7_set_12 : decode cX7_set 12 = .ok (.iconst 1, 1) := by decide +kernel
theorem dX7_set_13 : decode cX7_set 13 = .ok (.if_icmp .lt 19, 3) := by decide +kernel
theorem dX7_set_16 : decode cX7_set 16 = .ok (.iload_n 2, 1) := by decide +kernel
theorem dX7_set_17 : decode cX7_set 17 = .ok (.iconst 3, 1) := by decide +kernel
theorem dX7_set_18 : decode cX7_set 18 = .ok (.if_icmp .gt 14, 3) := by decide +kernel
theorem dX7_set_21 : decode cX7_set 21 = .ok (.iload_n 3, 1) := by decide +kernel
theorem dX7_set_22 : decode cX7_set 22 = .ok (.iload_n 2, 1) := by decide +kernel
theorem dX7_set_23 : decode cX7_set 23 = .ok (.invokestatic 150, 3) := by decide +kernel
theorem dX7_set_26 : decode cX7_set 26 = .ok (.invokestatic 77, 3) := by decide +kernel
theorem dX7_set_29 : decode cX7_set 29 = .ok (.ifCond .ne 10, 3) := by decide +kernel
theorem dX7_set_32 : decode cX7_set 32 = .ok (.aload_n 0, 1) := by decide +kernel
theorem dX7_set_33 : decode cX7_set 33 = .ok (.ldc 81, 2) := by decide +kernel
theorem dX7_set_35 : decode cX7_set 35 = .ok (.invokevirtual 82, 3) := by decide +kernel
theorem dX7_set_38 : decode cX7_set 38 = .ok (.ireturn, 1) := by decide +kernel
theorem dX7_set_39 : decode cX7_set 39 = .ok (.aload_n 0, 1) := by decide +kernel
theorem dX7_set_40 : decode cX7_set 40 = .ok (.getfield 10, 3) := by decide +kernel
theorem dX7_set_43 : decode cX7_set 43 = .ok (.getfield 124, 3) := by decide +kernel
theorem dX7_set_46 : decode cX7_set 46 = .ok (.iload_n 1, 1) := by decide +kernel
theorem dX7_set_47 : decode cX7_set 47 = .ok (.aaload, 1) := by decide +kernel
theorem dX7_set_48 : decode cX7_set 48 = .ok (.astore 4, 2) := by decide +kernel
theorem dX7_set_50 : decode cX7_set 50 = .ok (.iload_n 2, 1) := by decide +kernel
theorem dX7_set_51 : decode cX7_set 51 = .ok (.iconst 1, 1) := by decide +kernel
theorem dX7_set_52 : decode cX7_set 52 = .ok (.if_icmp .ne 19, 3) := by decide +kernel
theorem dX7_set_55 : decode cX7_set 55 = .ok (.aload 4, 2) := by decide +kernel
theorem dX7_set_57 : decode cX7_set 57 = .ok (.getfield 134, 3) := by decide +kernel
theorem dX7_set_60 : decode cX7_set 60 = .ok (.istore 5, 2) := by decide +kernel
theorem dX7_set_62 : decode cX7_set 62 = .ok (.aload 4, 2) := by decide +kernel
theorem dX7_set_64 : decode cX7_set 64 = .ok (.iload_n 3, 1) := by decide +kernel
theorem dX7_set_65 : decode cX7_set 65 = .ok (.putfield 134, 3) := by decide +kernel
theorem dX7_set_68 : decode cX7_set 68 = .ok (.goto 37, 3) := by decide +kernel
theorem dX7_set_71 : decode cX7_set 71 = .ok (.iload_n 2, 1) := by decide +kernel
theorem dX7_set_72 : decode cX7_set 72 = .ok (.iconst 2, 1) := by decide +kernel
theorem dX7_set_73 : decode cX7_set 73 = .ok (.if_icmp .ne 19, 3) := by decide +kernel
theorem dX7_set_76 : decode cX7_set 76 = .ok (.aload 4, 2) := by decide +kernel
theorem dX7_set_78 : decode cX7_set 78 = .ok (.getfield 137, 3) := by decide +kernel
theorem dX7_set_81 : decode cX7_set 81 = .ok (.istore 5, 2) := by decide +kernel
theorem dX7_set_83 : decode cX7_set 83 = .ok (.aload 4, 2) := by decide +kernel
theorem dX7_set_85 : decode cX7_set 85 = .ok (.iload_n 3, 1) := by decide +kernel
theorem dX7_set_86 : decode cX7_set 86 = .ok (.putfield 137, 3) := by decide +kernel
theorem dX7_set_89 : decode cX7_set 89 = .ok (.goto 16, 3) := by decide +kernel
theorem dX7_set_92 : decode cX7_set 92 = .ok (.aload 4, 2) := by decide +kernel
theorem dX7_set_94 : decode cX7_set 94 = .ok (.getfield 140, 3) := by decide +kernel
theorem dX7_set_97 : decode cX7_set 97 = .ok (.istore 5, 2) := by decide +kernel
theorem dX7_set_99 : decode cX7_set 99 = .ok (.aload 4, 2) := by decide +kernel
theorem dX7_set_101 : decode cX7_set 101 = .ok (.iload_n 3, 1) := by decide +kernel
theorem dX7_set_102 : decode cX7_set 102 = .ok (.putfield 140, 3) := by decide +kernel
theorem dX7_set_105 : decode cX7_set 105 = .ok (.iload 5, 2) := by decide +kernel
theorem dX7_set_107 : decode cX7_set 107 = .ok (.ireturn, 1) := by decide +kernel
theorem dX7_turn_0 : decode cX7_turn 0 = .ok (.aload_n 0, 1) := by decide +kernel
theorem dX7_turn_1 : decode cX7_turn 1 = .ok (.getfield 10, 3) := by decide +kernel
theorem dX7_turn_4 : decode cX7_turn 4 = .ok (.iload_n 1, 1) := by decide +kernel
theorem dX7_turn_5 : decode cX7_turn 5 = .ok (.invokevirtual 121, 3) := by decide +kernel
theorem dX7_turn_8 : decode cX7_turn 8 = .ok (.ifCond .eq 11, 3) := by decide +kernel
theorem dX7_turn_11 : decode cX7_turn 11 = .ok (.iload_n 2, 1) := by decide +kernel
theorem dX7_turn_12 : decode cX7_turn 12 = .ok (.iconst 5, 1) := by decide +kernel
theorem dX7_turn_13 : decode cX7_turn 13 = .ok (.invokestatic 77, 3) := by decide +kernel
theorem dX7_turn_16 : decode cX7_turn 16 = .ok (.ifCond .ne 10, 3) := by decide +kernel
theorem dX7_turn_19 : decode cX7_turn 19 = .ok (.aload_n 0, 1) := by decide +kernel
theorem dX7_turn_20 : decode cX7_turn 20 = .ok (.ldc 81, 2) := by decide +kernel
theorem dX7_turn_22 : decode cX7_turn 22 = .ok (.invokevirtual 82, 3) := by decide +kernel
theorem dX7_turn_25 : decode cX7_turn 25 = .ok (.ireturn, 1) := by decide +kernel
theorem dX7_turn_26 : decode cX7_turn 26 = .ok (.aload_n 0, 1) := by decide +kernel
theorem dX7_turn_27 : decode cX7_turn 27 = .ok (.getfield 10, 3) := by decide +kernel
theorem dX7_turn_30 : decode cX7_turn 30 = .ok (.getfield 124, 3) := by decide +kernel
theorem dX7_turn_33 : decode cX7_turn 33 = .ok (.iload_n 1, 1) := by decide +kernel
theorem dX7_turn_34 : decode cX7_turn 34 = .ok (.aaload, 1) := by decide +kernel
theorem dX7_turn_35 : decode cX7_turn 35 = .ok (.astore_n 3, 1) := by decide +kernel
theorem dX7_turn_36 : decode cX7_turn 36 = .ok (.aload_n 3, 1) := by decide +kernel
theorem dX7_turn_37 : decode cX7_turn 37 = .ok (.getfield 131, 3) := by decide +kernel
theorem dX7_turn_40 : decode cX7_turn 40 = .ok (.istore 4, 2) := by decide +kernel
theorem dX7_turn_42 : decode cX7_turn 42 = .ok (.aload_n 3, 1) := by decide +kernel
theorem dX7_turn_43 : decode cX7_turn 43 = .ok (.iload_n 2, 1) := by decide +kernel
theorem dX7_turn_44 : decode cX7_turn 44 = .ok (.putfield 131, 3) := by decide +kernel
theorem dX7_turn_47 : decode cX7_turn 47 = .ok (.iload 4, 2) := by decide +kernel
theorem dX7_turn_49 : decode cX7_turn 49 = .ok (.ireturn, 1) := by decide +kernel
theorem dX7_as_0 : decode cX7_as 0 = .ok (.aload_n 0, 1) := by decide +kernel
theorem dX7_as_1 : decode cX7_as 1 = .ok (.getfield 10, 3) := by decide +kernel
theorem dX7_as_4 : decode cX7_as 4 = .ok (.iload_n 1, 1) := by decide +kernel
theorem dX7_as_5 : decode cX7_as 5 = .ok (.invokevirtual 121, 3) := by decide +kernel
theorem dX7_as_8 : decode cX7_as 8 = .ok (.ifCond .eq 11, 3) := by decide +kernel
theorem dX7_as_11 : decode cX7_as 11 = .ok (.iload_n 2, 1) := by decide +kernel
theorem dX7_as_12 : decode cX7_as 12 = .ok (.iconst 5, 1) := by decide +kernel
theorem dX7_as_13 : decode cX7_as 13 = .ok (.invokestatic 77, 3) := by decide +kernel
theorem dX7_as_16 : decode cX7_as 16 = .ok (.ifCond .ne 10, 3) := by decide +kernel
theorem dX7_as_19 : decode cX7_as 19 = .ok (.aload_n 0, 1) := by decide +kernel
theorem dX7_as_20 : decode cX7_as 20 = .ok (.ldc 81, 2) := by decide +kernel
theorem dX7_as_22 : decode cX7_as 22 = .ok (.invokevirtual 82, 3) := by decide +kernel
theorem dX7_as_25 : decode cX7_as 25 = .ok (.ireturn, 1) := by decide +kernel
theorem dX7_as_26 : decode cX7_as 26 = .ok (.aload_n 0, 1) := by decide +kernel
theorem dX7_as_27 : decode cX7_as 27 = .ok (.getfield 10, 3) := by decide +kernel
theorem dX7_as_30 : decode cX7_as 30 = .ok (.getfield 124, 3) := by decide +kernel
theorem dX7_as_33 : decode cX7_as 33 = .ok (.iload_n 1, 1) := by decide +kernel
theorem dX7_as_34 : decode cX7_as 34 = .ok (.aaload, 1) := by decide +kernel
theorem dX7_as_35 : decode cX7_as 35 = .ok (.astore_n 3, 1) := by decide +kernel
theorem dX7_as_36 : decode cX7_as 36 = .ok (.aload_n 3, 1) := by decide +kernel
theorem dX7_as_37 : decode cX7_as 37 = .ok (.getfield 131, 3) := by decide +kernel
theorem dX7_as_40 : decode cX7_as 40 = .ok (.iload_n 2, 1) := by decide +kernel
theorem dX7_as_41 : decode cX7_as 41 = .ok (.invokestatic 153, 3) := by decide +kernel
theorem dX7_as_44 : decode cX7_as 44 = .ok (.ifCond .eq 10, 3) := by decide +kernel
theorem dX7_as_47 : decode cX7_as 47 = .ok (.aload_n 3, 1) := by decide +kernel
theorem dX7_as_48 : decode cX7_as 48 = .ok (.getfield 140, 3) := by decide +kernel
theorem dX7_as_51 : decode cX7_as 51 = .ok (.goto 9, 3) := by decide +kernel
theorem dX7_as_54 : decode cX7_as 54 = .ok (.aload_n 0, 1) := by decide +kernel
theorem dX7_as_55 : decode cX7_as 55 = .ok (.ldc 156, 2) := by decide +kernel
theorem dX7_as_57 : decode cX7_as 57 = .ok (.invokevirtual 82, 3) := by decide +kernel
theorem dX7_as_60 : decode cX7_as 60 = .ok (.ireturn, 1) := by decide +kernel
theorem dX7_days_0 : decode cX7_days 0 = .ok (.iload_n 1, 1) := by decide +kernel
theorem dX7_days_1 : decode cX7_days 1 = .ok (.bipush 60, 2) := by decide +kernel
theorem dX7_days_3 : decode cX7_days 3 = .ok (.invokestatic 157, 3) := by decide +kernel
theorem dX7_days_6 : decode cX7_days 6 = .ok (.ifCond .ne 10, 3) := by decide +kernel
theorem dX7_days_9 : decode cX7_days 9 = .ok (.aload_n 0, 1) := by decide +kernel
theorem dX7_days_10 : decode cX7_days 10 = .ok (.ldc 81, 2) := by decide +kernel
theorem dX7_days_12 : decode cX7_days 12 = .ok (.invokevirtual 82, 3) := by decide +kernel
theorem dX7_days_15 : decode cX7_days 15 = .ok (.ireturn, 1) := by decide +kernel
theorem dX7_days_16 : decode cX7_days 16 = .ok (.aload_n 0, 1) := by decide +kernel
theorem dX7_days_17 : decode cX7_days 17 = .ok (.getfield 10, 3) := by decide +kernel
theorem dX7_days_20 : decode cX7_days 20 = .ok (.getfield 128, 3) := by decide +kernel
theorem dX7_days_23 : decode cX7_days 23 = .ok (.iload_n 1, 1) := by decide +kernel
theorem dX7_days_24 : decode cX7_days 24 = .ok (.iadd, 1) := by decide +kernel
theorem dX7_days_25 : decode cX7_days 25 = .ok (.sipush 9999, 3) := by decide +kernel
theorem dX7_days_28 : decode cX7_days 28 = .ok (.if_icmp .le 10, 3) := by decide +kernel
theorem dX7_days_31 : decode cX7_days 31 = .ok (.aload_n 0, 1) := by decide +kernel
theorem dX7_days_32 : decode cX7_days 32 = .ok (.ldc 160, 2) := by decide +kernel
theorem dX7_days_34 : decode cX7_days 34 = .ok (.invokevirtual 82, 3) := by decide +kernel
theorem dX7_days_37 : decode cX7_days 37 = .ok (.ireturn, 1) := by decide +kernel
theorem dX7_days_38 : decode cX7_days 38 = .ok (.aload_n 0, 1) := by decide +kernel
theorem dX7_days_39 : decode cX7_days 39 = .ok (.getfield 10, 3) := by decide +kernel
theorem dX7_days_42 : decode cX7_days 42 = .ok (.iload_n 1, 1) := by decide +kernel
theorem dX7_days_43 : decode cX7_days 43 = .ok (.invokevirtual 161, 3) := by decide +kernel
theorem dX7_days_46 : decode cX7_days 46 = .ok (.pop, 1) := by decide +kernel
theorem dX7_days_47 : decode cX7_days 47 = .ok (.aload_n 0, 1) := by decide +kernel
theorem dX7_days_48 : decode cX7_days 48 = .ok (.getfield 10, 3) := by decide +kernel
theorem dX7_days_51 : decode cX7_days 51 = .ok (.invokevirtual 164, 3) := by decide +kernel
theorem dX7_days_54 : decode cX7_days 54 = .ok (.ireturn, 1) := by decide +kernel
theorem dX7_bribe_0 : decode cX7_bribe 0 = .ok (.iload_n 1, 1) := by decide +kernel
theorem dX7_bribe_1 : decode cX7_bribe 1 = .ok (.bipush 7, 2) := by decide +kernel
theorem dX7_bribe_3 : decode cX7_bribe 3 = .ok (.invokestatic 77, 3) := by decide +kernel
theorem dX7_bribe_6 : decode cX7_bribe 6 = .ok (.ifCond .ne 10, 3) := by decide +kernel
theorem dX7_bribe_9 : decode cX7_bribe 9 = .ok (.aload_n 0, 1) := by decide +kernel
theorem dX7_bribe_10 : decode cX7_bribe 10 = .ok (.ldc 81, 2) := by decide +kernel
theorem dX7_bribe_12 : decode cX7_bribe 12 = .ok (.invokevirtual 82, 3) := by decide +kernel
theorem dX7_bribe_15 : decode cX7_bribe 15 = .ok (.ireturn, 1) := by decide +kernel
theorem dX7_bribe_16 : decode cX7_bribe 16 = .ok (.aload_n 0, 1) := by decide +kernel
theorem dX7_bribe_17 : decode cX7_bribe 17 = .ok (.getfield 10, 3) := by decide +kernel
theorem dX7_bribe_20 : decode cX7_bribe 20 = .ok (.getfield 128, 3) := by decide +kernel
theorem dX7_bribe_23 : decode cX7_bribe 23 = .ok (.sipush 9999, 3) := by decide +kernel
theorem dX7_bribe_26 : decode cX7_bribe 26 = .ok (.if_icmp .lt 10, 3) := by decide +kernel
theorem dX7_bribe_29 : decode cX7_bribe 29 = .ok (.aload_n 0, 1) := by decide +kernel
theorem dX7_bribe_30 : decode cX7_bribe 30 = .ok (.ldc 160, 2) := by decide +kernel
theorem dX7_bribe_32 : decode cX7_bribe 32 = .ok (.invokevirtual 82, 3) := by decide +kernel
theorem dX7_bribe_35 : decode cX7_bribe 35 = .ok (.ireturn, 1) := by decide +kernel
theorem dX7_bribe_36 : decode cX7_bribe 36 = .ok (.aload_n 0, 1) := by decide +kernel
theorem dX7_bribe_37 : decode cX7_bribe 37 = .ok (.getfield 10, 3) := by decide +kernel
theorem dX7_bribe_40 : decode cX7_bribe 40 = .ok (.iload_n 1, 1) := by decide +kernel
theorem dX7_bribe_41 : decode cX7_bribe 41 = .ok (.invokevirtual 168, 3) := by decide +kernel
theorem dX7_bribe_44 : decode cX7_bribe 44 = .ok (.aload_n 0, 1) := by decide +kernel
theorem dX7_bribe_45 : decode cX7_bribe 45 = .ok (.getfield 10, 3) := by decide +kernel
theorem dX7_bribe_48 : decode cX7_bribe 48 = .ok (.invokevirtual 164, 3) := by decide +kernel
theorem dX7_bribe_51 : decode cX7_bribe 51 = .ok (.ireturn, 1) := by decide +kernel
theorem dX7_now_0 : decode cX7_now 0 = .ok (.iload_n 1, 1) := by decide +kernel
theorem dX7_now_1 : decode cX7_now 1 = .ok (.tableswitch 106 0 6 #[43, 51, 66, 74, 82, 90, 98], 43) := by decide +kernel
theorem dX7_now_44 : decode cX7_now 44 = .ok (.aload_n 0, 1) := by decide +kernel
theorem dX7_now_45 : decode cX7_now 45 = .ok (.getfield 10, 3) := by decide +kernel
theorem dX7_now_48 : decode cX7_now 48 = .ok (.getfield 128, 3) := by decide +kernel
theorem dX7_now_51 : decode cX7_now 51 = .ok (.ireturn, 1) := by decide +kernel
theorem dX7_now_52 : decode cX7_now 52 = .ok (.aload_n 0, 1) := by decide +kernel
theorem dX7_now_53 : decode cX7_now 53 = .ok (.getfield 10, 3) := by decide +kernel
theorem dX7_now_56 : decode cX7_now 56 = .ok (.aload_n 0, 1) := by decide +kernel
theorem dX7_now_57 : decode cX7_now 57 = .ok (.getfield 10, 3) := by decide +kernel
theorem dX7_now_60 : decode cX7_now 60 = .ok (.getfield 128, 3) := by decide +kernel
theorem dX7_now_63 : decode cX7_now 63 = .ok (.invokevirtual 101, 3) := by decide +kernel
theorem dX7_now_66 : decode cX7_now 66 = .ok (.ireturn, 1) := by decide +kernel
theorem dX7_now_67 : decode cX7_now 67 = .ok (.aload_n 0, 1) := by decide +kernel
theorem dX7_now_68 : decode cX7_now 68 = .ok (.getfield 10, 3) := by decide +kernel
theorem dX7_now_71 : decode cX7_now 71 = .ok (.getfield 97, 3) := by decide +kernel
theorem dX7_now_74 : decode cX7_now 74 = .ok (.ireturn, 1) := by decide +kernel
theorem dX7_now_75 : decode cX7_now 75 = .ok (.aload_n 0, 1) := by decide +kernel
theorem dX7_now_76 : decode cX7_now 76 = .ok (.getfield 10, 3) := by decide +kernel
theorem dX7_now_79 : decode cX7_now 79 = .ok (.getfield 172, 3) := by decide +kernel
theorem dX7_now_82 : decode cX7_now 82 = .ok (.ireturn, 1) := by decide +kernel
theorem dX7_now_83 : decode cX7_now 83 = .ok (.aload_n 0, 1) := by decide +kernel
theorem dX7_now_84 : decode cX7_now 84 = .ok (.getfield 10, 3) := by decide +kernel
theorem dX7_now_87 : decode cX7_now 87 = .ok (.invokevirtual 164, 3) := by decide +kernel
theorem dX7_now_90 : decode cX7_now 90 = .ok (.ireturn, 1) := by decide +kernel
theorem dX7_now_91 : decode cX7_now 91 = .ok (.aload_n 0, 1) := by decide +kernel
theorem dX7_now_92 : decode cX7_now 92 = .ok (.getfield 10, 3) := by decide +kernel
theorem dX7_now_95 : decode cX7_now 95 = .ok (.invokevirtual 175, 3) := by decide +kernel
theorem dX7_now_98 : decode cX7_now 98 = .ok (.ireturn, 1) := by decide +kernel
theorem dX7_now_99 : decode cX7_now 99 = .ok (.aload_n 0, 1) := by decide +kernel
theorem dX7_now_100 : decode cX7_now 100 = .ok (.getfield 10, 3) := by decide +kernel
theorem dX7_now_103 : decode cX7_now 103 = .ok (.invokevirtual 178, 3) := by decide +kernel
theorem dX7_now_106 : decode cX7_now 106 = .ok (.ireturn, 1) := by decide +kernel
theorem dX7_now_107 : decode cX7_now 107 = .ok (.aload_n 0, 1) := by decide +kernel
theorem dX7_now_108 : decode cX7_now 108 = .ok (.ldc 81, 2) := by decide +kernel
theorem dX7_now_110 : decode cX7_now 110 = .ok (.invokevirtual 82, 3) := by decide +kernel
theorem dX7_now_113 : decode cX7_now 113 = .ok (.ireturn, 1) := by decide +kernel
theorem dX7_on_0 : decode cX7_on 0 = .ok (.aload_n 0, 1) := by decide +kernel
theorem dX7_on_1 : decode cX7_on 1 = .ok (.getfield 10, 3) := by decide +kernel
theorem dX7_on_4 : decode cX7_on 4 = .ok (.iload_n 1, 1) := by decide +kernel
theorem dX7_on_5 : decode cX7_on 5 = .ok (.invokevirtual 121, 3) := by decide +kernel
theorem dX7_on_8 : decode cX7_on 8 = .ok (.ifCond .eq 20, 3) := by decide +kernel
theorem dX7_on_11 : decode cX7_on 11 = .ok (.iload_n 2, 1) := by decide +kernel
theorem dX7_on_12 : decode cX7_on 12 = .ok (.bipush 60, 2) := by decide +kernel
theorem dX7_on_14 : decode cX7_on 14 = .ok (.invokestatic 77, 3) := by decide +kernel
theorem dX7_on_17 : decode cX7_on 17 = .ok (.ifCond .eq 11, 3) := by decide +kernel
theorem dX7_on_20 : decode cX7_on 20 = .ok (.iload_n 3, 1) := by decide +kernel
theorem dX7_on_21 : decode cX7_on 21 = .ok (.iconst 1, 1) := by decide +kernel
theorem dX7_on_22 : decode cX7_on 22 = .ok (.invokestatic 77, 3) := by decide +kernel
theorem dX7_on_25 : decode cX7_on 25 = .ok (.ifCond .ne 10, 3) := by decide +kernel
theorem dX7_on_28 : decode cX7_on 28 = .ok (.aload_n 0, 1) := by decide +kernel
theorem dX7_on_29 : decode cX7_on 29 = .ok (.ldc 81, 2) := by decide +kernel
theorem dX7_on_31 : decode cX7_on 31 = .ok (.invokevirtual 82, 3) := by decide +kernel
theorem dX7_on_34 : decode cX7_on 34 = .ok (.ireturn, 1) := by decide +kernel
theorem dX7_on_35 : decode cX7_on 35 = .ok (.aload_n 0, 1) := by decide +kernel
theorem dX7_on_36 : decode cX7_on 36 = .ok (.getfield 29, 3) := by decide +kernel
theorem dX7_on_39 : decode cX7_on 39 = .ok (.aload_n 0, 1) := by decide +kernel
theorem dX7_on_40 : decode cX7_on 40 = .ok (.getfield 10, 3) := by decide +kernel
theorem dX7_on_43 : decode cX7_on 43 = .ok (.getfield 124, 3) := by decide +kernel
theorem dX7_on_46 : decode cX7_on 46 = .ok (.iload_n 1, 1) := by decide +kernel
theorem dX7_on_47 : decode cX7_on 47 = .ok (.aaload, 1) := by decide +kernel
theorem dX7_on_48 : decode cX7_on 48 = .ok (.invokevirtual 181, 3) := by decide +kernel
theorem dX7_on_51 : decode cX7_on 51 = .ok (.iconst 0, 1) := by decide +kernel
theorem dX7_on_52 : decode cX7_on 52 = .ok (.istore 4, 2) := by decide +kernel
theorem dX7_on_54 : decode cX7_on 54 = .ok (.iload 4, 2) := by decide +kernel
theorem dX7_on_56 : decode cX7_on 56 = .ok (.iload_n 2, 1) := by decide +kernel
theorem dX7_on_57 : decode cX7_on 57 = .ok (.if_icmp .ge 22, 3) := by decide +kernel
theorem dX7_on_60 : decode cX7_on 60 = .ok (.aload_n 0, 1) := by decide +kernel
theorem dX7_on_61 : decode cX7_on 61 = .ok (.getfield 10, 3) := by decide +kernel
theorem dX7_on_64 : decode cX7_on 64 = .ok (.aload_n 0, 1) := by decide +kernel
theorem dX7_on_65 : decode cX7_on 65 = .ok (.getfield 29, 3) := by decide +kernel
theorem dX7_on_68 : decode cX7_on 68 = .ok (.iload 4, 2) := by decide +kernel
theorem dX7_on_70 : decode cX7_on 70 = .ok (.invokevirtual 185, 3) := by decide +kernel
theorem dX7_on_73 : decode cX7_on 73 = .ok (.iinc 4 1, 3) := by decide +kernel
theorem dX7_on_76 : decode cX7_on 76 = .ok (.goto (-22), 3) := by decide +kernel
theorem dX7_on_79 : decode cX7_on 79 = .ok (.iload_n 3, 1) := by decide +kernel
theorem dX7_on_80 : decode cX7_on 80 = .ok (.ifCond .ne 13, 3) := by decide +kernel
theorem dX7_on_83 : decode cX7_on 83 = .ok (.aload_n 0, 1) := by decide +kernel
theorem dX7_on_84 : decode cX7_on 84 = .ok (.getfield 29, 3) := by decide +kernel
theorem dX7_on_87 : decode cX7_on 87 = .ok (.getfield 134, 3) := by decide +kernel
theorem dX7_on_90 : decode cX7_on 90 = .ok (.goto 10, 3) := by decide +kernel
theorem dX7_on_93 : decode cX7_on 93 = .ok (.aload_n 0, 1) := by decide +kernel
theorem dX7_on_94 : decode cX7_on 94 = .ok (.getfield 29, 3) := by decide +kernel
theorem dX7_on_97 : decode cX7_on 97 = .ok (.getfield 140, 3) := by decide +kernel
theorem dX7_on_100 : decode cX7_on 100 = .ok (.ireturn, 1) := by decide +kernel
theorem dX7_comes_0 : decode cX7_comes 0 = .ok (.aload_n 0, 1) := by decide +kernel
theorem dX7_comes_1 : decode cX7_comes 1 = .ok (.getfield 10, 3) := by decide +kernel
theorem dX7_comes_4 : decode cX7_comes 4 = .ok (.iload_n 1, 1) := by decide +kernel
theorem dX7_comes_5 : decode cX7_comes 5 = .ok (.invokevirtual 121, 3) := by decide +kernel
theorem dX7_comes_8 : decode cX7_comes 8 = .ok (.ifCond .eq 12, 3) := by decide +kernel
theorem dX7_comes_11 : decode cX7_comes 11 = .ok (.iload_n 2, 1) := by decide +kernel
theorem dX7_comes_12 : decode cX7_comes 12 = .ok (.bipush 35, 2) := by decide +kernel
theorem dX7_comes_14 : decode cX7_comes 14 = .ok (.invokestatic 77, 3) := by decide +kernel
theorem dX7_comes_17 : decode cX7_comes 17 = .ok (.ifCond .ne 10, 3) := by decide +kernel
theorem dX7_comes_20 : decode cX7_comes 20 = .ok (.aload_n 0, 1) := by decide +kernel
theorem dX7_comes_21 : decode cX7_comes 21 = .ok (.ldc 81, 2) := by decide +kernel
theorem dX7_comes_23 : decode cX7_comes 23 = .ok (.invokevirtual 82, 3) := by decide +kernel
theorem dX7_comes_26 : decode cX7_comes 26 = .ok (.ireturn, 1) := by decide +kernel
theorem dX7_comes_27 : decode cX7_comes 27 = .ok (.aload_n 0, 1) := by decide +kernel
theorem dX7_comes_28 : decode cX7_comes 28 = .ok (.getfield 29, 3) := by decide +kernel
theorem dX7_comes_31 : decode cX7_comes 31 = .ok (.aload_n 0, 1) := by decide +kernel
theorem dX7_comes_32 : decode cX7_comes 32 = .ok (.getfield 10, 3) := by decide +kernel
theorem dX7_comes_35 : decode cX7_comes 35 = .ok (.getfield 124, 3) := by decide +kernel
theorem dX7_comes_38 : decode cX7_comes 38 = .ok (.iload_n 1, 1) := by decide +kernel
theorem dX7_comes_39 : decode cX7_comes 39 = .ok (.aaload, 1) := by decide +kernel
theorem dX7_comes_40 : decode cX7_comes 40 = .ok (.invokevirtual 181, 3) := by decide +kernel
theorem dX7_comes_43 : decode cX7_comes 43 = .ok (.iconst 0, 1) := by decide +kernel
theorem dX7_comes_44 : decode cX7_comes 44 = .ok (.istore_n 3, 1) := by decide +kernel
theorem dX7_comes_45 : decode cX7_comes 45 = .ok (.iload_n 3, 1) := by decide +kernel
theorem dX7_comes_46 : decode cX7_comes 46 = .ok (.bipush 60, 2) := by decide +kernel
theorem dX7_comes_48 : decode cX7_comes 48 = .ok (.if_icmp .gt 34, 3) := by decide +kernel
theorem dX7_comes_51 : decode cX7_comes 51 = .ok (.aload_n 0, 1) := by decide +kernel
theorem dX7_comes_52 : decode cX7_comes 52 = .ok (.getfield 29, 3) := by decide +kernel
theorem dX7_comes_55 : decode cX7_comes 55 = .ok (.getfield 134, 3) := by decide +kernel
theorem dX7_comes_58 : decode cX7_comes 58 = .ok (.iload_n 2, 1) := by decide +kernel
theorem dX7_comes_59 : decode cX7_comes 59 = .ok (.if_icmp .ne 5, 3) := by decide +kernel
theorem dX7_comes_62 : decode cX7_comes 62 = .ok (.iload_n 3, 1) := by decide +kernel
theorem dX7_comes_63 : decode cX7_comes 63 = .ok (.ireturn, 1) := by decide +kernel
theorem dX7_comes_64 : decode cX7_comes 64 = .ok (.aload_n 0, 1) := by decide +kernel
theorem dX7_comes_65 : decode cX7_comes 65 = .ok (.getfield 10, 3) := by decide +kernel
theorem dX7_comes_68 : decode cX7_comes 68 = .ok (.aload_n 0, 1) := by decide +kernel
theorem dX7_comes_69 : decode cX7_comes 69 = .ok (.getfield 29, 3) := by decide +kernel
theorem dX7_comes_72 : decode cX7_comes 72 = .ok (.iload_n 3, 1) := by decide +kernel
theorem dX7_comes_73 : decode cX7_comes 73 = .ok (.invokevirtual 185, 3) := by decide +kernel
theorem dX7_comes_76 : decode cX7_comes 76 = .ok (.iinc 3 1, 3) := by decide +kernel
theorem dX7_comes_79 : decode cX7_comes 79 = .ok (.goto (-34), 3) := by decide +kernel
theorem dX7_comes_82 : decode cX7_comes 82 = .ok (.aload_n 0, 1) := by decide +kernel
theorem dX7_comes_83 : decode cX7_comes 83 = .ok (.ldc 108, 2) := by decide +kernel
theorem dX7_comes_85 : decode cX7_comes 85 = .ok (.invokevirtual 82, 3) := by decide +kernel
theorem dX7_comes_88 : decode cX7_comes 88 = .ok (.ireturn, 1) := by decide +kernel
theorem dX7_meet_0 : decode cX7_meet 0 = .ok (.aload_n 0, 1) := by decide +kernel
theorem dX7_meet_1 : decode cX7_meet 1 = .ok (.getfield 10, 3) := by decide +kernel
theorem dX7_meet_4 : decode cX7_meet 4 = .ok (.iload_n 1, 1) := by decide +kernel
theorem dX7_meet_5 : decode cX7_meet 5 = .ok (.invokevirtual 121, 3) := by decide +kernel
theorem dX7_meet_8 : decode cX7_meet 8 = .ok (.ifCond .eq 19, 3) := by decide +kernel
theorem dX7_meet_11 : decode cX7_meet 11 = .ok (.aload_n 0, 1) := by decide +kernel
theorem dX7_meet_12 : decode cX7_meet 12 = .ok (.getfield 10, 3) := by decide +kernel
theorem dX7_meet_15 : decode cX7_meet 15 = .ok (.iload_n 2, 1) := by decide +kernel
theorem dX7_meet_16 : decode cX7_meet 16 = .ok (.invokevirtual 121, 3) := by decide +kernel
theorem dX7_meet_19 : decode cX7_meet 19 = .ok (.ifCond .eq 8, 3) := by decide +kernel
theorem dX7_meet_22 : decode cX7_meet 22 = .ok (.iload_n 1, 1) := by decide +kernel
theorem dX7_meet_23 : decode cX7_meet 23 = .ok (.iload_n 2, 1) := by decide +kernel
theorem dX7_meet_24 : decode cX7_meet 24 = .ok (.if_icmp .ne 10, 3) := by decide +kernel
theorem dX7_meet_27 : decode cX7_meet 27 = .ok (.aload_n 0, 1) := by decide +kernel
theorem dX7_meet_28 : decode cX7_meet 28 = .ok (.ldc 81, 2) := by decide +kernel
theorem dX7_meet_30 : decode cX7_meet 30 = .ok (.invokevirtual 82, 3) := by decide +kernel
theorem dX7_meet_33 : decode cX7_meet 33 = .ok (.ireturn, 1) := by decide +kernel
theorem dX7_meet_34 : decode cX7_meet 34 = .ok (.aload_n 0, 1) := by decide +kernel
theorem dX7_meet_35 : decode cX7_meet 35 = .ok (.getfield 29, 3) := by decide +kernel
theorem dX7_meet_38 : decode cX7_meet 38 = .ok (.aload_n 0, 1) := by decide +kernel
theorem dX7_meet_39 : decode cX7_meet 39 = .ok (.getfield 10, 3) := by decide +kernel
theorem dX7_meet_42 : decode cX7_meet 42 = .ok (.getfield 124, 3) := by decide +kernel
theorem dX7_meet_45 : decode cX7_meet 45 = .ok (.iload_n 1, 1) := by decide +kernel
theorem dX7_meet_46 : decode cX7_meet 46 = .ok (.aaload, 1) := by decide +kernel
theorem dX7_meet_47 : decode cX7_meet 47 = .ok (.invokevirtual 181, 3) := by decide +kernel
theorem dX7_meet_50 : decode cX7_meet 50 = .ok (.aload_n 0, 1) := by decide +kernel
theorem dX7_meet_51 : decode cX7_meet 51 = .ok (.getfield 33, 3) := by decide +kernel
theorem dX7_meet_54 : decode cX7_meet 54 = .ok (.aload_n 0, 1) := by decide +kernel
theorem dX7_meet_55 : decode cX7_meet 55 = .ok (.getfield 10, 3) := by decide +kernel
theorem dX7_meet_58 : decode cX7_meet 58 = .ok (.getfield 124, 3) := by decide +kernel
theorem dX7_meet_61 : decode cX7_meet 61 = .ok (.iload_n 2, 1) := by decide +kernel
theorem dX7_meet_62 : decode cX7_meet 62 = .ok (.aaload, 1) := by decide +kernel
theorem dX7_meet_63 : decode cX7_meet 63 = .ok (.invokevirtual 181, 3) := by decide +kernel
theorem dX7_meet_66 : decode cX7_meet 66 = .ok (.iconst 0, 1) := by decide +kernel
theorem dX7_meet_67 : decode cX7_meet 67 = .ok (.istore_n 3, 1) := by decide +kernel
theorem dX7_meet_68 : decode cX7_meet 68 = .ok (.iload_n 3, 1) := by decide +kernel
theorem dX7_meet_69 : decode cX7_meet 69 = .ok (.bipush 60, 2) := by decide +kernel
theorem dX7_meet_71 : decode cX7_meet 71 = .ok (.if_icmp .gt 52, 3) := by decide +kernel
theorem dX7_meet_74 : decode cX7_meet 74 = .ok (.aload_n 0, 1) := by decide +kernel
theorem dX7_meet_75 : decode cX7_meet 75 = .ok (.getfield 29, 3) := by decide +kernel
theorem dX7_meet_78 : decode cX7_meet 78 = .ok (.getfield 134, 3) := by decide +kernel
theorem dX7_meet_81 : decode cX7_meet 81 = .ok (.aload_n 0, 1) := by decide +kernel
theorem dX7_meet_82 : decode cX7_meet 82 = .ok (.getfield 33, 3) := by decide +kernel
theorem dX7_meet_85 : decode cX7_meet 85 = .ok (.getfield 134, 3) := by decide +kernel
theorem dX7_meet_88 : decode cX7_meet 88 = .ok (.if_icmp .ne 5, 3) := by decide +kernel
theorem dX7_meet_91 : decode cX7_meet 91 = .ok (.iload_n 3, 1) := by decide +kernel
theorem dX7_meet_92 : decode cX7_meet 92 = .ok (.ireturn, 1) := by decide +kernel
theorem dX7_meet_93 : decode cX7_meet 93 = .ok (.aload_n 0, 1) := by decide +kernel
theorem dX7_meet_94 : decode cX7_meet 94 = .ok (.getfield 10, 3) := by decide +kernel
theorem dX7_meet_97 : decode cX7_meet 97 = .ok (.aload_n 0, 1) := by decide +kernel
theorem dX7_meet_98 : decode cX7_meet 98 = .ok (.getfield 29, 3) := by decide +kernel
theorem dX7_meet_101 : decode cX7_meet 101 = .ok (.iload_n 3, 1) := by decide +kernel
theorem dX7_meet_102 : decode cX7_meet 102 = .ok (.invokevirtual 185, 3) := by decide +kernel
theorem dX7_meet_105 : decode cX7_meet 105 = .ok (.aload_n 0, 1) := by decide +kernel
theorem dX7_meet_106 : decode cX7_meet 106 = .ok (.getfield 10, 3) := by decide +kernel
theorem dX7_meet_109 : decode cX7_meet 109 = .ok (.aload_n 0, 1) := by decide +kernel
theorem dX7_meet_110 : decode cX7_meet 110 = .ok (.getfield 33, 3) := by decide +kernel
theorem dX7_meet_113 : decode cX7_meet 113 = .ok (.iload_n 3, 1) := by decide +kernel
theorem dX7_meet_114 : decode cX7_meet 114 = .ok (.invokevirtual 185, 3) := by decide +kernel
theorem dX7_meet_117 : decode cX7_meet 117 = .ok (.iinc 3 1, 3) := by decide +kernel
theorem dX7_meet_120 : decode cX7_meet 120 = .ok (.goto (-52), 3) := by decide +kernel
theorem dX7_meet_123 : decode cX7_meet 123 = .ok (.aload_n 0, 1) := by decide +kernel
theorem dX7_meet_124 : decode cX7_meet 124 = .ok (.ldc 108, 2) := by decide +kernel
theorem dX7_meet_126 : decode cX7_meet 126 = .ok (.invokevirtual 82, 3) := by decide +kernel
theorem dX7_meet_129 : decode cX7_meet 129 = .ok (.ireturn, 1) := by decide +kernel
theorem dX7_bribes_0 : decode cX7_bribes 0 = .ok (.aload_n 0, 1) := by decide +kernel
theorem dX7_bribes_1 : decode cX7_bribes 1 = .ok (.getfield 10, 3) := by decide +kernel
theorem dX7_bribes_4 : decode cX7_bribes 4 = .ok (.iload_n 1, 1) := by decide +kernel
theorem dX7_bribes_5 : decode cX7_bribes 5 = .ok (.invokevirtual 121, 3) := by decide +kernel
theorem dX7_bribes_8 : decode cX7_bribes 8 = .ok (.ifCond .eq 21, 3) := by decide +kernel
theorem dX7_bribes_11 : decode cX7_bribes 11 = .ok (.iload_n 2, 1) := by decide +kernel
theorem dX7_bribes_12 : decode cX7_bribes 12 = .ok (.bipush 35, 2) := by decide +kernel
theorem dX7_bribes_14 : decode cX7_bribes 14 = .ok (.invokestatic 77, 3) := by decide +kernel
theorem dX7_bribes_17 : decode cX7_bribes 17 = .ok (.ifCond .eq 12, 3) := by decide +kernel
theorem dX7_bribes_20 : decode cX7_bribes 20 = .ok (.iload_n 3, 1) := by decide +kernel
theorem dX7_bribes_21 : decode cX7_bribes 21 = .ok (.bipush 30, 2) := by decide +kernel
theorem dX7_bribes_23 : decode cX7_bribes 23 = .ok (.invokestatic 77, 3) := by decide +kernel
theorem dX7_bribes_26 : decode cX7_bribes 26 = .ok (.ifCond .ne 10, 3) := by decide +kernel
theorem dX7_bribes_29 : decode cX7_bribes 29 = .ok (.aload_n 0, 1) := by decide +kernel
theorem dX7_bribes_30 : decode cX7_bribes 30 = .ok (.ldc 81, 2) := by decide +kernel
theorem dX7_bribes_32 : decode cX7_bribes 32 = .ok (.invokevirtual 82, 3) := by decide +kernel
theorem dX7_bribes_35 : decode cX7_bribes 35 = .ok (.ireturn, 1) := by decide +kernel
theorem dX7_bribes_36 : decode cX7_bribes 36 = .ok (.aload_n 0, 1) := by decide +kernel
theorem dX7_bribes_37 : decode cX7_bribes 37 = .ok (.getfield 10, 3) := by decide +kernel
theorem dX7_bribes_40 : decode cX7_bribes 40 = .ok (.getfield 124, 3) := by decide +kernel
theorem dX7_bribes_43 : decode cX7_bribes 43 = .ok (.iload_n 1, 1) := by decide +kernel
theorem dX7_bribes_44 : decode cX7_bribes 44 = .ok (.aaload, 1) := by decide +kernel
theorem dX7_bribes_45 : decode cX7_bribes 45 = .ok (.astore 4, 2) := by decide +kernel
theorem dX7_bribes_47 : decode cX7_bribes 47 = .ok (.aload_n 0, 1) := by decide +kernel
theorem dX7_bribes_48 : decode cX7_bribes 48 = .ok (.getfield 39, 3) := by decide +kernel
theorem dX7_bribes_51 : decode cX7_bribes 51 = .ok (.aload 4, 2) := by decide +kernel
theorem dX7_bribes_53 : decode cX7_bribes 53 = .ok (.getfield 134, 3) := by decide +kernel
theorem dX7_bribes_56 : decode cX7_bribes 56 = .ok (.invokevirtual 189, 3) := by decide +kernel
theorem dX7_bribes_59 : decode cX7_bribes 59 = .ok (.aload_n 0, 1) := by decide +kernel
theorem dX7_bribes_60 : decode cX7_bribes 60 = .ok (.getfield 39, 3) := by decide +kernel
theorem dX7_bribes_63 : decode cX7_bribes 63 = .ok (.getfield 192, 3) := by decide +kernel
theorem dX7_bribes_66 : decode cX7_bribes 66 = .ok (.iload_n 2, 1) := by decide +kernel
theorem dX7_bribes_67 : decode cX7_bribes 67 = .ok (.iaload, 1) := by decide +kernel
theorem dX7_bribes_68 : decode cX7_bribes 68 = .ok (.istore 5, 2) := by decide +kernel
theorem dX7_bribes_70 : decode cX7_bribes 70 = .ok (.iconst 0, 1) := by decide +kernel
theorem dX7_bribes_71 : decode cX7_bribes 71 = .ok (.istore 6, 2) := by decide +kernel
theorem dX7_bribes_73 : decode cX7_bribes 73 = .ok (.iload 6, 2) := by decide +kernel
theorem dX7_bribes_75 : decode cX7_bribes 75 = .ok (.iload_n 3, 1) := by decide +kernel
theorem dX7_bribes_76 : decode cX7_bribes 76 = .ok (.if_icmp .ge 58, 3) := by decide +kernel
theorem dX7_bribes_79 : decode cX7_bribes 79 = .ok (.aload_n 0, 1) := by decide +kernel
theorem dX7_bribes_80 : decode cX7_bribes 80 = .ok (.getfield 39, 3) := by decide +kernel
theorem dX7_bribes_83 : decode cX7_bribes 83 = .ok (.aload 4, 2) := by decide +kernel
theorem dX7_bribes_85 : decode cX7_bribes 85 = .ok (.aload_n 0, 1) := by decide +kernel
theorem dX7_bribes_86 : decode cX7_bribes 86 = .ok (.getfield 10, 3) := by decide +kernel
theorem dX7_bribes_89 : decode cX7_bribes 89 = .ok (.aload_n 0, 1) := by decide +kernel
theorem dX7_bribes_90 : decode cX7_bribes 90 = .ok (.getfield 10, 3) := by decide +kernel
theorem dX7_bribes_93 : decode cX7_bribes 93 = .ok (.getfield 128, 3) := by decide +kernel
theorem dX7_bribes_96 : decode cX7_bribes 96 = .ok (.iload 6, 2) := by decide +kernel
theorem dX7_bribes_98 : decode cX7_bribes 98 = .ok (.iadd, 1) := by decide +kernel
theorem dX7_bribes_99 : decode cX7_bribes 99 = .ok (.invokevirtual 101, 3) := by decide +kernel
theorem dX7_bribes_102 : decode cX7_bribes 102 = .ok (.aload_n 0, 1) := by decide +kernel
theorem dX7_bribes_103 : decode cX7_bribes 103 = .ok (.getfield 10, 3) := by decide +kernel
theorem dX7_bribes_106 : decode cX7_bribes 106 = .ok (.getfield 97, 3) := by decide +kernel
theorem dX7_bribes_109 : decode cX7_bribes 109 = .ok (.invokevirtual 195, 3) := by decide +kernel
theorem dX7_bribes_112 : decode cX7_bribes 112 = .ok (.iload 5, 2) := by decide +kernel
theorem dX7_bribes_114 : decode cX7_bribes 114 = .ok (.aload_n 0, 1) := by decide +kernel
theorem dX7_bribes_115 : decode cX7_bribes 115 = .ok (.getfield 39, 3) := by decide +kernel
theorem dX7_bribes_118 : decode cX7_bribes 118 = .ok (.getfield 192, 3) := by decide +kernel
theorem dX7_bribes_121 : decode cX7_bribes 121 = .ok (.iload_n 2, 1) := by decide +kernel
theorem dX7_bribes_122 : decode cX7_bribes 122 = .ok (.iaload, 1) := by decide +kernel
theorem dX7_bribes_123 : decode cX7_bribes 123 = .ok (.invokestatic 198, 3) := by decide +kernel
theorem dX7_bribes_126 : decode cX7_bribes 126 = .ok (.istore 5, 2) := by decide +kernel
theorem dX7_bribes_128 : decode cX7_bribes 128 = .ok (.iinc 6 1, 3) := by decide +kernel
theorem dX7_bribes_131 : decode cX7_bribes 131 = .ok (.goto (-58), 3) := by decide +kernel
theorem dX7_bribes_134 : decode cX7_bribes 134 = .ok (.iload 5, 2) := by decide +kernel
theorem dX7_bribes_136 : decode cX7_bribes 136 = .ok (.sipush 1000, 3) := by decide +kernel
theorem dX7_bribes_139 : decode cX7_bribes 139 = .ok (.if_icmp .ne 12, 3) := by decide +kernel
theorem dX7_bribes_142 : decode cX7_bribes 142 = .ok (.aload_n 0, 1) := by decide +kernel
theorem dX7_bribes_143 : decode cX7_bribes 143 = .ok (.ldc 108, 2) := by decide +kernel
theorem dX7_bribes_145 : decode cX7_bribes 145 = .ok (.invokevirtual 82, 3) := by decide +kernel
theorem dX7_bribes_148 : decode cX7_bribes 148 = .ok (.goto 5, 3) := by decide +kernel
theorem dX7_bribes_151 : decode cX7_bribes 151 = .ok (.iload 5, 2) := by decide +kernel
theorem dX7_bribes_153 : decode cX7_bribes 153 = .ok (.ireturn, 1) := by decide +kernel
theorem dX7_soonest_0 : decode cX7_soonest 0 = .ok (.aload_n 0, 1) := by decide +kernel
theorem dX7_soonest_1 : decode cX7_soonest 1 = .ok (.getfield 10, 3) := by decide +kernel
theorem dX7_soonest_4 : decode cX7_soonest 4 = .ok (.iload_n 1, 1) := by decide +kernel
theorem dX7_soonest_5 : decode cX7_soonest 5 = .ok (.invokevirtual 121, 3) := by decide +kernel
theorem dX7_soonest_8 : decode cX7_soonest 8 = .ok (.ifCond .eq 21, 3) := by decide +kernel
theorem dX7_soonest_11 : decode cX7_soonest 11 = .ok (.iload_n 2, 1) := by decide +kernel
theorem dX7_soonest_12 : decode cX7_soonest 12 = .ok (.bipush 35, 2) := by decide +kernel
theorem dX7_soonest_14 : decode cX7_soonest 14 = .ok (.invokestatic 77, 3) := by decide +kernel
theorem dX7_soonest_17 : decode cX7_soonest 17 = .ok (.ifCond .eq 12, 3) := by decide +kernel
theorem dX7_soonest_20 : decode cX7_soonest 20 = .ok (.iload_n 3, 1) := by decide +kernel
theorem dX7_soonest_21 : decode cX7_soonest 21 = .ok (.bipush 30, 2) := by decide +kernel
theorem dX7_soonest_23 : decode cX7_soonest 23 = .ok (.invokestatic 77, 3) := by decide +kernel
theorem dX7_soonest_26 : decode cX7_soonest 26 = .ok (.ifCond .ne 10, 3) := by decide +kernel
theorem dX7_soonest_29 : decode cX7_soonest 29 = .ok (.aload_n 0, 1) := by decide +kernel
theorem dX7_soonest_30 : decode cX7_soonest 30 = .ok (.ldc 81, 2) := by decide +kernel
theorem dX7_soonest_32 : decode cX7_soonest 32 = .ok (.invokevirtual 82, 3) := by decide +kernel
theorem dX7_soonest_35 : decode cX7_soonest 35 = .ok (.ireturn, 1) := by decide +kernel
theorem dX7_soonest_36 : decode cX7_soonest 36 = .ok (.aload_n 0, 1) := by decide +kernel
theorem dX7_soonest_37 : decode cX7_soonest 37 = .ok (.getfield 10, 3) := by decide +kernel
theorem dX7_soonest_40 : decode cX7_soonest 40 = .ok (.getfield 124, 3) := by decide +kernel
theorem dX7_soonest_43 : decode cX7_soonest 43 = .ok (.iload_n 1, 1) := by decide +kernel
theorem dX7_soonest_44 : decode cX7_soonest 44 = .ok (.aaload, 1) := by decide +kernel
theorem dX7_soonest_45 : decode cX7_soonest 45 = .ok (.astore 4, 2) := by decide +kernel
theorem dX7_soonest_47 : decode cX7_soonest 47 = .ok (.aload_n 0, 1) := by decide +kernel
theorem dX7_soonest_48 : decode cX7_soonest 48 = .ok (.getfield 39, 3) := by decide +kernel
theorem dX7_soonest_51 : decode cX7_soonest 51 = .ok (.aload 4, 2) := by decide +kernel
theorem dX7_soonest_53 : decode cX7_soonest 53 = .ok (.getfield 134, 3) := by decide +kernel
theorem dX7_soonest_56 : decode cX7_soonest 56 = .ok (.invokevirtual 189, 3) := by decide +kernel
theorem dX7_soonest_59 : decode cX7_soonest 59 = .ok (.iconst 0, 1) := by decide +kernel
theorem dX7_soonest_60 : decode cX7_soonest 60 = .ok (.istore 5, 2) := by decide +kernel
theorem dX7_soonest_62 : decode cX7_soonest 62 = .ok (.iload 5, 2) := by decide +kernel
theorem dX7_soonest_64 : decode cX7_soonest 64 = .ok (.bipush 30, 2) := by decide +kernel
theorem dX7_soonest_66 : decode cX7_soonest 66 = .ok (.if_icmp .gt 58, 3) := by decide +kernel
theorem dX7_soonest_69 : decode cX7_soonest 69 = .ok (.aload_n 0, 1) := by decide +kernel
theorem dX7_soonest_70 : decode cX7_soonest 70 = .ok (.getfield 39, 3) := by decide +kernel
theorem dX7_soonest_73 : decode cX7_soonest 73 = .ok (.getfield 192, 3) := by decide +kernel
theorem dX7_soonest_76 : decode cX7_soonest 76 = .ok (.iload_n 2, 1) := by decide +kernel
theorem dX7_soonest_77 : decode cX7_soonest 77 = .ok (.iaload, 1) := by decide +kernel
theorem dX7_soonest_78 : decode cX7_soonest 78 = .ok (.iload_n 3, 1) := by decide +kernel
theorem dX7_soonest_79 : decode cX7_soonest 79 = .ok (.if_icmp .gt 6, 3) := by decide +kernel
theorem dX7_soonest_82 : decode cX7_soonest 82 = .ok (.iload 5, 2) := by decide +kernel
theorem dX7_soonest_84 : decode cX7_soonest 84 = .ok (.ireturn, 1) := by decide +kernel
theorem dX7_soonest_85 : decode cX7_soonest 85 = .ok (.aload_n 0, 1) := by decide +kernel
theorem dX7_soonest_86 : decode cX7_soonest 86 = .ok (.getfield 39, 3) := by decide +kernel
theorem dX7_soonest_89 : decode cX7_soonest 89 = .ok (.aload 4, 2) := by decide +kernel
theorem dX7_soonest_91 : decode cX7_soonest 91 = .ok (.aload_n 0, 1) := by decide +kernel
theorem dX7_soonest_92 : decode cX7_soonest 92 = .ok (.getfield 10, 3) := by decide +kernel
theorem dX7_soonest_95 : decode cX7_soonest 95 = .ok (.aload_n 0, 1) := by decide +kernel
theorem dX7_soonest_96 : decode cX7_soonest 96 = .ok (.getfield 10, 3) := by decide +kernel
theorem dX7_soonest_99 : decode cX7_soonest 99 = .ok (.getfield 128, 3) := by decide +kernel
theorem dX7_soonest_102 : decode cX7_soonest 102 = .ok (.iload 5, 2) := by decide +kernel
theorem dX7_soonest_104 : decode cX7_soonest 104 = .ok (.iadd, 1) := by decide +kernel
theorem dX7_soonest_105 : decode cX7_soonest 105 = .ok (.invokevirtual 101, 3) := by decide +kernel
theorem dX7_soonest_108 : decode cX7_soonest 108 = .ok (.aload_n 0, 1) := by decide +kernel
theorem dX7_soonest_109 : decode cX7_soonest 109 = .ok (.getfield 10, 3) := by decide +kernel
theorem dX7_soonest_112 : decode cX7_soonest 112 = .ok (.getfield 97, 3) := by decide +kernel
theorem dX7_soonest_115 : decode cX7_soonest 115 = .ok (.invokevirtual 195, 3) := by decide +kernel
theorem dX7_soonest_118 : decode cX7_soonest 118 = .ok (.iinc 5 1, 3) := by decide +kernel
theorem dX7_soonest_121 : decode cX7_soonest 121 = .ok (.goto (-59), 3) := by decide +kernel
theorem dX7_soonest_124 : decode cX7_soonest 124 = .ok (.aload_n 0, 1) := by decide +kernel
theorem dX7_soonest_125 : decode cX7_soonest 125 = .ok (.ldc 108, 2) := by decide +kernel
theorem dX7_soonest_127 : decode cX7_soonest 127 = .ok (.invokevirtual 82, 3) := by decide +kernel
theorem dX7_soonest_130 : decode cX7_soonest 130 = .ok (.ireturn, 1) := by decide +kernel
theorem dX7_reach_0 : decode cX7_reach 0 = .ok (.aload_n 0, 1) := by decide +kernel
theorem dX7_reach_1 : decode cX7_reach 1 = .ok (.getfield 10, 3) := by decide +kernel
theorem dX7_reach_4 : decode cX7_reach 4 = .ok (.iload_n 1, 1) := by decide +kernel
theorem dX7_reach_5 : decode cX7_reach 5 = .ok (.invokevirtual 121, 3) := by decide +kernel
theorem dX7_reach_8 : decode cX7_reach 8 = .ok (.ifCond .eq 12, 3) := by decide +kernel
theorem dX7_reach_11 : decode cX7_reach 11 = .ok (.iload_n 2, 1) := by decide +kernel
theorem dX7_reach_12 : decode cX7_reach 12 = .ok (.bipush 30, 2) := by decide +kernel
theorem dX7_reach_14 : decode cX7_reach 14 = .ok (.invokestatic 77, 3) := by decide +kernel
theorem dX7_reach_17 : decode cX7_reach 17 = .ok (.ifCond .ne 11, 3) := by decide +kernel
theorem dX7_reach_20 : decode cX7_reach 20 = .ok (.aload_n 0, 1) := by decide +kernel
theorem dX7_reach_21 : decode cX7_reach 21 = .ok (.ldc 81, 2) := by decide +kernel
theorem dX7_reach_23 : decode cX7_reach 23 = .ok (.invokevirtual 82, 3) := by decide +kernel
theorem dX7_reach_26 : decode cX7_reach 26 = .ok (.i2l, 1) := by decide +kernel
theorem dX7_reach_27 : decode cX7_reach 27 = .ok (.lreturn, 1) := by decide +kernel
theorem dX7_reach_28 : decode cX7_reach 28 = .ok (.aload_n 0, 1) := by decide +kernel
theorem dX7_reach_29 : decode cX7_reach 29 = .ok (.getfield 10, 3) := by decide +kernel
theorem dX7_reach_32 : decode cX7_reach 32 = .ok (.getfield 124, 3) := by decide +kernel
theorem dX7_reach_35 : decode cX7_reach 35 = .ok (.iload_n 1, 1) := by decide +kernel
theorem dX7_reach_36 : decode cX7_reach 36 = .ok (.aaload, 1) := by decide +kernel
theorem dX7_reach_37 : decode cX7_reach 37 = .ok (.astore_n 3, 1) := by decide +kernel
theorem dX7_reach_38 : decode cX7_reach 38 = .ok (.aload_n 0, 1) := by decide +kernel
theorem dX7_reach_39 : decode cX7_reach 39 = .ok (.getfield 39, 3) := by decide +kernel
theorem dX7_reach_42 : decode cX7_reach 42 = .ok (.aload_n 3, 1) := by decide +kernel
theorem dX7_reach_43 : decode cX7_reach 43 = .ok (.getfield 134, 3) := by decide +kernel
theorem dX7_reach_46 : decode cX7_reach 46 = .ok (.invokevirtual 189, 3) := by decide +kernel
theorem dX7_reach_49 : decode cX7_reach 49 = .ok (.iconst 0, 1) := by decide +kernel
theorem dX7_reach_50 : decode cX7_reach 50 = .ok (.istore 4, 2) := by decide +kernel
theorem dX7_reach_52 : decode cX7_reach 52 = .ok (.iload 4, 2) := by decide +kernel
theorem dX7_reach_54 : decode cX7_reach 54 = .ok (.iload_n 2, 1) := by decide +kernel
theorem dX7_reach_55 : decode cX7_reach 55 = .ok (.if_icmp .ge 41, 3) := by decide +kernel
theorem dX7_reach_58 : decode cX7_reach 58 = .ok (.aload_n 0, 1) := by decide +kernel
theorem dX7_reach_59 : decode cX7_reach 59 = .ok (.getfield 39, 3) := by decide +kernel
theorem dX7_reach_62 : decode cX7_reach 62 = .ok (.aload_n 3, 1) := by decide +kernel
theorem dX7_reach_63 : decode cX7_reach 63 = .ok (.aload_n 0, 1) := by decide +kernel
theorem dX7_reach_64 : decode cX7_reach 64 = .ok (.getfield 10, 3) := by decide +kernel
theorem dX7_reach_67 : decode cX7_reach 67 = .ok (.aload_n 0, 1) := by decide +kernel
theorem dX7_reach_68 : decode cX7_reach 68 = .ok (.getfield 10, 3) := by decide +kernel
theorem dX7_reach_71 : decode cX7_reach 71 = .ok (.getfield 128, 3) := by decide +kernel
theorem dX7_reach_74 : decode cX7_reach 74 = .ok (.iload 4, 2) := by decide +kernel
theorem dX7_reach_76 : decode cX7_reach 76 = .ok (.iadd, 1) := by decide +kernel
theorem dX7_reach_77 : decode cX7_reach 77 = .ok (.invokevirtual 101, 3) := by decide +kernel
theorem dX7_reach_80 : decode cX7_reach 80 = .ok (.aload_n 0, 1) := by decide +kernel
theorem dX7_reach_81 : decode cX7_reach 81 = .ok (.getfield 10, 3) := by decide +kernel
theorem dX7_reach_84 : decode cX7_reach 84 = .ok (.getfield 97, 3) := by decide +kernel
theorem dX7_reach_87 : decode cX7_reach 87 = .ok (.invokevirtual 195, 3) := by decide +kernel
theorem dX7_reach_90 : decode cX7_reach 90 = .ok (.iinc 4 1, 3) := by decide +kernel
theorem dX7_reach_93 : decode cX7_reach 93 = .ok (.goto (-41), 3) := by decide +kernel
theorem dX7_reach_96 : decode cX7_reach 96 = .ok (.aload_n 0, 1) := by decide +kernel
theorem dX7_reach_97 : decode cX7_reach 97 = .ok (.getfield 39, 3) := by decide +kernel
theorem dX7_reach_100 : decode cX7_reach 100 = .ok (.invokevirtual 203, 3) := by decide +kernel
theorem dX7_reach_103 : decode cX7_reach 103 = .ok (.lreturn, 1) := by decide +kernel
theorem dX7_swap_0 : decode cX7_swap 0 = .ok (.iload_n 1, 1) := by decide +kernel
theorem dX7_swap_1 : decode cX7_swap 1 = .ok (.bipush 30, 2) := by decide +kernel
theorem dX7_swap_3 : decode cX7_swap 3 = .ok (.invokestatic 157, 3) := by decide +kernel
theorem dX7_swap_6 : decode cX7_swap 6 = .ok (.ifCond .ne 10, 3) := by decide +kernel
theorem dX7_swap_9 : decode cX7_swap 9 = .ok (.aload_n 0, 1) := by decide +kernel
theorem dX7_swap_10 : decode cX7_swap 10 = .ok (.ldc 81, 2) := by decide +kernel
theorem dX7_swap_12 : decode cX7_swap 12 = .ok (.invokevirtual 82, 3) := by decide +kernel
theorem dX7_swap_15 : decode cX7_swap 15 = .ok (.ireturn, 1) := by decide +kernel
theorem dX7_swap_16 : decode cX7_swap 16 = .ok (.aload_n 0, 1) := by decide +kernel
theorem dX7_swap_17 : decode cX7_swap 17 = .ok (.getfield 16, 3) := by decide +kernel
theorem dX7_swap_20 : decode cX7_swap 20 = .ok (.aload_n 0, 1) := by decide +kernel
theorem dX7_swap_21 : decode cX7_swap 21 = .ok (.getfield 10, 3) := by decide +kernel
theorem dX7_swap_24 : decode cX7_swap 24 = .ok (.invokevirtual 207, 3) := by decide +kernel
theorem dX7_swap_27 : decode cX7_swap 27 = .ok (.aload_n 0, 1) := by decide +kernel
theorem dX7_swap_28 : decode cX7_swap 28 = .ok (.getfield 46, 3) := by decide +kernel
theorem dX7_swap_31 : decode cX7_swap 31 = .ok (.aload_n 0, 1) := by decide +kernel
theorem dX7_swap_32 : decode cX7_swap 32 = .ok (.getfield 16, 3) := by decide +kernel
theorem dX7_swap_35 : decode cX7_swap 35 = .ok (.iload_n 1, 1) := by decide +kernel
theorem dX7_swap_36 : decode cX7_swap 36 = .ok (.invokevirtual 161, 3) := by decide +kernel
theorem dX7_swap_39 : decode cX7_swap 39 = .ok (.invokevirtual 210, 3) := by decide +kernel
theorem dX7_swap_42 : decode cX7_swap 42 = .ok (.iconst 0, 1) := by decide +kernel
theorem dX7_swap_43 : decode cX7_swap 43 = .ok (.istore_n 2, 1) := by decide +kernel
theorem dX7_swap_44 : decode cX7_swap 44 = .ok (.iload_n 2, 1) := by decide +kernel
theorem dX7_swap_45 : decode cX7_swap 45 = .ok (.bipush 7, 2) := by decide +kernel
theorem dX7_swap_47 : decode cX7_swap 47 = .ok (.if_icmp .ge 93, 3) := by decide +kernel
theorem dX7_swap_50 : decode cX7_swap 50 = .ok (.iload_n 2, 1) := by decide +kernel
theorem dX7_swap_51 : decode cX7_swap 51 = .ok (.iconst 1, 1) := by decide +kernel
theorem dX7_swap_52 : decode cX7_swap 52 = .ok (.iadd, 1) := by decide +kernel
theorem dX7_swap_53 : decode cX7_swap 53 = .ok (.istore_n 3, 1) := by decide +kernel
theorem dX7_swap_54 : decode cX7_swap 54 = .ok (.iload_n 3, 1) := by decide +kernel
theorem dX7_swap_55 : decode cX7_swap 55 = .ok (.bipush 7, 2) := by decide +kernel
theorem dX7_swap_57 : decode cX7_swap 57 = .ok (.if_icmp .ge 77, 3) := by decide +kernel
theorem dX7_swap_60 : decode cX7_swap 60 = .ok (.aload_n 0, 1) := by decide +kernel
theorem dX7_swap_61 : decode cX7_swap 61 = .ok (.getfield 16, 3) := by decide +kernel
theorem dX7_swap_64 : decode cX7_swap 64 = .ok (.aload_n 0, 1) := by decide +kernel
theorem dX7_swap_65 : decode cX7_swap 65 = .ok (.getfield 10, 3) := by decide +kernel
theorem dX7_swap_68 : decode cX7_swap 68 = .ok (.invokevirtual 207, 3) := by decide +kernel
theorem dX7_swap_71 : decode cX7_swap 71 = .ok (.aload_n 0, 1) := by decide +kernel
theorem dX7_swap_72 : decode cX7_swap 72 = .ok (.getfield 16, 3) := by decide +kernel
theorem dX7_swap_75 : decode cX7_swap 75 = .ok (.getfield 86, 3) := by decide +kernel
theorem dX7_swap_78 : decode cX7_swap 78 = .ok (.iload_n 2, 1) := by decide +kernel
theorem dX7_swap_79 : decode cX7_swap 79 = .ok (.aload_n 0, 1) := by decide +kernel
theorem dX7_swap_80 : decode cX7_swap 80 = .ok (.getfield 10, 3) := by decide +kernel
theorem dX7_swap_83 : decode cX7_swap 83 = .ok (.getfield 86, 3) := by decide +kernel
theorem dX7_swap_86 : decode cX7_swap 86 = .ok (.iload_n 3, 1) := by decide +kernel
theorem dX7_swap_87 : decode cX7_swap 87 = .ok (.iaload, 1) := by decide +kernel
theorem dX7_swap_88 : decode cX7_swap 88 = .ok (.iastore, 1) := by decide +kernel
theorem dX7_swap_89 : decode cX7_swap 89 = .ok (.aload_n 0, 1) := by decide +kernel
theorem dX7_swap_90 : decode cX7_swap 90 = .ok (.getfield 16, 3) := by decide +kernel
theorem dX7_swap_93 : decode cX7_swap 93 = .ok (.getfield 86, 3) := by decide +kernel
theorem dX7_swap_96 : decode cX7_swap 96 = .ok (.iload_n 3, 1) := by decide +kernel
theorem dX7_swap_97 : decode cX7_swap 97 = .ok (.aload_n 0, 1) := by decide +kernel
theorem dX7_swap_98 : decode cX7_swap 98 = .ok (.getfield 10, 3) := by decide +kernel
theorem dX7_swap_101 : decode cX7_swap 101 = .ok (.getfield 86, 3) := by decide +kernel
theorem dX7_swap_104 : decode cX7_swap 104 = .ok (.iload_n 2, 1) := by decide +kernel
theorem dX7_swap_105 : decode cX7_swap 105 = .ok (.iaload, 1) := by decide +kernel
theorem dX7_swap_106 : decode cX7_swap 106 = .ok (.iastore, 1) := by decide +kernel
theorem dX7_swap_107 : decode cX7_swap 107 = .ok (.aload_n 0, 1) := by decide +kernel
theorem dX7_swap_108 : decode cX7_swap 108 = .ok (.getfield 46, 3) := by decide +kernel
theorem dX7_swap_111 : decode cX7_swap 111 = .ok (.bipush 10, 2) := by decide +kernel
theorem dX7_swap_113 : decode cX7_swap 113 = .ok (.iload_n 2, 1) := by decide +kernel
theorem dX7_swap_114 : decode cX7_swap 114 = .ok (.imul, 1) := by decide +kernel
theorem dX7_swap_115 : decode cX7_swap 115 = .ok (.iload_n 3, 1) := by decide +kernel
theorem dX7_swap_116 : decode cX7_swap 116 = .ok (.iadd, 1) := by decide +kernel
theorem dX7_swap_117 : decode cX7_swap 117 = .ok (.aload_n 0, 1) := by decide +kernel
theorem dX7_swap_118 : decode cX7_swap 118 = .ok (.getfield 16, 3) := by decide +kernel
theorem dX7_swap_121 : decode cX7_swap 121 = .ok (.iload_n 1, 1) := by decide +kernel
theorem dX7_swap_122 : decode cX7_swap 122 = .ok (.invokevirtual 161, 3) := by decide +kernel
theorem dX7_swap_125 : decode cX7_swap 125 = .ok (.invokevirtual 211, 3) := by decide +kernel
theorem dX7_swap_128 : decode cX7_swap 128 = .ok (.iinc 3 1, 3) := by decide +kernel
theorem dX7_swap_131 : decode cX7_swap 131 = .ok (.goto (-77), 3) := by decide +kernel
theorem dX7_swap_134 : decode cX7_swap 134 = .ok (.iinc 2 1, 3) := by decide +kernel
theorem dX7_swap_137 : decode cX7_swap 137 = .ok (.goto (-93), 3) := by decide +kernel
theorem dX7_swap_140 : decode cX7_swap 140 = .ok (.aload_n 0, 1) := by decide +kernel
theorem dX7_swap_141 : decode cX7_swap 141 = .ok (.getfield 46, 3) := by decide +kernel
theorem dX7_swap_144 : decode cX7_swap 144 = .ok (.getfield 215, 3) := by decide +kernel
theorem dX7_swap_147 : decode cX7_swap 147 = .ok (.iconst (-1), 1) := by decide +kernel
theorem dX7_swap_148 : decode cX7_swap 148 = .ok (.if_icmp .ne 12, 3) := by decide +kernel
theorem dX7_swap_151 : decode cX7_swap 151 = .ok (.aload_n 0, 1) := by decide +kernel
theorem dX7_swap_152 : decode cX7_swap 152 = .ok (.ldc 108, 2) := by decide +kernel
theorem dX7_swap_154 : decode cX7_swap 154 = .ok (.invokevirtual 82, 3) := by decide +kernel
theorem dX7_swap_157 : decode cX7_swap 157 = .ok (.goto 10, 3) := by decide +kernel
theorem dX7_swap_160 : decode cX7_swap 160 = .ok (.aload_n 0, 1) := by decide +kernel
theorem dX7_swap_161 : decode cX7_swap 161 = .ok (.getfield 46, 3) := by decide +kernel
theorem dX7_swap_164 : decode cX7_swap 164 = .ok (.getfield 215, 3) := by decide +kernel
theorem dX7_swap_167 : decode cX7_swap 167 = .ok (.ireturn, 1) := by decide +kernel
theorem dX7_missed_0 : decode cX7_missed 0 = .ok (.iload_n 1, 1) := by decide +kernel
theorem dX7_missed_1 : decode cX7_missed 1 = .ok (.bipush 30, 2) := by decide +kernel
theorem dX7_missed_3 : decode cX7_missed 3 = .ok (.invokestatic 157, 3) := by decide +kernel
theorem dX7_missed_6 : decode cX7_missed 6 = .ok (.ifCond .ne 10, 3) := by decide +kernel
theorem dX7_missed_9 : decode cX7_missed 9 = .ok (.aload_n 0, 1) := by decide +kernel
theorem dX7_missed_10 : decode cX7_missed 10 = .ok (.ldc 81, 2) := by decide +kernel
theorem dX7_missed_12 : decode cX7_missed 12 = .ok (.invokevirtual 82, 3) := by decide +kernel
theorem dX7_missed_15 : decode cX7_missed 15 = .ok (.ireturn, 1) := by decide +kernel
theorem dX7_missed_16 : decode cX7_missed 16 = .ok (.aload_n 0, 1) := by decide +kernel
theorem dX7_missed_17 : decode cX7_missed 17 = .ok (.getfield 46, 3) := by decide +kernel
theorem dX7_missed_20 : decode cX7_missed 20 = .ok (.ldc 220, 2) := by decide +kernel
theorem dX7_missed_22 : decode cX7_missed 22 = .ok (.invokevirtual 210, 3) := by decide +kernel
theorem dX7_missed_25 : decode cX7_missed 25 = .ok (.iconst 0, 1) := by decide +kernel
theorem dX7_missed_26 : decode cX7_missed 26 = .ok (.istore_n 2, 1) := by decide +kernel
theorem dX7_missed_27 : decode cX7_missed 27 = .ok (.iload_n 2, 1) := by decide +kernel
theorem dX7_missed_28 : decode cX7_missed 28 = .ok (.bipush 8, 2) := by decide +kernel
theorem dX7_missed_30 : decode cX7_missed 30 = .ok (.if_icmp .ge 57, 3) := by decide +kernel
theorem dX7_missed_33 : decode cX7_missed 33 = .ok (.aload_n 0, 1) := by decide +kernel
theorem dX7_missed_34 : decode cX7_missed 34 = .ok (.getfield 10, 3) := by decide +kernel
theorem dX7_missed_37 : decode cX7_missed 37 = .ok (.iload_n 2, 1) := by decide +kernel
theorem dX7_missed_38 : decode cX7_missed 38 = .ok (.invokevirtual 89, 3) := by decide +kernel
theorem dX7_missed_41 : decode cX7_missed 41 = .ok (.ifCond .ne 40, 3) := by decide +kernel
theorem dX7_missed_44 : decode cX7_missed 44 = .ok (.aload_n 0, 1) := by decide +kernel
theorem dX7_missed_45 : decode cX7_missed 45 = .ok (.getfield 16, 3) := by decide +kernel
theorem dX7_missed_48 : decode cX7_missed 48 = .ok (.aload_n 0, 1) := by decide +kernel
theorem dX7_missed_49 : decode cX7_missed 49 = .ok (.getfield 10, 3) := by decide +kernel
theorem dX7_missed_52 : decode cX7_missed 52 = .ok (.invokevirtual 207, 3) := by decide +kernel
theorem dX7_missed_55 : decode cX7_missed 55 = .ok (.aload_n 0, 1) := by decide +kernel
theorem dX7_missed_56 : decode cX7_missed 56 = .ok (.getfield 16, 3) := by decide +kernel
theorem dX7_missed_59 : decode cX7_missed 59 = .ok (.iload_n 2, 1) := by decide +kernel
theorem dX7_missed_60 : decode cX7_missed 60 = .ok (.iconst 1, 1) := by decide +kernel
theorem dX7_missed_61 : decode cX7_missed 61 = .ok (.invokevirtual 93, 3) := by decide +kernel
theorem dX7_missed_64 : decode cX7_missed 64 = .ok (.aload_n 0, 1) := by decide +kernel
theorem dX7_missed_65 : decode cX7_missed 65 = .ok (.getfield 46, 3) := by decide +kernel
theorem dX7_missed_68 : decode cX7_missed 68 = .ok (.iload_n 2, 1) := by decide +kernel
theorem dX7_missed_69 : decode cX7_missed 69 = .ok (.aload_n 0, 1) := by decide +kernel
theorem dX7_missed_70 : decode cX7_missed 70 = .ok (.getfield 16, 3) := by decide +kernel
theorem dX7_missed_73 : decode cX7_missed 73 = .ok (.iload_n 1, 1) := by decide +kernel
theorem dX7_missed_74 : decode cX7_missed 74 = .ok (.invokevirtual 161, 3) := by decide +kernel
theorem dX7_missed_77 : decode cX7_missed 77 = .ok (.ineg, 1) := by decide +kernel
theorem dX7_missed_78 : decode cX7_missed 78 = .ok (.invokevirtual 211, 3) := by decide +kernel
theorem dX7_missed_81 : decode cX7_missed 81 = .ok (.iinc 2 1, 3) := by decide +kernel
theorem dX7_missed_84 : decode cX7_missed 84 = .ok (.goto (-57), 3) := by decide +kernel
theorem dX7_missed_87 : decode cX7_missed 87 = .ok (.aload_n 0, 1) := by decide +kernel
theorem dX7_missed_88 : decode cX7_missed 88 = .ok (.getfield 46, 3) := by decide +kernel
theorem dX7_missed_91 : decode cX7_missed 91 = .ok (.getfield 215, 3) := by decide +kernel
theorem dX7_missed_94 : decode cX7_missed 94 = .ok (.iconst (-1), 1) := by decide +kernel
theorem dX7_missed_95 : decode cX7_missed 95 = .ok (.if_icmp .ne 12, 3) := by decide +kernel
theorem dX7_missed_98 : decode cX7_missed 98 = .ok (.aload_n 0, 1) := by decide +kernel
theorem dX7_missed_99 : decode cX7_missed 99 = .ok (.ldc 108, 2) := by decide +kernel
theorem dX7_missed_101 : decode cX7_missed 101 = .ok (.invokevirtual 82, 3) := by decide +kernel
theorem dX7_missed_104 : decode cX7_missed 104 = .ok (.goto 10, 3) := by decide +kernel
theorem dX7_missed_107 : decode cX7_missed 107 = .ok (.aload_n 0, 1) := by decide +kernel
theorem dX7_missed_108 : decode cX7_missed 108 = .ok (.getfield 46, 3) := by decide +kernel
theorem dX7_missed_111 : decode cX7_missed 111 = .ok (.getfield 215, 3) := by decide +kernel
theorem dX7_missed_114 : decode cX7_missed 114 = .ok (.ireturn, 1) := by decide +kernel
theorem dX7_enough_0 : decode cX7_enough 0 = .ok (.iload_n 1, 1) := by decide +kernel
theorem dX7_enough_1 : decode cX7_enough 1 = .ok (.bipush 30, 2) := by decide +kernel
theorem dX7_enough_3 : decode cX7_enough 3 = .ok (.invokestatic 157, 3) := by decide +kernel
theorem dX7_enough_6 : decode cX7_enough 6 = .ok (.ifCond .eq 12, 3) := by decide +kernel
theorem dX7_enough_9 : decode cX7_enough 9 = .ok (.iload_n 2, 1) := by decide +kernel
theorem dX7_enough_10 : decode cX7_enough 10 = .ok (.ldc 221, 2) := by decide +kernel
theorem dX7_enough_12 : decode cX7_enough 12 = .ok (.invokestatic 77, 3) := by decide +kernel
theorem dX7_enough_15 : decode cX7_enough 15 = .ok (.ifCond .ne 10, 3) := by decide +kernel
theorem dX7_enough_18 : decode cX7_enough 18 = .ok (.aload_n 0, 1) := by decide +kernel
theorem dX7_enough_19 : decode cX7_enough 19 = .ok (.ldc 81, 2) := by decide +kernel
theorem dX7_enough_21 : decode cX7_enough 21 = .ok (.invokevirtual 82, 3) := by decide +kernel
theorem dX7_enough_24 : decode cX7_enough 24 = .ok (.ireturn, 1) := by decide +kernel
theorem dX7_enough_25 : decode cX7_enough 25 = .ok (.iconst 0, 1) := by decide +kernel
theorem dX7_enough_26 : decode cX7_enough 26 = .ok (.istore_n 3, 1) := by decide +kernel
theorem dX7_enough_27 : decode cX7_enough 27 = .ok (.iload_n 3, 1) := by decide +kernel
theorem dX7_enough_28 : decode cX7_enough 28 = .ok (.bipush 9, 2) := by decide +kernel
theorem dX7_enough_30 : decode cX7_enough 30 = .ok (.if_icmp .gt 42, 3) := by decide +kernel
theorem dX7_enough_33 : decode cX7_enough 33 = .ok (.aload_n 0, 1) := by decide +kernel
theorem dX7_enough_34 : decode cX7_enough 34 = .ok (.getfield 16, 3) := by decide +kernel
theorem dX7_enough_37 : decode cX7_enough 37 = .ok (.aload_n 0, 1) := by decide +kernel
theorem dX7_enough_38 : decode cX7_enough 38 = .ok (.getfield 10, 3) := by decide +kernel
theorem dX7_enough_41 : decode cX7_enough 41 = .ok (.invokevirtual 207, 3) := by decide +kernel
theorem dX7_enough_44 : decode cX7_enough 44 = .ok (.aload_n 0, 1) := by decide +kernel
theorem dX7_enough_45 : decode cX7_enough 45 = .ok (.getfield 16, 3) := by decide +kernel
theorem dX7_enough_48 : decode cX7_enough 48 = .ok (.iload_n 3, 1) := by decide +kernel
theorem dX7_enough_49 : decode cX7_enough 49 = .ok (.putfield 97, 3) := by decide +kernel
theorem dX7_enough_52 : decode cX7_enough 52 = .ok (.aload_n 0, 1) := by decide +kernel
theorem dX7_enough_53 : decode cX7_enough 53 = .ok (.getfield 16, 3) := by decide +kernel
theorem dX7_enough_56 : decode cX7_enough 56 = .ok (.iload_n 1, 1) := by decide +kernel
theorem dX7_enough_57 : decode cX7_enough 57 = .ok (.invokevirtual 161, 3) := by decide +kernel
theorem dX7_enough_60 : decode cX7_enough 60 = .ok (.iload_n 2, 1) := by decide +kernel
theorem dX7_enough_61 : decode cX7_enough 61 = .ok (.if_icmp .lt 5, 3) := by decide +kernel
theorem dX7_enough_64 : decode cX7_enough 64 = .ok (.iload_n 3, 1) := by decide +kernel
theorem dX7_enough_65 : decode cX7_enough 65 = .ok (.ireturn, 1) := by decide +kernel
theorem dX7_enough_66 : decode cX7_enough 66 = .ok (.iinc 3 1, 3) := by decide +kernel
theorem dX7_enough_69 : decode cX7_enough 69 = .ok (.goto (-42), 3) := by decide +kernel
theorem dX7_enough_72 : decode cX7_enough 72 = .ok (.aload_n 0, 1) := by decide +kernel
theorem dX7_enough_73 : decode cX7_enough 73 = .ok (.ldc 108, 2) := by decide +kernel
theorem dX7_enough_75 : decode cX7_enough 75 = .ok (.invokevirtual 82, 3) := by decide +kernel
theorem dX7_enough_78 : decode cX7_enough 78 = .ok (.ireturn, 1) := by decide +kernel
theorem dX7_kind_0 : decode cX7_kind 0 = .ok (.aload_n 0, 1) := by decide +kernel
theorem dX7_kind_1 : decode cX7_kind 1 = .ok (.getfield 10, 3) := by decide +kernel
theorem dX7_kind_4 : decode cX7_kind 4 = .ok (.iload_n 1, 1) := by decide +kernel
theorem dX7_kind_5 : decode cX7_kind 5 = .ok (.invokevirtual 121, 3) := by decide +kernel
theorem dX7_kind_8 : decode cX7_kind 8 = .ok (.ifCond .eq 12, 3) := by decide +kernel
theorem dX7_kind_11 : decode cX7_kind 11 = .ok (.iload_n 2, 1) := by decide +kernel
theorem dX7_kind_12 : decode cX7_kind 12 = .ok (.bipush 30, 2) := by decide +kernel
theorem dX7_kind_14 : decode cX7_kind 14 = .ok (.invokestatic 157, 3) := by decide +kernel
theorem dX7_kind_17 : decode cX7_kind 17 = .ok (.ifCond .ne 10, 3) := by decide +kernel
theorem dX7_kind_20 : decode cX7_kind 20 = .ok (.aload_n 0, 1) := by decide +kernel
theorem dX7_kind_21 : decode cX7_kind 21 = .ok (.ldc 81, 2) := by decide +kernel
theorem dX7_kind_23 : decode cX7_kind 23 = .ok (.invokevirtual 82, 3) := by decide +kernel
theorem dX7_kind_26 : decode cX7_kind 26 = .ok (.ireturn, 1) := by decide +kernel
theorem dX7_kind_27 : decode cX7_kind 27 = .ok (.aload_n 0, 1) := by decide +kernel
theorem dX7_kind_28 : decode cX7_kind 28 = .ok (.getfield 46, 3) := by decide +kernel
theorem dX7_kind_31 : decode cX7_kind 31 = .ok (.ldc 220, 2) := by decide +kernel
theorem dX7_kind_33 : decode cX7_kind 33 = .ok (.invokevirtual 210, 3) := by decide +kernel
theorem dX7_kind_36 : decode cX7_kind 36 = .ok (.iconst 0, 1) := by decide +kernel
theorem dX7_kind_37 : decode cX7_kind 37 = .ok (.istore_n 3, 1) := by decide +kernel
theorem dX7_kind_38 : decode cX7_kind 38 = .ok (.iload_n 3, 1) := by decide +kernel
theorem dX7_kind_39 : decode cX7_kind 39 = .ok (.bipush 6, 2) := by decide +kernel
theorem dX7_kind_41 : decode cX7_kind 41 = .ok (.if_icmp .ge 49, 3) := by decide +kernel
theorem dX7_kind_44 : decode cX7_kind 44 = .ok (.aload_n 0, 1) := by decide +kernel
theorem dX7_kind_45 : decode cX7_kind 45 = .ok (.getfield 16, 3) := by decide +kernel
theorem dX7_kind_48 : decode cX7_kind 48 = .ok (.aload_n 0, 1) := by decide +kernel
theorem dX7_kind_49 : decode cX7_kind 49 = .ok (.getfield 10, 3) := by decide +kernel
theorem dX7_kind_52 : decode cX7_kind 52 = .ok (.invokevirtual 207, 3) := by decide +kernel
theorem dX7_kind_55 : decode cX7_kind 55 = .ok (.aload_n 0, 1) := by decide +kernel
theorem dX7_kind_56 : decode cX7_kind 56 = .ok (.getfield 16, 3) := by decide +kernel
theorem dX7_kind_59 : decode cX7_kind 59 = .ok (.getfield 124, 3) := by decide +kernel
theorem dX7_kind_62 : decode cX7_kind 62 = .ok (.iload_n 1, 1) := by decide +kernel
theorem dX7_kind_63 : decode cX7_kind 63 = .ok (.aaload, 1) := by decide +kernel
theorem dX7_kind_64 : decode cX7_kind 64 = .ok (.iload_n 3, 1) := by decide +kernel
theorem dX7_kind_65 : decode cX7_kind 65 = .ok (.putfield 131, 3) := by decide +kernel
theorem dX7_kind_68 : decode cX7_kind 68 = .ok (.aload_n 0, 1) := by decide +kernel
theorem dX7_kind_69 : decode cX7_kind 69 = .ok (.getfield 46, 3) := by decide +kernel
theorem dX7_kind_72 : decode cX7_kind 72 = .ok (.iload_n 3, 1) := by decide +kernel
theorem dX7_kind_73 : decode cX7_kind 73 = .ok (.aload_n 0, 1) := by decide +kernel
theorem dX7_kind_74 : decode cX7_kind 74 = .ok (.getfield 16, 3) := by decide +kernel
theorem dX7_kind_77 : decode cX7_kind 77 = .ok (.iload_n 2, 1) := by decide +kernel
theorem dX7_kind_78 : decode cX7_kind 78 = .ok (.invokevirtual 161, 3) := by decide +kernel
theorem dX7_kind_81 : decode cX7_kind 81 = .ok (.invokevirtual 211, 3) := by decide +kernel
theorem dX7_kind_84 : decode cX7_kind 84 = .ok (.iinc 3 1, 3) := by decide +kernel
theorem dX7_kind_87 : decode cX7_kind 87 = .ok (.goto (-49), 3) := by decide +kernel
theorem dX7_kind_90 : decode cX7_kind 90 = .ok (.aload_n 0, 1) := by decide +kernel
theorem dX7_kind_91 : decode cX7_kind 91 = .ok (.getfield 46, 3) := by decide +kernel
theorem dX7_kind_94 : decode cX7_kind 94 = .ok (.getfield 215, 3) := by decide +kernel
theorem dX7_kind_97 : decode cX7_kind 97 = .ok (.ireturn, 1) := by decide +kernel
theorem dX7_facing_0 : decode cX7_facing 0 = .ok (.aload_n 0, 1) := by decide +kernel
theorem dX7_facing_1 : decode cX7_facing 1 = .ok (.getfield 10, 3) := by decide +kernel
theorem dX7_facing_4 : decode cX7_facing 4 = .ok (.iload_n 1, 1) := by decide +kernel
theorem dX7_facing_5 : decode cX7_facing 5 = .ok (.invokevirtual 121, 3) := by decide +kernel
theorem dX7_facing_8 : decode cX7_facing 8 = .ok (.ifCond .eq 12, 3) := by decide +kernel
theorem dX7_facing_11 : decode cX7_facing 11 = .ok (.iload_n 2, 1) := by decide +kernel
theorem dX7_facing_12 : decode cX7_facing 12 = .ok (.bipush 30, 2) := by decide +kernel
theorem dX7_facing_14 : decode cX7_facing 14 = .ok (.invokestatic 157, 3) := by decide +kernel
theorem dX7_facing_17 : decode cX7_facing 17 = .ok (.ifCond .ne 10, 3) := by decide +kernel
theorem dX7_facing_20 : decode cX7_facing 20 = .ok (.aload_n 0, 1) := by decide +kernel
theorem dX7_facing_21 : decode cX7_facing 21 = .ok (.ldc 81, 2) := by decide +kernel
theorem dX7_facing_23 : decode cX7_facing 23 = .ok (.invokevirtual 82, 3) := by decide +kernel
theorem dX7_facing_26 : decode cX7_facing 26 = .ok (.ireturn, 1) := by decide +kernel
theorem dX7_facing_27 : decode cX7_facing 27 = .ok (.aload_n 0, 1) := by decide +kernel
theorem dX7_facing_28 : decode cX7_facing 28 = .ok (.getfield 46, 3) := by decide +kernel
theorem dX7_facing_31 : decode cX7_facing 31 = .ok (.ldc 220, 2) := by decide +kernel
theorem dX7_facing_33 : decode cX7_facing 33 = .ok (.invokevirtual 210, 3) := by decide +kernel
theorem dX7_facing_36 : decode cX7_facing 36 = .ok (.iconst 0, 1) := by decide +kernel
theorem dX7_facing_37 : decode cX7_facing 37 = .ok (.istore_n 3, 1) := by decide +kernel
theorem dX7_facing_38 : decode cX7_facing 38 = .ok (.iload_n 3, 1) := by decide +kernel
theorem dX7_facing_39 : decode cX7_facing 39 = .ok (.bipush 8, 2) := by decide +kernel
theorem dX7_facing_41 : decode cX7_facing 41 = .ok (.if_icmp .ge 49, 3) := by decide +kernel
theorem dX7_facing_44 : decode cX7_facing 44 = .ok (.aload_n 0, 1) := by decide +kernel
theorem dX7_facing_45 : decode cX7_facing 45 = .ok (.getfield 16, 3) := by decide +kernel
theorem dX7_facing_48 : decode cX7_facing 48 = .ok (.aload_n 0, 1) := by decide +kernel
theorem dX7_facing_49 : decode cX7_facing 49 = .ok (.getfield 10, 3) := by decide +kernel
theorem dX7_facing_52 : decode cX7_facing 52 = .ok (.invokevirtual 207, 3) := by decide +kernel
theorem dX7_facing_55 : decode cX7_facing 55 = .ok (.aload_n 0, 1) := by decide +kernel
theorem dX7_facing_56 : decode cX7_facing 56 = .ok (.getfield 16, 3) := by decide +kernel
theorem dX7_facing_59 : decode cX7_facing 59 = .ok (.getfield 124, 3) := by decide +kernel
theorem dX7_facing_62 : decode cX7_facing 62 = .ok (.iload_n 1, 1) := by decide +kernel
theorem dX7_facing_63 : decode cX7_facing 63 = .ok (.aaload, 1) := by decide +kernel
theorem dX7_facing_64 : decode cX7_facing 64 = .ok (.iload_n 3, 1) := by decide +kernel
theorem dX7_facing_65 : decode cX7_facing 65 = .ok (.putfield 137, 3) := by decide +kernel
theorem dX7_facing_68 : decode cX7_facing 68 = .ok (.aload_n 0, 1) := by decide +kernel
theorem dX7_facing_69 : decode cX7_facing 69 = .ok (.getfield 46, 3) := by decide +kernel
theorem dX7_facing_72 : decode cX7_facing 72 = .ok (.iload_n 3, 1) := by decide +kernel
theorem dX7_facing_73 : decode cX7_facing 73 = .ok (.aload_n 0, 1) := by decide +kernel
theorem dX7_facing_74 : decode cX7_facing 74 = .ok (.getfield 16, 3) := by decide +kernel
theorem dX7_facing_77 : decode cX7_facing 77 = .ok (.iload_n 2, 1) := by decide +kernel
theorem dX7_facing_78 : decode cX7_facing 78 = .ok (.invokevirtual 161, 3) := by decide +kernel
theorem dX7_facing_81 : decode cX7_facing 81 = .ok (.invokevirtual 211, 3) := by decide +kernel
theorem dX7_facing_84 : decode cX7_facing 84 = .ok (.iinc 3 1, 3) := by decide +kernel
theorem dX7_facing_87 : decode cX7_facing 87 = .ok (.goto (-49), 3) := by decide +kernel
theorem dX7_facing_90 : decode cX7_facing 90 = .ok (.aload_n 0, 1) := by decide +kernel
theorem dX7_facing_91 : decode cX7_facing 91 = .ok (.getfield 46, 3) := by decide +kernel
theorem dX7_facing_94 : decode cX7_facing 94 = .ok (.getfield 215, 3) := by decide +kernel
theorem dX7_facing_97 : decode cX7_facing 97 = .ok (.ireturn, 1) := by decide +kernel
theorem dX7_best_0 : decode cX7_best 0 = .ok (.iload_n 1, 1) := by decide +kernel
theorem dX7_best_1 : decode cX7_best 1 = .ok (.bipush 6, 2) := by decide +kernel
theorem dX7_best_3 : decode cX7_best 3 = .ok (.invokestatic 77, 3) := by decide +kernel
theorem dX7_best_6 : decode cX7_best 6 = .ok (.ifCond .eq 12, 3) := by decide +kernel
theorem dX7_best_9 : decode cX7_best 9 = .ok (.iload_n 2, 1) := by decide +kernel
theorem dX7_best_10 : decode cX7_best 10 = .ok (.bipush 30, 2) := by decide +kernel
theorem dX7_best_12 : decode cX7_best 12 = .ok (.invokestatic 157, 3) := by decide +kernel
theorem dX7_best_15 : decode cX7_best 15 = .ok (.ifCond .ne 10, 3) := by decide +kernel
theorem dX7_best_18 : decode cX7_best 18 = .ok (.aload_n 0, 1) := by decide +kernel
theorem dX7_best_19 : decode cX7_best 19 = .ok (.ldc 81, 2) := by decide +kernel
theorem dX7_best_21 : decode cX7_best 21 = .ok (.invokevirtual 82, 3) := by decide +kernel
theorem dX7_best_24 : decode cX7_best 24 = .ok (.ireturn, 1) := by decide +kernel
theorem dX7_best_25 : decode cX7_best 25 = .ok (.aload_n 0, 1) := by decide +kernel
theorem dX7_best_26 : decode cX7_best 26 = .ok (.getfield 46, 3) := by decide +kernel
theorem dX7_best_29 : decode cX7_best 29 = .ok (.ldc 220, 2) := by decide +kernel
theorem dX7_best_31 : decode cX7_best 31 = .ok (.invokevirtual 210, 3) := by decide +kernel
theorem dX7_best_34 : decode cX7_best 34 = .ok (.iconst 0, 1) := by decide +kernel
theorem dX7_best_35 : decode cX7_best 35 = .ok (.istore_n 3, 1) := by decide +kernel
theorem dX7_best_36 : decode cX7_best 36 = .ok (.iload_n 3, 1) := by decide +kernel
end
section
theorem dX7_best_37 : decode cX7_best 37 = .ok (.bipush 8, 2) := by decide +kernel
theorem dX7_best_39 : decode cX7_best 39 = .ok (.if_icmp .gt 46, 3) := by decide +kernel
theorem dX7_best_42 : decode cX7_best 42 = .ok (.aload_n 0, 1) := by decide +kernel
theorem dX7_best_43 : decode cX7_best 43 = .ok (.getfield 16, 3) := by decide +kernel
theorem dX7_best_46 : decode cX7_best 46 = .ok (.aload_n 0, 1) := by decide +kernel
theorem dX7_best_47 : decode cX7_best 47 = .ok (.getfield 10, 3) := by decide +kernel
theorem dX7_best_50 : decode cX7_best 50 = .ok (.invokevirtual 207, 3) := by decide +kernel
theorem dX7_best_53 : decode cX7_best 53 = .ok (.aload_n 0, 1) := by decide +kernel
theorem dX7_best_54 : decode cX7_best 54 = .ok (.getfield 16, 3) := by decide +kernel
theorem dX7_best_57 : decode cX7_best 57 = .ok (.getfield 86, 3) := by decide +kernel
theorem dX7_best_60 : decode cX7_best 60 = .ok (.iload_n 1, 1) := by decide +kernel
theorem dX7_best_61 : decode cX7_best 61 = .ok (.iload_n 3, 1) := by decide +kernel
theorem dX7_best_62 : decode cX7_best 62 = .ok (.iastore, 1) := by decide +kernel
theorem dX7_best_63 : decode cX7_best 63 = .ok (.aload_n 0, 1) := by decide +kernel
theorem dX7_best_64 : decode cX7_best 64 = .ok (.getfield 46, 3) := by decide +kernel
theorem dX7_best_67 : decode cX7_best 67 = .ok (.iload_n 3, 1) := by decide +kernel
theorem dX7_best_68 : decode cX7_best 68 = .ok (.aload_n 0, 1) := by decide +kernel
theorem dX7_best_69 : decode cX7_best 69 = .ok (.getfield 16, 3) := by decide +kernel
theorem dX7_best_72 : decode cX7_best 72 = .ok (.iload_n 2, 1) := by decide +kernel
theorem dX7_best_73 : decode cX7_best 73 = .ok (.invokevirtual 161, 3) := by decide +kernel
theorem dX7_best_76 : decode cX7_best 76 = .ok (.invokevirtual 211, 3) := by decide +kernel
theorem dX7_best_79 : decode cX7_best 79 = .ok (.iinc 3 1, 3) := by decide +kernel
theorem dX7_best_82 : decode cX7_best 82 = .ok (.goto (-46), 3) := by decide +kernel
theorem dX7_best_85 : decode cX7_best 85 = .ok (.aload_n 0, 1) := by decide +kernel
theorem dX7_best_86 : decode cX7_best 86 = .ok (.getfield 46, 3) := by decide +kernel
theorem dX7_best_89 : decode cX7_best 89 = .ok (.getfield 215, 3) := by decide +kernel
theorem dX7_best_92 : decode cX7_best 92 = .ok (.ireturn, 1) := by decide +kernel
theorem dX7_feed_0 : decode cX7_feed 0 = .ok (.iload_n 2, 1) := by decide +kernel
theorem dX7_feed_1 : decode cX7_feed 1 = .ok (.iconst 4, 1) := by decide +kernel
theorem dX7_feed_2 : decode cX7_feed 2 = .ok (.invokestatic 157, 3) := by decide +kernel
theorem dX7_feed_5 : decode cX7_feed 5 = .ok (.ifCond .ne 10, 3) := by decide +kernel
theorem dX7_feed_8 : decode cX7_feed 8 = .ok (.aload_n 0, 1) := by decide +kernel
theorem dX7_feed_9 : decode cX7_feed 9 = .ok (.ldc 81, 2) := by decide +kernel
theorem dX7_feed_11 : decode cX7_feed 11 = .ok (.invokevirtual 82, 3) := by decide +kernel
theorem dX7_feed_14 : decode cX7_feed 14 = .ok (.ireturn, 1) := by decide +kernel
theorem dX7_feed_15 : decode cX7_feed 15 = .ok (.aload_n 0, 1) := by decide +kernel
theorem dX7_feed_16 : decode cX7_feed 16 = .ok (.getfield 53, 3) := by decide +kernel
theorem dX7_feed_19 : decode cX7_feed 19 = .ok (.getfield 222, 3) := by decide +kernel
theorem dX7_feed_22 : decode cX7_feed 22 = .ok (.iload_n 2, 1) := by decide +kernel
theorem dX7_feed_23 : decode cX7_feed 23 = .ok (.iadd, 1) := by decide +kernel
theorem dX7_feed_24 : decode cX7_feed 24 = .ok (.bipush 120, 2) := by decide +kernel
theorem dX7_feed_26 : decode cX7_feed 26 = .ok (.if_icmp .le 10, 3) := by decide +kernel
theorem dX7_feed_29 : decode cX7_feed 29 = .ok (.aload_n 0, 1) := by decide +kernel
theorem dX7_feed_30 : decode cX7_feed 30 = .ok (.ldc 113, 2) := by decide +kernel
theorem dX7_feed_32 : decode cX7_feed 32 = .ok (.invokevirtual 82, 3) := by decide +kernel
theorem dX7_feed_35 : decode cX7_feed 35 = .ok (.ireturn, 1) := by decide +kernel
theorem dX7_feed_36 : decode cX7_feed 36 = .ok (.iload_n 2, 1) := by decide +kernel
theorem dX7_feed_37 : decode cX7_feed 37 = .ok (.iconst 1, 1) := by decide +kernel
theorem dX7_feed_38 : decode cX7_feed 38 = .ok (.isub, 1) := by decide +kernel
theorem dX7_feed_39 : decode cX7_feed 39 = .ok (.istore_n 3, 1) := by decide +kernel
theorem dX7_feed_40 : decode cX7_feed 40 = .ok (.iload_n 3, 1) := by decide +kernel
theorem dX7_feed_41 : decode cX7_feed 41 = .ok (.ifCond .lt 26, 3) := by decide +kernel
theorem dX7_feed_44 : decode cX7_feed 44 = .ok (.aload_n 0, 1) := by decide +kernel
theorem dX7_feed_45 : decode cX7_feed 45 = .ok (.getfield 53, 3) := by decide +kernel
theorem dX7_feed_48 : decode cX7_feed 48 = .ok (.iload_n 1, 1) := by decide +kernel
theorem dX7_feed_49 : decode cX7_feed 49 = .ok (.bipush 8, 2) := by decide +kernel
theorem dX7_feed_51 : decode cX7_feed 51 = .ok (.iload_n 3, 1) := by decide +kernel
theorem dX7_feed_52 : decode cX7_feed 52 = .ok (.imul, 1) := by decide +kernel
theorem dX7_feed_53 : decode cX7_feed 53 = .ok (.ishr, 1) := by decide +kernel
theorem dX7_feed_54 : decode cX7_feed 54 = .ok (.sipush 255, 3) := by decide +kernel
theorem dX7_feed_57 : decode cX7_feed 57 = .ok (.iand, 1) := by decide +kernel
theorem dX7_feed_58 : decode cX7_feed 58 = .ok (.invokevirtual 225, 3) := by decide +kernel
theorem dX7_feed_61 : decode cX7_feed 61 = .ok (.iinc 3 (-1), 3) := by decide +kernel
theorem dX7_feed_64 : decode cX7_feed 64 = .ok (.goto (-24), 3) := by decide +kernel
theorem dX7_feed_67 : decode cX7_feed 67 = .ok (.aload_n 0, 1) := by decide +kernel
theorem dX7_feed_68 : decode cX7_feed 68 = .ok (.getfield 53, 3) := by decide +kernel
theorem dX7_feed_71 : decode cX7_feed 71 = .ok (.getfield 222, 3) := by decide +kernel
theorem dX7_feed_74 : decode cX7_feed 74 = .ok (.ireturn, 1) := by decide +kernel
theorem dX7_wipe_0 : decode cX7_wipe 0 = .ok (.aload_n 0, 1) := by decide +kernel
theorem dX7_wipe_1 : decode cX7_wipe 1 = .ok (.getfield 53, 3) := by decide +kernel
theorem dX7_wipe_4 : decode cX7_wipe 4 = .ok (.getfield 222, 3) := by decide +kernel
theorem dX7_wipe_7 : decode cX7_wipe 7 = .ok (.istore_n 1, 1) := by decide +kernel
theorem dX7_wipe_8 : decode cX7_wipe 8 = .ok (.aload_n 0, 1) := by decide +kernel
theorem dX7_wipe_9 : decode cX7_wipe 9 = .ok (.getfield 53, 3) := by decide +kernel
theorem dX7_wipe_12 : decode cX7_wipe 12 = .ok (.iconst 0, 1) := by decide +kernel
theorem dX7_wipe_13 : decode cX7_wipe 13 = .ok (.putfield 222, 3) := by decide +kernel
theorem dX7_wipe_16 : decode cX7_wipe 16 = .ok (.iload_n 1, 1) := by decide +kernel
theorem dX7_wipe_17 : decode cX7_wipe 17 = .ok (.ireturn, 1) := by decide +kernel
theorem dX7_sea_0 : decode cX7_sea 0 = .ok (.aload_n 0, 1) := by decide +kernel
theorem dX7_sea_1 : decode cX7_sea 1 = .ok (.getfield 16, 3) := by decide +kernel
theorem dX7_sea_4 : decode cX7_sea 4 = .ok (.aload_n 0, 1) := by decide +kernel
theorem dX7_sea_5 : decode cX7_sea 5 = .ok (.getfield 10, 3) := by decide +kernel
theorem dX7_sea_8 : decode cX7_sea 8 = .ok (.invokevirtual 207, 3) := by decide +kernel
theorem dX7_sea_11 : decode cX7_sea 11 = .ok (.aload_n 0, 1) := by decide +kernel
theorem dX7_sea_12 : decode cX7_sea 12 = .ok (.getfield 62, 3) := by decide +kernel
theorem dX7_sea_15 : decode cX7_sea 15 = .ok (.aload_n 0, 1) := by decide +kernel
theorem dX7_sea_16 : decode cX7_sea 16 = .ok (.getfield 16, 3) := by decide +kernel
theorem dX7_sea_19 : decode cX7_sea 19 = .ok (.invokevirtual 228, 3) := by decide +kernel
theorem dX7_sea_22 : decode cX7_sea 22 = .ok (.istore_n 1, 1) := by decide +kernel
theorem dX7_sea_23 : decode cX7_sea 23 = .ok (.iload_n 1, 1) := by decide +kernel
theorem dX7_sea_24 : decode cX7_sea 24 = .ok (.ifCond .lt 14, 3) := by decide +kernel
theorem dX7_sea_27 : decode cX7_sea 27 = .ok (.aload_n 0, 1) := by decide +kernel
theorem dX7_sea_28 : decode cX7_sea 28 = .ok (.getfield 10, 3) := by decide +kernel
theorem dX7_sea_31 : decode cX7_sea 31 = .ok (.aload_n 0, 1) := by decide +kernel
theorem dX7_sea_32 : decode cX7_sea 32 = .ok (.getfield 16, 3) := by decide +kernel
theorem dX7_sea_35 : decode cX7_sea 35 = .ok (.invokevirtual 207, 3) := by decide +kernel
theorem dX7_sea_38 : decode cX7_sea 38 = .ok (.aload_n 0, 1) := by decide +kernel
theorem dX7_sea_39 : decode cX7_sea 39 = .ok (.getfield 53, 3) := by decide +kernel
theorem dX7_sea_42 : decode cX7_sea 42 = .ok (.iconst 0, 1) := by decide +kernel
theorem dX7_sea_43 : decode cX7_sea 43 = .ok (.putfield 222, 3) := by decide +kernel
theorem dX7_sea_46 : decode cX7_sea 46 = .ok (.iload_n 1, 1) := by decide +kernel
theorem dX7_sea_47 : decode cX7_sea 47 = .ok (.ireturn, 1) := by decide +kernel
theorem dX7_sheet_0 : decode cX7_sheet 0 = .ok (.iload_n 1, 1) := by decide +kernel
theorem dX7_sheet_1 : decode cX7_sheet 1 = .ok (.iconst 3, 1) := by decide +kernel
theorem dX7_sheet_2 : decode cX7_sheet 2 = .ok (.invokestatic 77, 3) := by decide +kernel
theorem dX7_sheet_5 : decode cX7_sheet 5 = .ok (.ifCond .eq 25, 3) := by decide +kernel
theorem dX7_sheet_8 : decode cX7_sheet 8 = .ok (.iload_n 2, 1) := by decide +kernel
theorem dX7_sheet_9 : decode cX7_sheet 9 = .ok (.ifCond .eq 28, 3) := by decide +kernel
theorem dX7_sheet_12 : decode cX7_sheet 12 = .ok (.iload_n 2, 1) := by decide +kernel
theorem dX7_sheet_13 : decode cX7_sheet 13 = .ok (.bipush 8, 2) := by decide +kernel
theorem dX7_sheet_15 : decode cX7_sheet 15 = .ok (.if_icmp .eq 22, 3) := by decide +kernel
theorem dX7_sheet_18 : decode cX7_sheet 18 = .ok (.iload_n 2, 1) := by decide +kernel
theorem dX7_sheet_19 : decode cX7_sheet 19 = .ok (.bipush 16, 2) := by decide +kernel
theorem dX7_sheet_21 : decode cX7_sheet 21 = .ok (.if_icmp .eq 16, 3) := by decide +kernel
theorem dX7_sheet_24 : decode cX7_sheet 24 = .ok (.iload_n 2, 1) := by decide +kernel
theorem dX7_sheet_25 : decode cX7_sheet 25 = .ok (.bipush 64, 2) := by decide +kernel
theorem dX7_sheet_27 : decode cX7_sheet 27 = .ok (.if_icmp .eq 10, 3) := by decide +kernel
theorem dX7_sheet_30 : decode cX7_sheet 30 = .ok (.aload_n 0, 1) := by decide +kernel
theorem dX7_sheet_31 : decode cX7_sheet 31 = .ok (.ldc 81, 2) := by decide +kernel
theorem dX7_sheet_33 : decode cX7_sheet 33 = .ok (.invokevirtual 82, 3) := by decide +kernel
theorem dX7_sheet_36 : decode cX7_sheet 36 = .ok (.ireturn, 1) := by decide +kernel
theorem dX7_sheet_37 : decode cX7_sheet 37 = .ok (.iload_n 3, 1) := by decide +kernel
theorem dX7_sheet_38 : decode cX7_sheet 38 = .ok (.ifCond .ge 10, 3) := by decide +kernel
theorem dX7_sheet_41 : decode cX7_sheet 41 = .ok (.aload_n 0, 1) := by decide +kernel
theorem dX7_sheet_42 : decode cX7_sheet 42 = .ok (.ldc 232, 2) := by decide +kernel
theorem dX7_sheet_44 : decode cX7_sheet 44 = .ok (.invokevirtual 82, 3) := by decide +kernel
theorem dX7_sheet_47 : decode cX7_sheet 47 = .ok (.ireturn, 1) := by decide +kernel
theorem dX7_sheet_48 : decode cX7_sheet 48 = .ok (.iload_n 3, 1) := by decide +kernel
theorem dX7_sheet_49 : decode cX7_sheet 49 = .ok (.bipush 40, 2) := by decide +kernel
theorem dX7_sheet_51 : decode cX7_sheet 51 = .ok (.if_icmp .le 10, 3) := by decide +kernel
theorem dX7_sheet_54 : decode cX7_sheet 54 = .ok (.aload_n 0, 1) := by decide +kernel
theorem dX7_sheet_55 : decode cX7_sheet 55 = .ok (.ldc 81, 2) := by decide +kernel
theorem dX7_sheet_57 : decode cX7_sheet 57 = .ok (.invokevirtual 82, 3) := by decide +kernel
theorem dX7_sheet_60 : decode cX7_sheet 60 = .ok (.ireturn, 1) := by decide +kernel
theorem dX7_sheet_61 : decode cX7_sheet 61 = .ok (.aload_n 0, 1) := by decide +kernel
theorem dX7_sheet_62 : decode cX7_sheet 62 = .ok (.getfield 68, 3) := by decide +kernel
theorem dX7_sheet_65 : decode cX7_sheet 65 = .ok (.iload_n 1, 1) := by decide +kernel
theorem dX7_sheet_66 : decode cX7_sheet 66 = .ok (.aaload, 1) := by decide +kernel
theorem dX7_sheet_67 : decode cX7_sheet 67 = .ok (.iload_n 2, 1) := by decide +kernel
theorem dX7_sheet_68 : decode cX7_sheet 68 = .ok (.iload_n 2, 1) := by decide +kernel
theorem dX7_sheet_69 : decode cX7_sheet 69 = .ok (.ifCond .ne 7, 3) := by decide +kernel
theorem dX7_sheet_72 : decode cX7_sheet 72 = .ok (.iconst 0, 1) := by decide +kernel
theorem dX7_sheet_73 : decode cX7_sheet 73 = .ok (.goto 4, 3) := by decide +kernel
theorem dX7_sheet_76 : decode cX7_sheet 76 = .ok (.iload_n 3, 1) := by decide +kernel
theorem dX7_sheet_77 : decode cX7_sheet 77 = .ok (.invokevirtual 233, 3) := by decide +kernel
theorem dX7_sheet_80 : decode cX7_sheet 80 = .ok (.aload_n 0, 1) := by decide +kernel
theorem dX7_sheet_81 : decode cX7_sheet 81 = .ok (.getfield 68, 3) := by decide +kernel
theorem dX7_sheet_84 : decode cX7_sheet 84 = .ok (.iload_n 1, 1) := by decide +kernel
theorem dX7_sheet_85 : decode cX7_sheet 85 = .ok (.aaload, 1) := by decide +kernel
theorem dX7_sheet_86 : decode cX7_sheet 86 = .ok (.getfield 235, 3) := by decide +kernel
theorem dX7_sheet_89 : decode cX7_sheet 89 = .ok (.ireturn, 1) := by decide +kernel
theorem dX7_write_0 : decode cX7_write 0 = .ok (.iload_n 1, 1) := by decide +kernel
theorem dX7_write_1 : decode cX7_write 1 = .ok (.iconst 3, 1) := by decide +kernel
theorem dX7_write_2 : decode cX7_write 2 = .ok (.invokestatic 77, 3) := by decide +kernel
theorem dX7_write_5 : decode cX7_write 5 = .ok (.ifCond .ne 11, 3) := by decide +kernel
theorem dX7_write_8 : decode cX7_write 8 = .ok (.aload_n 0, 1) := by decide +kernel
theorem dX7_write_9 : decode cX7_write 9 = .ok (.ldc 81, 2) := by decide +kernel
theorem dX7_write_11 : decode cX7_write 11 = .ok (.invokevirtual 82, 3) := by decide +kernel
theorem dX7_write_14 : decode cX7_write 14 = .ok (.i2l, 1) := by decide +kernel
theorem dX7_write_15 : decode cX7_write 15 = .ok (.lreturn, 1) := by decide +kernel
theorem dX7_write_16 : decode cX7_write 16 = .ok (.aload_n 0, 1) := by decide +kernel
theorem dX7_write_17 : decode cX7_write 17 = .ok (.getfield 68, 3) := by decide +kernel
theorem dX7_write_20 : decode cX7_write 20 = .ok (.iload_n 1, 1) := by decide +kernel
theorem dX7_write_21 : decode cX7_write 21 = .ok (.aaload, 1) := by decide +kernel
theorem dX7_write_22 : decode cX7_write 22 = .ok (.astore 5, 2) := by decide +kernel
theorem dX7_write_24 : decode cX7_write 24 = .ok (.aload 5, 2) := by decide +kernel
theorem dX7_write_26 : decode cX7_write 26 = .ok (.invokevirtual 238, 3) := by decide +kernel
theorem dX7_write_29 : decode cX7_write 29 = .ok (.ifCond .eq 11, 3) := by decide +kernel
theorem dX7_write_32 : decode cX7_write 32 = .ok (.aload_n 0, 1) := by decide +kernel
theorem dX7_write_33 : decode cX7_write 33 = .ok (.ldc 241, 2) := by decide +kernel
theorem dX7_write_35 : decode cX7_write 35 = .ok (.invokevirtual 82, 3) := by decide +kernel
theorem dX7_write_38 : decode cX7_write 38 = .ok (.i2l, 1) := by decide +kernel
theorem dX7_write_39 : decode cX7_write 39 = .ok (.lreturn, 1) := by decide +kernel
theorem dX7_write_40 : decode cX7_write 40 = .ok (.iload_n 2, 1) := by decide +kernel
theorem dX7_write_41 : decode cX7_write 41 = .ok (.aload 5, 2) := by decide +kernel
theorem dX7_write_43 : decode cX7_write 43 = .ok (.getfield 235, 3) := by decide +kernel
theorem dX7_write_46 : decode cX7_write 46 = .ok (.iconst 1, 1) := by decide +kernel
theorem dX7_write_47 : decode cX7_write 47 = .ok (.isub, 1) := by decide +kernel
theorem dX7_write_48 : decode cX7_write 48 = .ok (.invokestatic 77, 3) := by decide +kernel
theorem dX7_write_51 : decode cX7_write 51 = .ok (.ifCond .ne 11, 3) := by decide +kernel
theorem dX7_write_54 : decode cX7_write 54 = .ok (.aload_n 0, 1) := by decide +kernel
theorem dX7_write_55 : decode cX7_write 55 = .ok (.ldc 81, 2) := by decide +kernel
theorem dX7_write_57 : decode cX7_write 57 = .ok (.invokevirtual 82, 3) := by decide +kernel
theorem dX7_write_60 : decode cX7_write 60 = .ok (.i2l, 1) := by decide +kernel
theorem dX7_write_61 : decode cX7_write 61 = .ok (.lreturn, 1) := by decide +kernel
theorem dX7_write_62 : decode cX7_write 62 = .ok (.aload 5, 2) := by decide +kernel
theorem dX7_write_64 : decode cX7_write 64 = .ok (.getfield 242, 3) := by decide +kernel
theorem dX7_write_67 : decode cX7_write 67 = .ok (.iload_n 2, 1) := by decide +kernel
theorem dX7_write_68 : decode cX7_write 68 = .ok (.laload, 1) := by decide +kernel
theorem dX7_write_69 : decode cX7_write 69 = .ok (.lstore 6, 2) := by decide +kernel
theorem dX7_write_71 : decode cX7_write 71 = .ok (.aload 5, 2) := by decide +kernel
theorem dX7_write_73 : decode cX7_write 73 = .ok (.iload_n 2, 1) := by decide +kernel
theorem dX7_write_74 : decode cX7_write 74 = .ok (.lload_n 3, 1) := by decide +kernel
theorem dX7_write_75 : decode cX7_write 75 = .ok (.invokevirtual 246, 3) := by decide +kernel
theorem dX7_write_78 : decode cX7_write 78 = .ok (.lload 6, 2) := by decide +kernel
theorem dX7_write_80 : decode cX7_write 80 = .ok (.lreturn, 1) := by decide +kernel
theorem dX7_copy_0 : decode cX7_copy 0 = .ok (.iload_n 1, 1) := by decide +kernel
theorem dX7_copy_1 : decode cX7_copy 1 = .ok (.iconst 3, 1) := by decide +kernel
theorem dX7_copy_2 : decode cX7_copy 2 = .ok (.invokestatic 77, 3) := by decide +kernel
theorem dX7_copy_5 : decode cX7_copy 5 = .ok (.ifCond .eq 11, 3) := by decide +kernel
theorem dX7_copy_8 : decode cX7_copy 8 = .ok (.iload_n 3, 1) := by decide +kernel
theorem dX7_copy_9 : decode cX7_copy 9 = .ok (.iconst 3, 1) := by decide +kernel
theorem dX7_copy_10 : decode cX7_copy 10 = .ok (.invokestatic 77, 3) := by decide +kernel
theorem dX7_copy_13 : decode cX7_copy 13 = .ok (.ifCond .ne 10, 3) := by decide +kernel
theorem dX7_copy_16 : decode cX7_copy 16 = .ok (.aload_n 0, 1) := by decide +kernel
theorem dX7_copy_17 : decode cX7_copy 17 = .ok (.ldc 81, 2) := by decide +kernel
theorem dX7_copy_19 : decode cX7_copy 19 = .ok (.invokevirtual 82, 3) := by decide +kernel
theorem dX7_copy_22 : decode cX7_copy 22 = .ok (.ireturn, 1) := by decide +kernel
theorem dX7_copy_23 : decode cX7_copy 23 = .ok (.aload_n 0, 1) := by decide +kernel
theorem dX7_copy_24 : decode cX7_copy 24 = .ok (.getfield 68, 3) := by decide +kernel
theorem dX7_copy_27 : decode cX7_copy 27 = .ok (.iload_n 1, 1) := by decide +kernel
theorem dX7_copy_28 : decode cX7_copy 28 = .ok (.aaload, 1) := by decide +kernel
theorem dX7_copy_29 : decode cX7_copy 29 = .ok (.astore 6, 2) := by decide +kernel
theorem dX7_copy_31 : decode cX7_copy 31 = .ok (.aload_n 0, 1) := by decide +kernel
theorem dX7_copy_32 : decode cX7_copy 32 = .ok (.getfield 68, 3) := by decide +kernel
theorem dX7_copy_35 : decode cX7_copy 35 = .ok (.iload_n 3, 1) := by decide +kernel
theorem dX7_copy_36 : decode cX7_copy 36 = .ok (.aaload, 1) := by decide +kernel
theorem dX7_copy_37 : decode cX7_copy 37 = .ok (.astore 7, 2) := by decide +kernel
theorem dX7_copy_39 : decode cX7_copy 39 = .ok (.aload 6, 2) := by decide +kernel
theorem dX7_copy_41 : decode cX7_copy 41 = .ok (.invokevirtual 238, 3) := by decide +kernel
theorem dX7_copy_44 : decode cX7_copy 44 = .ok (.ifCond .ne 11, 3) := by decide +kernel
theorem dX7_copy_47 : decode cX7_copy 47 = .ok (.aload 7, 2) := by decide +kernel
theorem dX7_copy_49 : decode cX7_copy 49 = .ok (.invokevirtual 238, 3) := by decide +kernel
theorem dX7_copy_52 : decode cX7_copy 52 = .ok (.ifCond .eq 10, 3) := by decide +kernel
theorem dX7_copy_55 : decode cX7_copy 55 = .ok (.aload_n 0, 1) := by decide +kernel
theorem dX7_copy_56 : decode cX7_copy 56 = .ok (.ldc 241, 2) := by decide +kernel
theorem dX7_copy_58 : decode cX7_copy 58 = .ok (.invokevirtual 82, 3) := by decide +kernel
theorem dX7_copy_61 : decode cX7_copy 61 = .ok (.ireturn, 1) := by decide +kernel
theorem dX7_copy_62 : decode cX7_copy 62 = .ok (.aload 6, 2) := by decide +kernel
theorem dX7_copy_64 : decode cX7_copy 64 = .ok (.getfield 249, 3) := by decide +kernel
theorem dX7_copy_67 : decode cX7_copy 67 = .ok (.aload 7, 2) := by decide +kernel
theorem dX7_copy_69 : decode cX7_copy 69 = .ok (.getfield 249, 3) := by decide +kernel
theorem dX7_copy_72 : decode cX7_copy 72 = .ok (.if_icmp .eq 10, 3) := by decide +kernel
theorem dX7_copy_75 : decode cX7_copy 75 = .ok (.aload_n 0, 1) := by decide +kernel
theorem dX7_copy_76 : decode cX7_copy 76 = .ok (.ldc 156, 2) := by decide +kernel
theorem dX7_copy_78 : decode cX7_copy 78 = .ok (.invokevirtual 82, 3) := by decide +kernel
theorem dX7_copy_81 : decode cX7_copy 81 = .ok (.ireturn, 1) := by decide +kernel
theorem dX7_copy_82 : decode cX7_copy 82 = .ok (.aload 6, 2) := by decide +kernel
theorem dX7_copy_84 : decode cX7_copy 84 = .ok (.iload_n 2, 1) := by decide +kernel
theorem dX7_copy_85 : decode cX7_copy 85 = .ok (.iload 5, 2) := by decide +kernel
theorem dX7_copy_87 : decode cX7_copy 87 = .ok (.invokevirtual 252, 3) := by decide +kernel
theorem dX7_copy_90 : decode cX7_copy 90 = .ok (.ifCond .eq 15, 3) := by decide +kernel
theorem dX7_copy_93 : decode cX7_copy 93 = .ok (.aload 7, 2) := by decide +kernel
theorem dX7_copy_95 : decode cX7_copy 95 = .ok (.iload 4, 2) := by decide +kernel
theorem dX7_copy_97 : decode cX7_copy 97 = .ok (.iload 5, 2) := by decide +kernel
theorem dX7_copy_99 : decode cX7_copy 99 = .ok (.invokevirtual 252, 3) := by decide +kernel
theorem dX7_copy_102 : decode cX7_copy 102 = .ok (.ifCond .ne 10, 3) := by decide +kernel
theorem dX7_copy_105 : decode cX7_copy 105 = .ok (.aload_n 0, 1) := by decide +kernel
theorem dX7_copy_106 : decode cX7_copy 106 = .ok (.ldc 81, 2) := by decide +kernel
theorem dX7_copy_108 : decode cX7_copy 108 = .ok (.invokevirtual 82, 3) := by decide +kernel
theorem dX7_copy_111 : decode cX7_copy 111 = .ok (.ireturn, 1) := by decide +kernel
theorem dX7_copy_112 : decode cX7_copy 112 = .ok (.aload 6, 2) := by decide +kernel
theorem dX7_copy_114 : decode cX7_copy 114 = .ok (.getfield 242, 3) := by decide +kernel
theorem dX7_copy_117 : decode cX7_copy 117 = .ok (.iload_n 2, 1) := by decide +kernel
theorem dX7_copy_118 : decode cX7_copy 118 = .ok (.aload 7, 2) := by decide +kernel
theorem dX7_copy_120 : decode cX7_copy 120 = .ok (.getfield 242, 3) := by decide +kernel
theorem dX7_copy_123 : decode cX7_copy 123 = .ok (.iload 4, 2) := by decide +kernel
theorem dX7_copy_125 : decode cX7_copy 125 = .ok (.iload 5, 2) := by decide +kernel
theorem dX7_copy_127 : decode cX7_copy 127 = .ok (.invokestatic 255, 3) := by decide +kernel
theorem dX7_copy_130 : decode cX7_copy 130 = .ok (.iload 5, 2) := by decide +kernel
theorem dX7_copy_132 : decode cX7_copy 132 = .ok (.ireturn, 1) := by decide +kernel
theorem dX7_lays_0 : decode cX7_lays 0 = .ok (.iload_n 1, 1) := by decide +kernel
theorem dX7_lays_1 : decode cX7_lays 1 = .ok (.iconst 3, 1) := by decide +kernel
theorem dX7_lays_2 : decode cX7_lays 2 = .ok (.invokestatic 77, 3) := by decide +kernel
theorem dX7_lays_5 : decode cX7_lays 5 = .ok (.ifCond .ne 10, 3) := by decide +kernel
theorem dX7_lays_8 : decode cX7_lays 8 = .ok (.aload_n 0, 1) := by decide +kernel
theorem dX7_lays_9 : decode cX7_lays 9 = .ok (.ldc 81, 2) := by decide +kernel
theorem dX7_lays_11 : decode cX7_lays 11 = .ok (.invokevirtual 82, 3) := by decide +kernel
theorem dX7_lays_14 : decode cX7_lays 14 = .ok (.ireturn, 1) := by decide +kernel
theorem dX7_lays_15 : decode cX7_lays 15 = .ok (.aload_n 0, 1) := by decide +kernel
theorem dX7_lays_16 : decode cX7_lays 16 = .ok (.getfield 68, 3) := by decide +kernel
theorem dX7_lays_19 : decode cX7_lays 19 = .ok (.iload_n 1, 1) := by decide +kernel
theorem dX7_lays_20 : decode cX7_lays 20 = .ok (.aaload, 1) := by decide +kernel
theorem dX7_lays_21 : decode cX7_lays 21 = .ok (.astore_n 2, 1) := by decide +kernel
theorem dX7_lays_22 : decode cX7_lays 22 = .ok (.aload_n 2, 1) := by decide +kernel
theorem dX7_lays_23 : decode cX7_lays 23 = .ok (.invokevirtual 238, 3) := by decide +kernel
theorem dX7_lays_26 : decode cX7_lays 26 = .ok (.ifCond .eq 10, 3) := by decide +kernel
theorem dX7_lays_29 : decode cX7_lays 29 = .ok (.aload_n 0, 1) := by decide +kernel
theorem dX7_lays_30 : decode cX7_lays 30 = .ok (.ldc 241, 2) := by decide +kernel
theorem dX7_lays_32 : decode cX7_lays 32 = .ok (.invokevirtual 82, 3) := by decide +kernel
theorem dX7_lays_35 : decode cX7_lays 35 = .ok (.ireturn, 1) := by decide +kernel
theorem dX7_lays_36 : decode cX7_lays 36 = .ok (.iconst 0, 1) := by decide +kernel
theorem dX7_lays_37 : decode cX7_lays 37 = .ok (.istore_n 3, 1) := by decide +kernel
theorem dX7_lays_38 : decode cX7_lays 38 = .ok (.iconst 0, 1) := by decide +kernel
theorem dX7_lays_39 : decode cX7_lays 39 = .ok (.istore 4, 2) := by decide +kernel
theorem dX7_lays_41 : decode cX7_lays 41 = .ok (.iload 4, 2) := by decide +kernel
theorem dX7_lays_43 : decode cX7_lays 43 = .ok (.bipush 7, 2) := by decide +kernel
theorem dX7_lays_45 : decode cX7_lays 45 = .ok (.if_icmp .ge 59, 3) := by decide +kernel
theorem dX7_lays_48 : decode cX7_lays 48 = .ok (.iload 4, 2) := by decide +kernel
theorem dX7_lays_50 : decode cX7_lays 50 = .ok (.aload_n 2, 1) := by decide +kernel
theorem dX7_lays_51 : decode cX7_lays 51 = .ok (.getfield 235, 3) := by decide +kernel
theorem dX7_lays_54 : decode cX7_lays 54 = .ok (.if_icmp .ge 50, 3) := by decide +kernel
theorem dX7_lays_57 : decode cX7_lays 57 = .ok (.aload_n 2, 1) := by decide +kernel
theorem dX7_lays_58 : decode cX7_lays 58 = .ok (.getfield 242, 3) := by decide +kernel
theorem dX7_lays_61 : decode cX7_lays 61 = .ok (.iload 4, 2) := by decide +kernel
theorem dX7_lays_63 : decode cX7_lays 63 = .ok (.laload, 1) := by decide +kernel
theorem dX7_lays_64 : decode cX7_lays 64 = .ok (.lstore 5, 2) := by decide +kernel
theorem dX7_lays_66 : decode cX7_lays 66 = .ok (.lload 5, 2) := by decide +kernel
theorem dX7_lays_68 : decode cX7_lays 68 = .ok (.lconst 0, 1) := by decide +kernel
theorem dX7_lays_69 : decode cX7_lays 69 = .ok (.lcmp, 1) := by decide +kernel
theorem dX7_lays_70 : decode cX7_lays 70 = .ok (.ifCond .lt 28, 3) := by decide +kernel
theorem dX7_lays_73 : decode cX7_lays 73 = .ok (.lload 5, 2) := by decide +kernel
theorem dX7_lays_75 : decode cX7_lays 75 = .ok (.ldc2_w 261, 3) := by decide +kernel
theorem dX7_lays_78 : decode cX7_lays 78 = .ok (.lcmp, 1) := by decide +kernel
theorem dX7_lays_79 : decode cX7_lays 79 = .ok (.ifCond .gt 19, 3) := by decide +kernel
theorem dX7_lays_82 : decode cX7_lays 82 = .ok (.aload_n 0, 1) := by decide +kernel
theorem dX7_lays_83 : decode cX7_lays 83 = .ok (.getfield 10, 3) := by decide +kernel
theorem dX7_lays_86 : decode cX7_lays 86 = .ok (.getfield 86, 3) := by decide +kernel
theorem dX7_lays_89 : decode cX7_lays 89 = .ok (.iload 4, 2) := by decide +kernel
theorem dX7_lays_91 : decode cX7_lays 91 = .ok (.lload 5, 2) := by decide +kernel
theorem dX7_lays_93 : decode cX7_lays 93 = .ok (.l2i, 1) := by decide +kernel
theorem dX7_lays_94 : decode cX7_lays 94 = .ok (.iastore, 1) := by decide +kernel
theorem dX7_lays_95 : decode cX7_lays 95 = .ok (.iinc 3 1, 3) := by decide +kernel
theorem dX7_lays_98 : decode cX7_lays 98 = .ok (.iinc 4 1, 3) := by decide +kernel
theorem dX7_lays_101 : decode cX7_lays 101 = .ok (.goto (-60), 3) := by decide +kernel
theorem dX7_lays_104 : decode cX7_lays 104 = .ok (.iload_n 3, 1) := by decide +kernel
theorem dX7_lays_105 : decode cX7_lays 105 = .ok (.ireturn, 1) := by decide +kernel
theorem dX7_book_0 : decode cX7_book 0 = .ok (.aload_n 0, 1) := by decide +kernel
theorem dX7_book_1 : decode cX7_book 1 = .ok (.iload_n 1, 1) := by decide +kernel
theorem dX7_book_2 : decode cX7_book 2 = .ok (.iload_n 2, 1) := by decide +kernel
theorem dX7_book_3 : decode cX7_book 3 = .ok (.invokevirtual 263, 3) := by decide +kernel
theorem dX7_book_6 : decode cX7_book 6 = .ok (.istore_n 3, 1) := by decide +kernel
theorem dX7_book_7 : decode cX7_book 7 = .ok (.iload_n 3, 1) := by decide +kernel
theorem dX7_book_8 : decode cX7_book 8 = .ok (.ifCond .eq 9, 3) := by decide +kernel
theorem dX7_book_11 : decode cX7_book 11 = .ok (.aload_n 0, 1) := by decide +kernel
theorem dX7_book_12 : decode cX7_book 12 = .ok (.iload_n 3, 1) := by decide +kernel
theorem dX7_book_13 : decode cX7_book 13 = .ok (.invokevirtual 82, 3) := by decide +kernel
theorem dX7_book_16 : decode cX7_book 16 = .ok (.ireturn, 1) := by decide +kernel
theorem dX7_book_17 : decode cX7_book 17 = .ok (.aload_n 0, 1) := by decide +kernel
theorem dX7_book_18 : decode cX7_book 18 = .ok (.getfield 68, 3) := by decide +kernel
theorem dX7_book_21 : decode cX7_book 21 = .ok (.iload_n 1, 1) := by decide +kernel
theorem dX7_book_22 : decode cX7_book 22 = .ok (.aaload, 1) := by decide +kernel
theorem dX7_book_23 : decode cX7_book 23 = .ok (.astore 4, 2) := by decide +kernel
theorem dX7_book_25 : decode cX7_book 25 = .ok (.aload_n 0, 1) := by decide +kernel
theorem dX7_book_26 : decode cX7_book 26 = .ok (.getfield 29, 3) := by decide +kernel
theorem dX7_book_29 : decode cX7_book 29 = .ok (.aload_n 0, 1) := by decide +kernel
theorem dX7_book_30 : decode cX7_book 30 = .ok (.getfield 10, 3) := by decide +kernel
theorem dX7_book_33 : decode cX7_book 33 = .ok (.getfield 124, 3) := by decide +kernel
theorem dX7_book_36 : decode cX7_book 36 = .ok (.iload_n 2, 1) := by decide +kernel
theorem dX7_book_37 : decode cX7_book 37 = .ok (.aaload, 1) := by decide +kernel
theorem dX7_book_38 : decode cX7_book 38 = .ok (.invokevirtual 181, 3) := by decide +kernel
theorem dX7_book_41 : decode cX7_book 41 = .ok (.iconst 0, 1) := by decide +kernel
theorem dX7_book_42 : decode cX7_book 42 = .ok (.istore 5, 2) := by decide +kernel
theorem dX7_book_44 : decode cX7_book 44 = .ok (.iload 5, 2) := by decide +kernel
theorem dX7_book_46 : decode cX7_book 46 = .ok (.aload 4, 2) := by decide +kernel
theorem dX7_book_48 : decode cX7_book 48 = .ok (.getfield 235, 3) := by decide +kernel
theorem dX7_book_51 : decode cX7_book 51 = .ok (.if_icmp .ge 37, 3) := by decide +kernel
theorem dX7_book_54 : decode cX7_book 54 = .ok (.aload 4, 2) := by decide +kernel
theorem dX7_book_56 : decode cX7_book 56 = .ok (.iload 5, 2) := by decide +kernel
theorem dX7_book_58 : decode cX7_book 58 = .ok (.aload_n 0, 1) := by decide +kernel
theorem dX7_book_59 : decode cX7_book 59 = .ok (.getfield 29, 3) := by decide +kernel
theorem dX7_book_62 : decode cX7_book 62 = .ok (.getfield 140, 3) := by decide +kernel
theorem dX7_book_65 : decode cX7_book 65 = .ok (.i2l, 1) := by decide +kernel
theorem dX7_book_66 : decode cX7_book 66 = .ok (.invokevirtual 246, 3) := by decide +kernel
theorem dX7_book_69 : decode cX7_book 69 = .ok (.aload_n 0, 1) := by decide +kernel
theorem dX7_book_70 : decode cX7_book 70 = .ok (.getfield 10, 3) := by decide +kernel
theorem dX7_book_73 : decode cX7_book 73 = .ok (.aload_n 0, 1) := by decide +kernel
theorem dX7_book_74 : decode cX7_book 74 = .ok (.getfield 29, 3) := by decide +kernel
theorem dX7_book_77 : decode cX7_book 77 = .ok (.iload 5, 2) := by decide +kernel
theorem dX7_book_79 : decode cX7_book 79 = .ok (.invokevirtual 185, 3) := by decide +kernel
theorem dX7_book_82 : decode cX7_book 82 = .ok (.iinc 5 1, 3) := by decide +kernel
theorem dX7_book_85 : decode cX7_book 85 = .ok (.goto (-41), 3) := by decide +kernel
theorem dX7_book_88 : decode cX7_book 88 = .ok (.aload 4, 2) := by decide +kernel
theorem dX7_book_90 : decode cX7_book 90 = .ok (.getfield 235, 3) := by decide +kernel
theorem dX7_book_93 : decode cX7_book 93 = .ok (.ireturn, 1) := by decide +kernel
theorem dX7_read_0 : decode cX7_read 0 = .ok (.aload_n 0, 1) := by decide +kernel
theorem dX7_read_1 : decode cX7_read 1 = .ok (.iload_n 1, 1) := by decide +kernel
theorem dX7_read_2 : decode cX7_read 2 = .ok (.iload_n 2, 1) := by decide +kernel
theorem dX7_read_3 : decode cX7_read 3 = .ok (.invokevirtual 263, 3) := by decide +kernel
theorem dX7_read_6 : decode cX7_read 6 = .ok (.istore_n 3, 1) := by decide +kernel
theorem dX7_read_7 : decode cX7_read 7 = .ok (.iload_n 3, 1) := by decide +kernel
theorem dX7_read_8 : decode cX7_read 8 = .ok (.ifCond .eq 9, 3) := by decide +kernel
theorem dX7_read_11 : decode cX7_read 11 = .ok (.aload_n 0, 1) := by decide +kernel
theorem dX7_read_12 : decode cX7_read 12 = .ok (.iload_n 3, 1) := by decide +kernel
theorem dX7_read_13 : decode cX7_read 13 = .ok (.invokevirtual 82, 3) := by decide +kernel
theorem dX7_read_16 : decode cX7_read 16 = .ok (.ireturn, 1) := by decide +kernel
theorem dX7_read_17 : decode cX7_read 17 = .ok (.iconst 0, 1) := by decide +kernel
theorem dX7_read_18 : decode cX7_read 18 = .ok (.istore 4, 2) := by decide +kernel
theorem dX7_read_20 : decode cX7_read 20 = .ok (.iconst 0, 1) := by decide +kernel
theorem dX7_read_21 : decode cX7_read 21 = .ok (.istore 5, 2) := by decide +kernel
theorem dX7_read_23 : decode cX7_read 23 = .ok (.iload 5, 2) := by decide +kernel
theorem dX7_read_25 : decode cX7_read 25 = .ok (.bipush 6, 2) := by decide +kernel
theorem dX7_read_27 : decode cX7_read 27 = .ok (.if_icmp .ge 75, 3) := by decide +kernel
theorem dX7_read_30 : decode cX7_read 30 = .ok (.iconst 0, 1) := by decide +kernel
theorem dX7_read_31 : decode cX7_read 31 = .ok (.istore 6, 2) := by decide +kernel
theorem dX7_read_33 : decode cX7_read 33 = .ok (.iload 6, 2) := by decide +kernel
theorem dX7_read_35 : decode cX7_read 35 = .ok (.bipush 8, 2) := by decide +kernel
theorem dX7_read_37 : decode cX7_read 37 = .ok (.if_icmp .ge 59, 3) := by decide +kernel
theorem dX7_read_40 : decode cX7_read 40 = .ok (.aload_n 0, 1) := by decide +kernel
theorem dX7_read_41 : decode cX7_read 41 = .ok (.getfield 29, 3) := by decide +kernel
theorem dX7_read_44 : decode cX7_read 44 = .ok (.aload_n 0, 1) := by decide +kernel
theorem dX7_read_45 : decode cX7_read 45 = .ok (.getfield 10, 3) := by decide +kernel
theorem dX7_read_48 : decode cX7_read 48 = .ok (.getfield 124, 3) := by decide +kernel
theorem dX7_read_51 : decode cX7_read 51 = .ok (.iload_n 2, 1) := by decide +kernel
theorem dX7_read_52 : decode cX7_read 52 = .ok (.aaload, 1) := by decide +kernel
theorem dX7_read_53 : decode cX7_read 53 = .ok (.invokevirtual 181, 3) := by decide +kernel
theorem dX7_read_56 : decode cX7_read 56 = .ok (.aload_n 0, 1) := by decide +kernel
theorem dX7_read_57 : decode cX7_read 57 = .ok (.getfield 29, 3) := by decide +kernel
theorem dX7_read_60 : decode cX7_read 60 = .ok (.iload 5, 2) := by decide +kernel
theorem dX7_read_62 : decode cX7_read 62 = .ok (.putfield 131, 3) := by decide +kernel
theorem dX7_read_65 : decode cX7_read 65 = .ok (.aload_n 0, 1) := by decide +kernel
theorem dX7_read_66 : decode cX7_read 66 = .ok (.getfield 29, 3) := by decide +kernel
theorem dX7_read_69 : decode cX7_read 69 = .ok (.iload 6, 2) := by decide +kernel
theorem dX7_read_71 : decode cX7_read 71 = .ok (.putfield 137, 3) := by decide +kernel
theorem dX7_read_74 : decode cX7_read 74 = .ok (.aload_n 0, 1) := by decide +kernel
theorem dX7_read_75 : decode cX7_read 75 = .ok (.aload_n 0, 1) := by decide +kernel
theorem dX7_read_76 : decode cX7_read 76 = .ok (.getfield 68, 3) := by decide +kernel
theorem dX7_read_79 : decode cX7_read 79 = .ok (.iload_n 1, 1) := by decide +kernel
theorem dX7_read_80 : decode cX7_read 80 = .ok (.aaload, 1) := by decide +kernel
theorem dX7_read_81 : decode cX7_read 81 = .ok (.invokevirtual 266, 3) := by decide +kernel
theorem dX7_read_84 : decode cX7_read 84 = .ok (.ifCond .eq 6, 3) := by decide +kernel
theorem dX7_read_87 : decode cX7_read 87 = .ok (.iinc 4 1, 3) := by decide +kernel
theorem dX7_read_90 : decode cX7_read 90 = .ok (.iinc 6 1, 3) := by decide +kernel
theorem dX7_read_93 : decode cX7_read 93 = .ok (.goto (-60), 3) := by decide +kernel
theorem dX7_read_96 : decode cX7_read 96 = .ok (.iinc 5 1, 3) := by decide +kernel
theorem dX7_read_99 : decode cX7_read 99 = .ok (.goto (-76), 3) := by decide +kernel
theorem dX7_read_102 : decode cX7_read 102 = .ok (.iload 4, 2) := by decide +kernel
theorem dX7_read_104 : decode cX7_read 104 = .ok (.ireturn, 1) := by decide +kernel
theorem dX7_image_0 : decode cX7_image 0 = .ok (.aload_n 0, 1) := by decide +kernel
theorem dX7_image_1 : decode cX7_image 1 = .ok (.getfield 19, 3) := by decide +kernel
theorem dX7_image_4 : decode cX7_image 4 = .ok (.aload_n 0, 1) := by decide +kernel
theorem dX7_image_5 : decode cX7_image 5 = .ok (.getfield 10, 3) := by decide +kernel
theorem dX7_image_8 : decode cX7_image 8 = .ok (.invokevirtual 207, 3) := by decide +kernel
theorem dX7_image_11 : decode cX7_image 11 = .ok (.aload_n 0, 1) := by decide +kernel
theorem dX7_image_12 : decode cX7_image 12 = .ok (.iconst 1, 1) := by decide +kernel
theorem dX7_image_13 : decode cX7_image 13 = .ok (.putfield 22, 3) := by decide +kernel
theorem dX7_image_16 : decode cX7_image 16 = .ok (.iconst 1, 1) := by decide +kernel
theorem dX7_image_17 : decode cX7_image 17 = .ok (.ireturn, 1) := by decide +kernel
theorem dX7_undo_0 : decode cX7_undo 0 = .ok (.aload_n 0, 1) := by decide +kernel
theorem dX7_undo_1 : decode cX7_undo 1 = .ok (.getfield 22, 3) := by decide +kernel
theorem dX7_undo_4 : decode cX7_undo 4 = .ok (.ifCond .ne 10, 3) := by decide +kernel
theorem dX7_undo_7 : decode cX7_undo 7 = .ok (.aload_n 0, 1) := by decide +kernel
theorem dX7_undo_8 : decode cX7_undo 8 = .ok (.ldc 108, 2) := by decide +kernel
theorem dX7_undo_10 : decode cX7_undo 10 = .ok (.invokevirtual 82, 3) := by decide +kernel
theorem dX7_undo_13 : decode cX7_undo 13 = .ok (.ireturn, 1) := by decide +kernel
theorem dX7_undo_14 : decode cX7_undo 14 = .ok (.aload_n 0, 1) := by decide +kernel
theorem dX7_undo_15 : decode cX7_undo 15 = .ok (.getfield 10, 3) := by decide +kernel
theorem dX7_undo_18 : decode cX7_undo 18 = .ok (.aload_n 0, 1) := by decide +kernel
theorem dX7_undo_19 : decode cX7_undo 19 = .ok (.getfield 19, 3) := by decide +kernel
theorem dX7_undo_22 : decode cX7_undo 22 = .ok (.invokevirtual 207, 3) := by decide +kernel
theorem dX7_undo_25 : decode cX7_undo 25 = .ok (.aload_n 0, 1) := by decide +kernel
theorem dX7_undo_26 : decode cX7_undo 26 = .ok (.getfield 10, 3) := by decide +kernel
theorem dX7_undo_29 : decode cX7_undo 29 = .ok (.getfield 118, 3) := by decide +kernel
theorem dX7_undo_32 : decode cX7_undo 32 = .ok (.ireturn, 1) := by decide +kernel
theorem dX7_tear_0 : decode cX7_tear 0 = .ok (.aload_n 0, 1) := by decide +kernel
theorem dX7_tear_1 : decode cX7_tear 1 = .ok (.getfield 22, 3) := by decide +kernel
theorem dX7_tear_4 : decode cX7_tear 4 = .ok (.ifCond .eq 7, 3) := by decide +kernel
theorem dX7_tear_7 : decode cX7_tear 7 = .ok (.iconst 1, 1) := by decide +kernel
theorem dX7_tear_8 : decode cX7_tear 8 = .ok (.goto 4, 3) := by decide +kernel
theorem dX7_tear_11 : decode cX7_tear 11 = .ok (.iconst 0, 1) := by decide +kernel
theorem dX7_tear_12 : decode cX7_tear 12 = .ok (.istore_n 1, 1) := by decide +kernel
theorem dX7_tear_13 : decode cX7_tear 13 = .ok (.aload_n 0, 1) := by decide +kernel
theorem dX7_tear_14 : decode cX7_tear 14 = .ok (.iconst 0, 1) := by decide +kernel
theorem dX7_tear_15 : decode cX7_tear 15 = .ok (.putfield 22, 3) := by decide +kernel
theorem dX7_tear_18 : decode cX7_tear 18 = .ok (.iload_n 1, 1) := by decide +kernel
theorem dX7_tear_19 : decode cX7_tear 19 = .ok (.ireturn, 1) := by decide +kernel
theorem dX7_count_0 : decode cX7_count 0 = .ok (.iload_n 1, 1) := by decide +kernel
theorem dX7_count_1 : decode cX7_count 1 = .ok (.tableswitch 66 0 3 #[31, 39, 47, 58], 31) := by decide +kernel
theorem dX7_count_32 : decode cX7_count 32 = .ok (.aload_n 0, 1) := by decide +kernel
theorem dX7_count_33 : decode cX7_count 33 = .ok (.getfield 10, 3) := by decide +kernel
theorem dX7_count_36 : decode cX7_count 36 = .ok (.getfield 118, 3) := by decide +kernel
theorem dX7_count_39 : decode cX7_count 39 = .ok (.ireturn, 1) := by decide +kernel
theorem dX7_count_40 : decode cX7_count 40 = .ok (.aload_n 0, 1) := by decide +kernel
theorem dX7_count_41 : decode cX7_count 41 = .ok (.getfield 53, 3) := by decide +kernel
theorem dX7_count_44 : decode cX7_count 44 = .ok (.getfield 222, 3) := by decide +kernel
theorem dX7_count_47 : decode cX7_count 47 = .ok (.ireturn, 1) := by decide +kernel
theorem dX7_count_48 : decode cX7_count 48 = .ok (.aload_n 0, 1) := by decide +kernel
theorem dX7_count_49 : decode cX7_count 49 = .ok (.getfield 10, 3) := by decide +kernel
theorem dX7_count_52 : decode cX7_count 52 = .ok (.getfield 172, 3) := by decide +kernel
theorem dX7_count_55 : decode cX7_count 55 = .ok (.invokestatic 270, 3) := by decide +kernel
theorem dX7_count_58 : decode cX7_count 58 = .ok (.ireturn, 1) := by decide +kernel
theorem dX7_count_59 : decode cX7_count 59 = .ok (.aload_n 0, 1) := by decide +kernel
theorem dX7_count_60 : decode cX7_count 60 = .ok (.getfield 10, 3) := by decide +kernel
theorem dX7_count_63 : decode cX7_count 63 = .ok (.invokevirtual 273, 3) := by decide +kernel
theorem dX7_count_66 : decode cX7_count 66 = .ok (.ireturn, 1) := by decide +kernel
theorem dX7_count_67 : decode cX7_count 67 = .ok (.aload_n 0, 1) := by decide +kernel
theorem dX7_count_68 : decode cX7_count 68 = .ok (.ldc 81, 2) := by decide +kernel
theorem dX7_count_70 : decode cX7_count 70 = .ok (.invokevirtual 82, 3) := by decide +kernel
theorem dX7_count_73 : decode cX7_count 73 = .ok (.ireturn, 1) := by decide +kernel
theorem dX7_status_0 : decode cX7_status 0 = .ok (.iload_n 1, 1) := by decide +kernel
theorem dX7_status_1 : decode cX7_status 1 = .ok (.iconst (-1), 1) := by decide +kernel
theorem dX7_status_2 : decode cX7_status 2 = .ok (.if_icmp .lt 9, 3) := by decide +kernel
theorem dX7_status_5 : decode cX7_status 5 = .ok (.iload_n 1, 1) := by decide +kernel
theorem dX7_status_6 : decode cX7_status 6 = .ok (.bipush 7, 2) := by decide +kernel
theorem dX7_status_8 : decode cX7_status 8 = .ok (.if_icmp .lt 10, 3) := by decide +kernel
theorem dX7_status_11 : decode cX7_status 11 = .ok (.aload_n 0, 1) := by decide +kernel
theorem dX7_status_12 : decode cX7_status 12 = .ok (.ldc 81, 2) := by decide +kernel
theorem dX7_status_14 : decode cX7_status 14 = .ok (.invokevirtual 82, 3) := by decide +kernel
theorem dX7_status_17 : decode cX7_status 17 = .ok (.ireturn, 1) := by decide +kernel
theorem dX7_status_18 : decode cX7_status 18 = .ok (.iload_n 1, 1) := by decide +kernel
theorem dX7_status_19 : decode cX7_status 19 = .ok (.ifCond .lt 10, 3) := by decide +kernel
theorem dX7_status_22 : decode cX7_status 22 = .ok (.aload_n 0, 1) := by decide +kernel
theorem dX7_status_23 : decode cX7_status 23 = .ok (.getfield 73, 3) := by decide +kernel
theorem dX7_status_26 : decode cX7_status 26 = .ok (.iload_n 1, 1) := by decide +kernel
theorem dX7_status_27 : decode cX7_status 27 = .ok (.iaload, 1) := by decide +kernel
theorem dX7_status_28 : decode cX7_status 28 = .ok (.ireturn, 1) := by decide +kernel
theorem dX7_status_29 : decode cX7_status 29 = .ok (.iconst 0, 1) := by decide +kernel
theorem dX7_status_30 : decode cX7_status 30 = .ok (.istore_n 2, 1) := by decide +kernel
theorem dX7_status_31 : decode cX7_status 31 = .ok (.iconst 0, 1) := by decide +kernel
theorem dX7_status_32 : decode cX7_status 32 = .ok (.istore_n 3, 1) := by decide +kernel
theorem dX7_status_33 : decode cX7_status 33 = .ok (.iload_n 3, 1) := by decide +kernel
theorem dX7_status_34 : decode cX7_status 34 = .ok (.bipush 7, 2) := by decide +kernel
theorem dX7_status_36 : decode cX7_status 36 = .ok (.if_icmp .ge 18, 3) := by decide +kernel
theorem dX7_status_39 : decode cX7_status 39 = .ok (.iload_n 2, 1) := by decide +kernel
theorem dX7_status_40 : decode cX7_status 40 = .ok (.aload_n 0, 1) := by decide +kernel
theorem dX7_status_41 : decode cX7_status 41 = .ok (.getfield 73, 3) := by decide +kernel
theorem dX7_status_44 : decode cX7_status 44 = .ok (.iload_n 3, 1) := by decide +kernel
theorem dX7_status_45 : decode cX7_status 45 = .ok (.iaload, 1) := by decide +kernel
theorem dX7_status_46 : decode cX7_status 46 = .ok (.iadd, 1) := by decide +kernel
theorem dX7_status_47 : decode cX7_status 47 = .ok (.istore_n 2, 1) := by decide +kernel
theorem dX7_status_48 : decode cX7_status 48 = .ok (.iinc 3 1, 3) := by decide +kernel
theorem dX7_status_51 : decode cX7_status 51 = .ok (.goto (-18), 3) := by decide +kernel
theorem dX7_status_54 : decode cX7_status 54 = .ok (.iload_n 2, 1) := by decide +kernel
theorem dX7_status_55 : decode cX7_status 55 = .ok (.ireturn, 1) := by decide +kernel
theorem dX7_finding_0 : decode cX7_finding 0 = .ok (.ldc 81, 2) := by decide +kernel
theorem dX7_finding_2 : decode cX7_finding 2 = .ok (.iload_n 1, 1) := by decide +kernel
theorem dX7_finding_3 : decode cX7_finding 3 = .ok (.isub, 1) := by decide +kernel
theorem dX7_finding_4 : decode cX7_finding 4 = .ok (.istore_n 2, 1) := by decide +kernel
theorem dX7_finding_5 : decode cX7_finding 5 = .ok (.iload_n 2, 1) := by decide +kernel
theorem dX7_finding_6 : decode cX7_finding 6 = .ok (.bipush 6, 2) := by decide +kernel
theorem dX7_finding_8 : decode cX7_finding 8 = .ok (.invokestatic 77, 3) := by decide +kernel
theorem dX7_finding_11 : decode cX7_finding 11 = .ok (.ifCond .eq 13, 3) := by decide +kernel
theorem dX7_finding_14 : decode cX7_finding 14 = .ok (.aload_n 0, 1) := by decide +kernel
theorem dX7_finding_15 : decode cX7_finding 15 = .ok (.getfield 73, 3) := by decide +kernel
theorem dX7_finding_18 : decode cX7_finding 18 = .ok (.iload_n 2, 1) := by decide +kernel
theorem dX7_finding_19 : decode cX7_finding 19 = .ok (.dup2, 1) := by decide +kernel
theorem dX7_finding_20 : decode cX7_finding 20 = .ok (.iaload, 1) := by decide +kernel
theorem dX7_finding_21 : decode cX7_finding 21 = .ok (.iconst 1, 1) := by decide +kernel
theorem dX7_finding_22 : decode cX7_finding 22 = .ok (.iadd, 1) := by decide +kernel
theorem dX7_finding_23 : decode cX7_finding 23 = .ok (.iastore, 1) := by decide +kernel
theorem dX7_finding_24 : decode cX7_finding 24 = .ok (.iload_n 1, 1) := by decide +kernel
theorem dX7_finding_25 : decode cX7_finding 25 = .ok (.ireturn, 1) := by decide +kernel
theorem dX7_sheetFinding_0 : decode cX7_sheetFinding 0 = .ok (.iload_n 1, 1) := by decide +kernel
theorem dX7_sheetFinding_1 : decode cX7_sheetFinding 1 = .ok (.iconst 3, 1) := by decide +kernel
theorem dX7_sheetFinding_2 : decode cX7_sheetFinding 2 = .ok (.invokestatic 77, 3) := by decide +kernel
theorem dX7_sheetFinding_5 : decode cX7_sheetFinding 5 = .ok (.ifCond .ne 6, 3) := by decide +kernel
theorem dX7_sheetFinding_8 : decode cX7_sheetFinding 8 = .ok (.ldc 81, 2) := by decide +kernel
theorem dX7_sheetFinding_10 : decode cX7_sheetFinding 10 = .ok (.ireturn, 1) := by decide +kernel
theorem dX7_sheetFinding_11 : decode cX7_sheetFinding 11 = .ok (.aload_n 0, 1) := by decide +kernel
theorem dX7_sheetFinding_12 : decode cX7_sheetFinding 12 = .ok (.getfield 68, 3) := by decide +kernel
theorem dX7_sheetFinding_15 : decode cX7_sheetFinding 15 = .ok (.iload_n 1, 1) := by decide +kernel
theorem dX7_sheetFinding_16 : decode cX7_sheetFinding 16 = .ok (.aaload, 1) := by decide +kernel
theorem dX7_sheetFinding_17 : decode cX7_sheetFinding 17 = .ok (.invokevirtual 238, 3) := by decide +kernel
theorem dX7_sheetFinding_20 : decode cX7_sheetFinding 20 = .ok (.ifCond .eq 6, 3) := by decide +kernel
theorem dX7_sheetFinding_23 : decode cX7_sheetFinding 23 = .ok (.ldc 241, 2) := by decide +kernel
theorem dX7_sheetFinding_25 : decode cX7_sheetFinding 25 = .ok (.ireturn, 1) := by decide +kernel
theorem dX7_sheetFinding_26 : decode cX7_sheetFinding 26 = .ok (.aload_n 0, 1) := by decide +kernel
theorem dX7_sheetFinding_27 : decode cX7_sheetFinding 27 = .ok (.getfield 10, 3) := by decide +kernel
theorem dX7_sheetFinding_30 : decode cX7_sheetFinding 30 = .ok (.iload_n 2, 1) := by decide +kernel
theorem dX7_sheetFinding_31 : decode cX7_sheetFinding 31 = .ok (.invokevirtual 121, 3) := by decide +kernel
theorem dX7_sheetFinding_34 : decode cX7_sheetFinding 34 = .ok (.ifCond .eq 7, 3) := by decide +kernel
theorem dX7_sheetFinding_37 : decode cX7_sheetFinding 37 = .ok (.iconst 0, 1) := by decide +kernel
theorem dX7_sheetFinding_38 : decode cX7_sheetFinding 38 = .ok (.goto 5, 3) := by decide +kernel
theorem dX7_sheetFinding_41 : decode cX7_sheetFinding 41 = .ok (.ldc 81, 2) := by decide +kernel
theorem dX7_sheetFinding_43 : decode cX7_sheetFinding 43 = .ok (.ireturn, 1) := by decide +kernel
theorem dX7_walkerMakes_0 : decode cX7_walkerMakes 0 = .ok (.iconst 0, 1) := by decide +kernel
theorem dX7_walkerMakes_1 : decode cX7_walkerMakes 1 = .ok (.istore_n 2, 1) := by decide +kernel
theorem dX7_walkerMakes_2 : decode cX7_walkerMakes 2 = .ok (.iload_n 2, 1) := by decide +kernel
theorem dX7_walkerMakes_3 : decode cX7_walkerMakes 3 = .ok (.aload_n 1, 1) := by decide +kernel
theorem dX7_walkerMakes_4 : decode cX7_walkerMakes 4 = .ok (.getfield 235, 3) := by decide +kernel
theorem dX7_walkerMakes_7 : decode cX7_walkerMakes 7 = .ok (.if_icmp .ge 41, 3) := by decide +kernel
theorem dX7_walkerMakes_10 : decode cX7_walkerMakes 10 = .ok (.aload_n 1, 1) := by decide +kernel
theorem dX7_walkerMakes_11 : decode cX7_walkerMakes 11 = .ok (.getfield 242, 3) := by decide +kernel
theorem dX7_walkerMakes_14 : decode cX7_walkerMakes 14 = .ok (.iload_n 2, 1) := by decide +kernel
theorem dX7_walkerMakes_15 : decode cX7_walkerMakes 15 = .ok (.laload, 1) := by decide +kernel
theorem dX7_walkerMakes_16 : decode cX7_walkerMakes 16 = .ok (.aload_n 0, 1) := by decide +kernel
theorem dX7_walkerMakes_17 : decode cX7_walkerMakes 17 = .ok (.getfield 29, 3) := by decide +kernel
theorem dX7_walkerMakes_20 : decode cX7_walkerMakes 20 = .ok (.getfield 140, 3) := by decide +kernel
theorem dX7_walkerMakes_23 : decode cX7_walkerMakes 23 = .ok (.i2l, 1) := by decide +kernel
theorem dX7_walkerMakes_24 : decode cX7_walkerMakes 24 = .ok (.lcmp, 1) := by decide +kernel
theorem dX7_walkerMakes_25 : decode cX7_walkerMakes 25 = .ok (.ifCond .eq 5, 3) := by decide +kernel
theorem dX7_walkerMakes_28 : decode cX7_walkerMakes 28 = .ok (.iconst 0, 1) := by decide +kernel
theorem dX7_walkerMakes_29 : decode cX7_walkerMakes 29 = .ok (.ireturn, 1) := by decide +kernel
theorem dX7_walkerMakes_30 : decode cX7_walkerMakes 30 = .ok (.aload_n 0, 1) := by decide +kernel
theorem dX7_walkerMakes_31 : decode cX7_walkerMakes 31 = .ok (.getfield 10, 3) := by decide +kernel
theorem dX7_walkerMakes_34 : decode cX7_walkerMakes 34 = .ok (.aload_n 0, 1) := by decide +kernel
theorem dX7_walkerMakes_35 : decode cX7_walkerMakes 35 = .ok (.getfield 29, 3) := by decide +kernel
theorem dX7_walkerMakes_38 : decode cX7_walkerMakes 38 = .ok (.iload_n 2, 1) := by decide +kernel
theorem dX7_walkerMakes_39 : decode cX7_walkerMakes 39 = .ok (.invokevirtual 185, 3) := by decide +kernel
theorem dX7_walkerMakes_42 : decode cX7_walkerMakes 42 = .ok (.iinc 2 1, 3) := by decide +kernel
theorem dX7_walkerMakes_45 : decode cX7_walkerMakes 45 = .ok (.goto (-43), 3) := by decide +kernel
theorem dX7_walkerMakes_48 : decode cX7_walkerMakes 48 = .ok (.iconst 1, 1) := by decide +kernel
theorem dX7_walkerMakes_49 : decode cX7_walkerMakes 49 = .ok (.ireturn, 1) := by decide +kernel
theorem dX7_within_0 : decode cX7_within 0 = .ok (.iload_n 0, 1) := by decide +kernel
theorem dX7_within_1 : decode cX7_within 1 = .ok (.ifCond .lt 12, 3) := by decide +kernel
theorem dX7_within_4 : decode cX7_within 4 = .ok (.iload_n 0, 1) := by decide +kernel
theorem dX7_within_5 : decode cX7_within 5 = .ok (.iload_n 1, 1) := by decide +kernel
theorem dX7_within_6 : decode cX7_within 6 = .ok (.if_icmp .gt 7, 3) := by decide +kernel
theorem dX7_within_9 : decode cX7_within 9 = .ok (.iconst 1, 1) := by decide +kernel
theorem dX7_within_10 : decode cX7_within 10 = .ok (.goto 4, 3) := by decide +kernel
theorem dX7_within_13 : decode cX7_within 13 = .ok (.iconst 0, 1) := by decide +kernel
theorem dX7_within_14 : decode cX7_within 14 = .ok (.ireturn, 1) := by decide +kernel
theorem dX7_isSpan_0 : decode cX7_isSpan 0 = .ok (.iload_n 0, 1) := by decide +kernel
theorem dX7_isSpan_1 : decode cX7_isSpan 1 = .ok (.iconst 1, 1) := by decide +kernel
theorem dX7_isSpan_2 : decode cX7_isSpan 2 = .ok (.if_icmp .lt 12, 3) := by decide +kernel
theorem dX7_isSpan_5 : decode cX7_isSpan 5 = .ok (.iload_n 0, 1) := by decide +kernel
theorem dX7_isSpan_6 : decode cX7_isSpan 6 = .ok (.iload_n 1, 1) := by decide +kernel
theorem dX7_isSpan_7 : decode cX7_isSpan 7 = .ok (.if_icmp .gt 7, 3) := by decide +kernel
theorem dX7_isSpan_10 : decode cX7_isSpan 10 = .ok (.iconst 1, 1) := by decide +kernel
theorem dX7_isSpan_11 : decode cX7_isSpan 11 = .ok (.goto 4, 3) := by decide +kernel
theorem dX7_isSpan_14 : decode cX7_isSpan 14 = .ok (.iconst 0, 1) := by decide +kernel
theorem dX7_isSpan_15 : decode cX7_isSpan 15 = .ok (.ireturn, 1) := by decide +kernel
theorem dX7_mostOf_0 : decode cX7_mostOf 0 = .ok (.iload_n 0, 1) := by decide +kernel
theorem dX7_mostOf_1 : decode cX7_mostOf 1 = .ok (.iconst 1, 1) := by decide +kernel
theorem dX7_mostOf_2 : decode cX7_mostOf 2 = .ok (.if_icmp .ne 6, 3) := by decide +kernel
theorem dX7_mostOf_5 : decode cX7_mostOf 5 = .ok (.bipush 35, 2) := by decide +kernel
theorem dX7_mostOf_7 : decode cX7_mostOf 7 = .ok (.ireturn, 1) := by decide +kernel
theorem dX7_mostOf_8 : decode cX7_mostOf 8 = .ok (.iload_n 0, 1) := by decide +kernel
theorem dX7_mostOf_9 : decode cX7_mostOf 9 = .ok (.iconst 2, 1) := by decide +kernel
theorem dX7_mostOf_10 : decode cX7_mostOf 10 = .ok (.if_icmp .ne 8, 3) := by decide +kernel
theorem dX7_mostOf_13 : decode cX7_mostOf 13 = .ok (.bipush 7, 2) := by decide +kernel
theorem dX7_mostOf_15 : decode cX7_mostOf 15 = .ok (.goto 5, 3) := by decide +kernel
theorem dX7_mostOf_18 : decode cX7_mostOf 18 = .ok (.ldc 221, 2) := by decide +kernel
theorem dX7_mostOf_20 : decode cX7_mostOf 20 = .ok (.ireturn, 1) := by decide +kernel
theorem dX7_kindAbove_0 : decode cX7_kindAbove 0 = .ok (.iload_n 0, 1) := by decide +kernel
theorem dX7_kindAbove_1 : decode cX7_kindAbove 1 = .ok (.iconst 4, 1) := by decide +kernel
theorem dX7_kindAbove_2 : decode cX7_kindAbove 2 = .ok (.if_icmp .ne 5, 3) := by decide +kernel
theorem dX7_kindAbove_5 : decode cX7_kindAbove 5 = .ok (.iconst 1, 1) := by decide +kernel
theorem dX7_kindAbove_6 : decode cX7_kindAbove 6 = .ok (.ireturn, 1) := by decide +kernel
theorem dX7_kindAbove_7 : decode cX7_kindAbove 7 = .ok (.iload_n 0, 1) := by decide +kernel
theorem dX7_kindAbove_8 : decode cX7_kindAbove 8 = .ok (.iconst 5, 1) := by decide +kernel
theorem dX7_kindAbove_9 : decode cX7_kindAbove 9 = .ok (.if_icmp .ne 7, 3) := by decide +kernel
theorem dX7_kindAbove_12 : decode cX7_kindAbove 12 = .ok (.iconst 2, 1) := by decide +kernel
theorem dX7_kindAbove_13 : decode cX7_kindAbove 13 = .ok (.goto 4, 3) := by decide +kernel
theorem dX7_kindAbove_16 : decode cX7_kindAbove 16 = .ok (.iconst 0, 1) := by decide +kernel
theorem dX7_kindAbove_17 : decode cX7_kindAbove 17 = .ok (.ireturn, 1) := by decide +kernel
theorem dX7_isUnder_0 : decode cX7_isUnder 0 = .ok (.iload_n 0, 1) := by decide +kernel
theorem dX7_isUnder_1 : decode cX7_isUnder 1 = .ok (.iload_n 1, 1) := by decide +kernel
theorem dX7_isUnder_2 : decode cX7_isUnder 2 = .ok (.if_icmp .eq 22, 3) := by decide +kernel
theorem dX7_isUnder_5 : decode cX7_isUnder 5 = .ok (.iload_n 0, 1) := by decide +kernel
theorem dX7_isUnder_6 : decode cX7_isUnder 6 = .ok (.invokestatic 276, 3) := by decide +kernel
theorem dX7_isUnder_9 : decode cX7_isUnder 9 = .ok (.iload_n 1, 1) := by decide +kernel
theorem dX7_isUnder_10 : decode cX7_isUnder 10 = .ok (.if_icmp .eq 14, 3) := by decide +kernel
theorem dX7_isUnder_13 : decode cX7_isUnder 13 = .ok (.iload_n 0, 1) := by decide +kernel
theorem dX7_isUnder_14 : decode cX7_isUnder 14 = .ok (.invokestatic 276, 3) := by decide +kernel
theorem dX7_isUnder_17 : decode cX7_isUnder 17 = .ok (.invokestatic 276, 3) := by decide +kernel
theorem dX7_isUnder_20 : decode cX7_isUnder 20 = .ok (.iload_n 1, 1) := by decide +kernel
theorem dX7_isUnder_21 : decode cX7_isUnder 21 = .ok (.if_icmp .ne 7, 3) := by decide +kernel
theorem dX7_isUnder_24 : decode cX7_isUnder 24 = .ok (.iconst 1, 1) := by decide +kernel
theorem dX7_isUnder_25 : decode cX7_isUnder 25 = .ok (.goto 4, 3) := by decide +kernel
theorem dX7_isUnder_28 : decode cX7_isUnder 28 = .ok (.iconst 0, 1) := by decide +kernel
theorem dX7_isUnder_29 : decode cX7_isUnder 29 = .ok (.ireturn, 1) := by decide +kernel
theorem dX7_cellBehind_0 : decode cX7_cellBehind 0 = .ok (.iload_n 1, 1) := by decide +kernel
theorem dX7_cellBehind_1 : decode cX7_cellBehind 1 = .ok (.ifCond .lt 9, 3) := by decide +kernel
theorem dX7_cellBehind_4 : decode cX7_cellBehind 4 = .ok (.iload_n 1, 1) := by decide +kernel
theorem dX7_cellBehind_5 : decode cX7_cellBehind 5 = .ok (.bipush 8, 2) := by decide +kernel
theorem dX7_cellBehind_7 : decode cX7_cellBehind 7 = .ok (.if_icmp .lt 5, 3) := by decide +kernel
theorem dX7_cellBehind_10 : decode cX7_cellBehind 10 = .ok (.iconst (-1), 1) := by decide +kernel
theorem dX7_cellBehind_11 : decode cX7_cellBehind 11 = .ok (.ireturn, 1) := by decide +kernel
theorem dX7_cellBehind_12 : decode cX7_cellBehind 12 = .ok (.iload_n 0, 1) := by decide +kernel
theorem dX7_cellBehind_13 : decode cX7_cellBehind 13 = .ok (.bipush 6, 2) := by decide +kernel
theorem dX7_cellBehind_15 : decode cX7_cellBehind 15 = .ok (.idiv, 1) := by decide +kernel
theorem dX7_cellBehind_16 : decode cX7_cellBehind 16 = .ok (.getstatic 279, 3) := by decide +kernel
theorem dX7_cellBehind_19 : decode cX7_cellBehind 19 = .ok (.iload_n 1, 1) := by decide +kernel
theorem dX7_cellBehind_20 : decode cX7_cellBehind 20 = .ok (.iaload, 1) := by decide +kernel
theorem dX7_cellBehind_21 : decode cX7_cellBehind 21 = .ok (.iadd, 1) := by decide +kernel
theorem dX7_cellBehind_22 : decode cX7_cellBehind 22 = .ok (.istore_n 2, 1) := by decide +kernel
theorem dX7_cellBehind_23 : decode cX7_cellBehind 23 = .ok (.iload_n 0, 1) := by decide +kernel
theorem dX7_cellBehind_24 : decode cX7_cellBehind 24 = .ok (.bipush 6, 2) := by decide +kernel
theorem dX7_cellBehind_26 : decode cX7_cellBehind 26 = .ok (.irem, 1) := by decide +kernel
theorem dX7_cellBehind_27 : decode cX7_cellBehind 27 = .ok (.getstatic 282, 3) := by decide +kernel
theorem dX7_cellBehind_30 : decode cX7_cellBehind 30 = .ok (.iload_n 1, 1) := by decide +kernel
theorem dX7_cellBehind_31 : decode cX7_cellBehind 31 = .ok (.iaload, 1) := by decide +kernel
theorem dX7_cellBehind_32 : decode cX7_cellBehind 32 = .ok (.iadd, 1) := by decide +kernel
theorem dX7_cellBehind_33 : decode cX7_cellBehind 33 = .ok (.istore_n 3, 1) := by decide +kernel
theorem dX7_cellBehind_34 : decode cX7_cellBehind 34 = .ok (.iload_n 2, 1) := by decide +kernel
theorem dX7_cellBehind_35 : decode cX7_cellBehind 35 = .ok (.iconst 5, 1) := by decide +kernel
theorem dX7_cellBehind_36 : decode cX7_cellBehind 36 = .ok (.invokestatic 77, 3) := by decide +kernel
theorem dX7_cellBehind_39 : decode cX7_cellBehind 39 = .ok (.ifCond .eq 11, 3) := by decide +kernel
theorem dX7_cellBehind_42 : decode cX7_cellBehind 42 = .ok (.iload_n 3, 1) := by decide +kernel
theorem dX7_cellBehind_43 : decode cX7_cellBehind 43 = .ok (.iconst 5, 1) := by decide +kernel
theorem dX7_cellBehind_44 : decode cX7_cellBehind 44 = .ok (.invokestatic 77, 3) := by decide +kernel
theorem dX7_cellBehind_47 : decode cX7_cellBehind 47 = .ok (.ifCond .ne 5, 3) := by decide +kernel
theorem dX7_cellBehind_50 : decode cX7_cellBehind 50 = .ok (.iconst (-1), 1) := by decide +kernel
theorem dX7_cellBehind_51 : decode cX7_cellBehind 51 = .ok (.ireturn, 1) := by decide +kernel
theorem dX7_cellBehind_52 : decode cX7_cellBehind 52 = .ok (.iload_n 2, 1) := by decide +kernel
theorem dX7_cellBehind_53 : decode cX7_cellBehind 53 = .ok (.bipush 6, 2) := by decide +kernel
theorem dX7_cellBehind_55 : decode cX7_cellBehind 55 = .ok (.imul, 1) := by decide +kernel
theorem dX7_cellBehind_56 : decode cX7_cellBehind 56 = .ok (.iload_n 3, 1) := by decide +kernel
theorem dX7_cellBehind_57 : decode cX7_cellBehind 57 = .ok (.iadd, 1) := by decide +kernel
theorem dX7_cellBehind_58 : decode cX7_cellBehind 58 = .ok (.ireturn, 1) := by decide +kernel
theorem dX8_init_0 : decode cX8_init 0 = .ok (.aload_n 0, 1) := by decide +kernel
theorem dX8_init_1 : decode cX8_init 1 = .ok (.invokespecial 3, 3) := by decide +kernel
theorem dX8_init_4 : decode cX8_init 4 = .ok (.aload_n 0, 1) := by decide +kernel
theorem dX8_init_5 : decode cX8_init 5 = .ok (.bipush 43, 2) := by decide +kernel
theorem dX8_init_7 : decode cX8_init 7 = .ok (.newarray .int, 2) := by decide +kernel
theorem dX8_init_9 : decode cX8_init 9 = .ok (.putfield 9, 3) := by decide +kernel
theorem dX8_init_12 : decode cX8_init 12 = .ok (.aload_n 0, 1) := by decide +kernel
theorem dX8_init_13 : decode cX8_init 13 = .ok (.bipush 43, 2) := by decide +kernel
theorem dX8_init_15 : decode cX8_init 15 = .ok (.newarray .int, 2) := by decide +kernel
theorem dX8_init_17 : decode cX8_init 17 = .ok (.putfield 13, 3) := by decide +kernel
theorem dX8_init_20 : decode cX8_init 20 = .ok (.aload_n 0, 1) := by decide +kernel
theorem dX8_init_21 : decode cX8_init 21 = .ok (.bipush 43, 2) := by decide +kernel
theorem dX8_init_23 : decode cX8_init 23 = .ok (.newarray .int, 2) := by decide +kernel
theorem dX8_init_25 : decode cX8_init 25 = .ok (.putfield 16, 3) := by decide +kernel
theorem dX8_init_28 : decode cX8_init 28 = .ok (.aload_n 0, 1) := by decide +kernel
theorem dX8_init_29 : decode cX8_init 29 = .ok (.bipush 7, 2) := by decide +kernel
theorem dX8_init_31 : decode cX8_init 31 = .ok (.newarray .int, 2) := by decide +kernel
theorem dX8_init_33 : decode cX8_init 33 = .ok (.putfield 19, 3) := by decide +kernel
theorem dX8_init_36 : decode cX8_init 36 = .ok (.aload_n 0, 1) := by decide +kernel
theorem dX8_init_37 : decode cX8_init 37 = .ok (.bipush 36, 2) := by decide +kernel
theorem dX8_init_39 : decode cX8_init 39 = .ok (.newarray .int, 2) := by decide +kernel
theorem dX8_init_41 : decode cX8_init 41 = .ok (.putfield 22, 3) := by decide +kernel
theorem dX8_init_44 : decode cX8_init 44 = .ok (.aload_n 0, 1) := by decide +kernel
theorem dX8_init_45 : decode cX8_init 45 = .ok (.bipush 36, 2) := by decide +kernel
theorem dX8_init_47 : decode cX8_init 47 = .ok (.newarray .int, 2) := by decide +kernel
theorem dX8_init_49 : decode cX8_init 49 = .ok (.putfield 25, 3) := by decide +kernel
theorem dX8_init_52 : decode cX8_init 52 = .ok (.aload_n 0, 1) := by decide +kernel
theorem dX8_init_53 : decode cX8_init 53 = .ok (.bipush 120, 2) := by decide +kernel
theorem dX8_init_55 : decode cX8_init 55 = .ok (.newarray .int, 2) := by decide +kernel
theorem dX8_init_57 : decode cX8_init 57 = .ok (.putfield 28, 3) := by decide +kernel
theorem dX8_init_60 : decode cX8_init 60 = .ok (.aload_n 0, 1) := by decide +kernel
theorem dX8_init_61 : decode cX8_init 61 = .ok (.iconst 4, 1) := by decide +kernel
theorem dX8_init_62 : decode cX8_init 62 = .ok (.newarray .int, 2) := by decide +kernel
theorem dX8_init_64 : decode cX8_init 64 = .ok (.putfield 31, 3) := by decide +kernel
theorem dX8_init_67 : decode cX8_init 67 = .ok (.aload_n 0, 1) := by decide +kernel
theorem dX8_init_68 : decode cX8_init 68 = .ok (.iconst 4, 1) := by decide +kernel
theorem dX8_init_69 : decode cX8_init 69 = .ok (.newarray .int, 2) := by decide +kernel
theorem dX8_init_71 : decode cX8_init 71 = .ok (.putfield 34, 3) := by decide +kernel
theorem dX8_init_74 : decode cX8_init 74 = .ok (.aload_n 0, 1) := by decide +kernel
theorem dX8_init_75 : decode cX8_init 75 = .ok (.sipush 160, 3) := by decide +kernel
theorem dX8_init_78 : decode cX8_init 78 = .ok (.newarray .long, 2) := by decide +kernel
theorem dX8_init_80 : decode cX8_init 80 = .ok (.putfield 37, 3) := by decide +kernel
theorem dX8_init_83 : decode cX8_init 83 = .ok (.aload_n 0, 1) := by decide +kernel
theorem dX8_init_84 : decode cX8_init 84 = .ok (.getfield 9, 3) := by decide +kernel
theorem dX8_init_87 : decode cX8_init 87 = .ok (.iconst 1, 1) := by decide +kernel
theorem dX8_init_88 : decode cX8_init 88 = .ok (.iconst 4, 1) := by decide +kernel
theorem dX8_init_89 : decode cX8_init 89 = .ok (.iastore, 1) := by decide +kernel
theorem dX8_init_90 : decode cX8_init 90 = .ok (.iconst 0, 1) := by decide +kernel
theorem dX8_init_91 : decode cX8_init 91 = .ok (.istore_n 1, 1) := by decide +kernel
theorem dX8_init_92 : decode cX8_init 92 = .ok (.iload_n 1, 1) := by decide +kernel
theorem dX8_init_93 : decode cX8_init 93 = .ok (.bipush 7, 2) := by decide +kernel
theorem dX8_init_95 : decode cX8_init 95 = .ok (.if_icmp .ge 29, 3) := by decide +kernel
theorem dX8_init_98 : decode cX8_init 98 = .ok (.aload_n 0, 1) := by decide +kernel
theorem dX8_init_99 : decode cX8_init 99 = .ok (.getfield 9, 3) := by decide +kernel
theorem dX8_init_102 : decode cX8_init 102 = .ok (.iconst 4, 1) := by decide +kernel
theorem dX8_init_103 : decode cX8_init 103 = .ok (.iload_n 1, 1) := by decide +kernel
theorem dX8_init_104 : decode cX8_init 104 = .ok (.iadd, 1) := by decide +kernel
theorem dX8_init_105 : decode cX8_init 105 = .ok (.iload_n 1, 1) := by decide +kernel
theorem dX8_init_106 : decode cX8_init 106 = .ok (.bipush 6, 2) := by decide +kernel
theorem dX8_init_108 : decode cX8_init 108 = .ok (.if_icmp .ne 8, 3) := by decide +kernel
theorem dX8_init_111 : decode cX8_init 111 = .ok (.bipush 8, 2) := by decide +kernel
theorem dX8_init_113 : decode cX8_init 113 = .ok (.goto 4, 3) := by decide +kernel
theorem dX8_init_116 : decode cX8_init 116 = .ok (.iload_n 1, 1) := by decide +kernel
theorem dX8_init_117 : decode cX8_init 117 = .ok (.iastore, 1) := by decide +kernel
theorem dX8_init_118 : decode cX8_init 118 = .ok (.iinc 1 1, 3) := by decide +kernel
theorem dX8_init_121 : decode cX8_init 121 = .ok (.goto (-29), 3) := by decide +kernel
theorem dX8_init_124 : decode cX8_init 124 = .ok (.return_, 1) := by decide +kernel
theorem dX8_finds_0 : decode cX8_finds 0 = .ok (.aload_n 0, 1) := by decide +kernel
theorem dX8_finds_1 : decode cX8_finds 1 = .ok (.getfield 19, 3) := by decide +kernel
theorem dX8_finds_4 : decode cX8_finds 4 = .ok (.ldc 41, 2) := by decide +kernel
theorem dX8_finds_6 : decode cX8_finds 6 = .ok (.iload_n 1, 1) := by decide +kernel
theorem dX8_finds_7 : decode cX8_finds 7 = .ok (.isub, 1) := by decide +kernel
theorem dX8_finds_8 : decode cX8_finds 8 = .ok (.dup2, 1) := by decide +kernel
theorem dX8_finds_9 : decode cX8_finds 9 = .ok (.iaload, 1) := by decide +kernel
theorem dX8_finds_10 : decode cX8_finds 10 = .ok (.iconst 1, 1) := by decide +kernel
theorem dX8_finds_11 : decode cX8_finds 11 = .ok (.iadd, 1) := by decide +kernel
theorem dX8_finds_12 : decode cX8_finds 12 = .ok (.iastore, 1) := by decide +kernel
theorem dX8_finds_13 : decode cX8_finds 13 = .ok (.iload_n 1, 1) := by decide +kernel
theorem dX8_finds_14 : decode cX8_finds 14 = .ok (.ireturn, 1) := by decide +kernel
theorem dX8_orNone_0 : decode cX8_orNone 0 = .ok (.iload_n 1, 1) := by decide +kernel
theorem dX8_orNone_1 : decode cX8_orNone 1 = .ok (.ifCond .ge 12, 3) := by decide +kernel
theorem dX8_orNone_4 : decode cX8_orNone 4 = .ok (.aload_n 0, 1) := by decide +kernel
theorem dX8_orNone_5 : decode cX8_orNone 5 = .ok (.ldc 42, 2) := by decide +kernel
theorem dX8_orNone_7 : decode cX8_orNone 7 = .ok (.invokevirtual 43, 3) := by decide +kernel
theorem dX8_orNone_10 : decode cX8_orNone 10 = .ok (.goto 4, 3) := by decide +kernel
theorem dX8_orNone_13 : decode cX8_orNone 13 = .ok (.iload_n 1, 1) := by decide +kernel
theorem dX8_orNone_14 : decode cX8_orNone 14 = .ok (.ireturn, 1) := by decide +kernel
theorem dX8_in_0 : decode cX8_in 0 = .ok (.lload_n 0, 1) := by decide +kernel
theorem dX8_in_1 : decode cX8_in 1 = .ok (.iload_n 2, 1) := by decide +kernel
theorem dX8_in_2 : decode cX8_in 2 = .ok (.i2l, 1) := by decide +kernel
theorem dX8_in_3 : decode cX8_in 3 = .ok (.lcmp, 1) := by decide +kernel
theorem dX8_in_4 : decode cX8_in 4 = .ok (.ifCond .lt 14, 3) := by decide +kernel
theorem dX8_in_7 : decode cX8_in 7 = .ok (.lload_n 0, 1) := by decide +kernel
theorem dX8_in_8 : decode cX8_in 8 = .ok (.iload_n 3, 1) := by decide +kernel
theorem dX8_in_9 : decode cX8_in 9 = .ok (.i2l, 1) := by decide +kernel
theorem dX8_in_10 : decode cX8_in 10 = .ok (.lcmp, 1) := by decide +kernel
theorem dX8_in_11 : decode cX8_in 11 = .ok (.ifCond .gt 7, 3) := by decide +kernel
theorem dX8_in_14 : decode cX8_in 14 = .ok (.iconst 1, 1) := by decide +kernel
theorem dX8_in_15 : decode cX8_in 15 = .ok (.goto 4, 3) := by decide +kernel
theorem dX8_in_18 : decode cX8_in 18 = .ok (.iconst 0, 1) := by decide +kernel
theorem dX8_in_19 : decode cX8_in 19 = .ok (.ireturn, 1) := by decide +kernel
theorem dX8_held_0 : decode cX8_held 0 = .ok (.iload_n 0, 1) := by decide +kernel
theorem dX8_held_1 : decode cX8_held 1 = .ok (.iload_n 1, 1) := by decide +kernel
theorem dX8_held_2 : decode cX8_held 2 = .ok (.if_icmp .ge 7, 3) := by decide +kernel
theorem dX8_held_5 : decode cX8_held 5 = .ok (.iload_n 1, 1) := by decide +kernel
theorem dX8_held_6 : decode cX8_held 6 = .ok (.goto 13, 3) := by decide +kernel
theorem dX8_held_9 : decode cX8_held 9 = .ok (.iload_n 0, 1) := by decide +kernel
theorem dX8_held_10 : decode cX8_held 10 = .ok (.iload_n 2, 1) := by decide +kernel
theorem dX8_held_11 : decode cX8_held 11 = .ok (.if_icmp .le 7, 3) := by decide +kernel
theorem dX8_held_14 : decode cX8_held 14 = .ok (.iload_n 2, 1) := by decide +kernel
theorem dX8_held_15 : decode cX8_held 15 = .ok (.goto 4, 3) := by decide +kernel
theorem dX8_held_18 : decode cX8_held 18 = .ok (.iload_n 0, 1) := by decide +kernel
theorem dX8_held_19 : decode cX8_held 19 = .ok (.ireturn, 1) := by decide +kernel
theorem dX8_copyAll_0 : decode cX8_copyAll 0 = .ok (.iconst 0, 1) := by decide +kernel
theorem dX8_copyAll_1 : decode cX8_copyAll 1 = .ok (.istore_n 2, 1) := by decide +kernel
theorem dX8_copyAll_2 : decode cX8_copyAll 2 = .ok (.iload_n 2, 1) := by decide +kernel
theorem dX8_copyAll_3 : decode cX8_copyAll 3 = .ok (.bipush 43, 2) := by decide +kernel
theorem dX8_copyAll_5 : decode cX8_copyAll 5 = .ok (.if_icmp .ge 15, 3) := by decide +kernel
theorem dX8_copyAll_8 : decode cX8_copyAll 8 = .ok (.aload_n 1, 1) := by decide +kernel
theorem dX8_copyAll_9 : decode cX8_copyAll 9 = .ok (.iload_n 2, 1) := by decide +kernel
theorem dX8_copyAll_10 : decode cX8_copyAll 10 = .ok (.aload_n 0, 1) := by decide +kernel
theorem dX8_copyAll_11 : decode cX8_copyAll 11 = .ok (.iload_n 2, 1) := by decide +kernel
theorem dX8_copyAll_12 : decode cX8_copyAll 12 = .ok (.iaload, 1) := by decide +kernel
theorem dX8_copyAll_13 : decode cX8_copyAll 13 = .ok (.iastore, 1) := by decide +kernel
theorem dX8_copyAll_14 : decode cX8_copyAll 14 = .ok (.iinc 2 1, 3) := by decide +kernel
theorem dX8_copyAll_17 : decode cX8_copyAll 17 = .ok (.goto (-15), 3) := by decide +kernel
theorem dX8_copyAll_20 : decode cX8_copyAll 20 = .ok (.return_, 1) := by decide +kernel
theorem dX8_becomes_0 : decode cX8_becomes 0 = .ok (.aload_n 0, 1) := by decide +kernel
theorem dX8_becomes_1 : decode cX8_becomes 1 = .ok (.getfield 9, 3) := by decide +kernel
theorem dX8_becomes_4 : decode cX8_becomes 4 = .ok (.iload_n 1, 1) := by decide +kernel
theorem dX8_becomes_5 : decode cX8_becomes 5 = .ok (.iaload, 1) := by decide +kernel
theorem dX8_becomes_6 : decode cX8_becomes 6 = .ok (.istore_n 3, 1) := by decide +kernel
theorem dX8_becomes_7 : decode cX8_becomes 7 = .ok (.aload_n 0, 1) := by decide +kernel
theorem dX8_becomes_8 : decode cX8_becomes 8 = .ok (.getfield 9, 3) := by decide +kernel
theorem dX8_becomes_11 : decode cX8_becomes 11 = .ok (.iload_n 1, 1) := by decide +kernel
theorem dX8_becomes_12 : decode cX8_becomes 12 = .ok (.iload_n 2, 1) := by decide +kernel
theorem dX8_becomes_13 : decode cX8_becomes 13 = .ok (.iastore, 1) := by decide +kernel
theorem dX8_becomes_14 : decode cX8_becomes 14 = .ok (.iload_n 3, 1) := by decide +kernel
theorem dX8_becomes_15 : decode cX8_becomes 15 = .ok (.ireturn, 1) := by decide +kernel
theorem dX8_isThing_0 : decode cX8_isThing 0 = .ok (.iload_n 1, 1) := by decide +kernel
theorem dX8_isThing_1 : decode cX8_isThing 1 = .ok (.i2l, 1) := by decide +kernel
theorem dX8_isThing_2 : decode cX8_isThing 2 = .ok (.iconst 0, 1) := by decide +kernel
theorem dX8_isThing_3 : decode cX8_isThing 3 = .ok (.aload_n 0, 1) := by decide +kernel
theorem dX8_isThing_4 : decode cX8_isThing 4 = .ok (.getfield 9, 3) := by decide +kernel
theorem dX8_isThing_7 : decode cX8_isThing 7 = .ok (.iconst 3, 1) := by decide +kernel
theorem dX8_isThing_8 : decode cX8_isThing 8 = .ok (.iaload, 1) := by decide +kernel
theorem dX8_isThing_9 : decode cX8_isThing 9 = .ok (.iconst 1, 1) := by decide +kernel
theorem dX8_isThing_10 : decode cX8_isThing 10 = .ok (.isub, 1) := by decide +kernel
theorem dX8_isThing_11 : decode cX8_isThing 11 = .ok (.invokestatic 47, 3) := by decide +kernel
theorem dX8_isThing_14 : decode cX8_isThing 14 = .ok (.ireturn, 1) := by decide +kernel
theorem dX8_isCell_0 : decode cX8_isCell 0 = .ok (.iload_n 0, 1) := by decide +kernel
theorem dX8_isCell_1 : decode cX8_isCell 1 = .ok (.i2l, 1) := by decide +kernel
theorem dX8_isCell_2 : decode cX8_isCell 2 = .ok (.iconst 0, 1) := by decide +kernel
theorem dX8_isCell_3 : decode cX8_isCell 3 = .ok (.bipush 35, 2) := by decide +kernel
theorem dX8_isCell_5 : decode cX8_isCell 5 = .ok (.invokestatic 47, 3) := by decide +kernel
theorem dX8_isCell_8 : decode cX8_isCell 8 = .ok (.ireturn, 1) := by decide +kernel
theorem dX8_isWind_0 : decode cX8_isWind 0 = .ok (.iload_n 0, 1) := by decide +kernel
theorem dX8_isWind_1 : decode cX8_isWind 1 = .ok (.i2l, 1) := by decide +kernel
theorem dX8_isWind_2 : decode cX8_isWind 2 = .ok (.iconst 0, 1) := by decide +kernel
theorem dX8_isWind_3 : decode cX8_isWind 3 = .ok (.bipush 7, 2) := by decide +kernel
theorem dX8_isWind_5 : decode cX8_isWind 5 = .ok (.invokestatic 47, 3) := by decide +kernel
theorem dX8_isWind_8 : decode cX8_isWind 8 = .ok (.ireturn, 1) := by decide +kernel
theorem dX8_it_0 : decode cX8_it 0 = .ok (.aload_n 0, 1) := by decide +kernel
theorem dX8_it_1 : decode cX8_it 1 = .ok (.getfield 9, 3) := by decide +kernel
theorem dX8_it_4 : decode cX8_it 4 = .ok (.bipush 11, 2) := by decide +kernel
theorem dX8_it_6 : decode cX8_it 6 = .ok (.iconst 4, 1) := by decide +kernel
theorem dX8_it_7 : decode cX8_it 7 = .ok (.iload_n 1, 1) := by decide +kernel
theorem dX8_it_8 : decode cX8_it 8 = .ok (.imul, 1) := by decide +kernel
theorem dX8_it_9 : decode cX8_it 9 = .ok (.iadd, 1) := by decide +kernel
theorem dX8_it_10 : decode cX8_it 10 = .ok (.iload_n 2, 1) := by decide +kernel
theorem dX8_it_11 : decode cX8_it 11 = .ok (.iadd, 1) := by decide +kernel
theorem dX8_it_12 : decode cX8_it 12 = .ok (.iaload, 1) := by decide +kernel
theorem dX8_it_13 : decode cX8_it 13 = .ok (.ireturn, 1) := by decide +kernel
theorem dX8_put_0 : decode cX8_put 0 = .ok (.aload_n 0, 1) := by decide +kernel
theorem dX8_put_1 : decode cX8_put 1 = .ok (.getfield 9, 3) := by decide +kernel
theorem dX8_put_4 : decode cX8_put 4 = .ok (.bipush 11, 2) := by decide +kernel
theorem dX8_put_6 : decode cX8_put 6 = .ok (.iconst 4, 1) := by decide +kernel
theorem dX8_put_7 : decode cX8_put 7 = .ok (.iload_n 1, 1) := by decide +kernel
theorem dX8_put_8 : decode cX8_put 8 = .ok (.imul, 1) := by decide +kernel
theorem dX8_put_9 : decode cX8_put 9 = .ok (.iadd, 1) := by decide +kernel
theorem dX8_put_10 : decode cX8_put 10 = .ok (.iload_n 2, 1) := by decide +kernel
theorem dX8_put_11 : decode cX8_put 11 = .ok (.iadd, 1) := by decide +kernel
theorem dX8_put_12 : decode cX8_put 12 = .ok (.iload_n 3, 1) := by decide +kernel
theorem dX8_put_13 : decode cX8_put 13 = .ok (.iastore, 1) := by decide +kernel
theorem dX8_put_14 : decode cX8_put 14 = .ok (.return_, 1) := by decide +kernel
theorem dX8_blowing_0 : decode cX8_blowing 0 = .ok (.aload_n 0, 1) := by decide +kernel
theorem dX8_blowing_1 : decode cX8_blowing 1 = .ok (.getfield 9, 3) := by decide +kernel
theorem dX8_blowing_4 : decode cX8_blowing 4 = .ok (.iconst 4, 1) := by decide +kernel
theorem dX8_blowing_5 : decode cX8_blowing 5 = .ok (.iload_n 1, 1) := by decide +kernel
theorem dX8_blowing_6 : decode cX8_blowing 6 = .ok (.bipush 7, 2) := by decide +kernel
theorem dX8_blowing_8 : decode cX8_blowing 8 = .ok (.irem, 1) := by decide +kernel
theorem dX8_blowing_9 : decode cX8_blowing 9 = .ok (.iadd, 1) := by decide +kernel
theorem dX8_blowing_10 : decode cX8_blowing 10 = .ok (.iaload, 1) := by decide +kernel
theorem dX8_blowing_11 : decode cX8_blowing 11 = .ok (.istore_n 2, 1) := by decide +kernel
theorem dX8_blowing_12 : decode cX8_blowing 12 = .ok (.iconst 0, 1) := by decide +kernel
theorem dX8_blowing_13 : decode cX8_blowing 13 = .ok (.istore_n 3, 1) := by decide +kernel
theorem dX8_blowing_14 : decode cX8_blowing 14 = .ok (.iload_n 3, 1) := by decide +kernel
theorem dX8_blowing_15 : decode cX8_blowing 15 = .ok (.bipush 8, 2) := by decide +kernel
theorem dX8_blowing_17 : decode cX8_blowing 17 = .ok (.if_icmp .ge 37, 3) := by decide +kernel
theorem dX8_blowing_20 : decode cX8_blowing 20 = .ok (.iload_n 2, 1) := by decide +kernel
theorem dX8_blowing_21 : decode cX8_blowing 21 = .ok (.bipush 8, 2) := by decide +kernel
theorem dX8_blowing_23 : decode cX8_blowing 23 = .ok (.if_icmp .ge 31, 3) := by decide +kernel
theorem dX8_blowing_26 : decode cX8_blowing 26 = .ok (.aload_n 0, 1) := by decide +kernel
theorem dX8_blowing_27 : decode cX8_blowing 27 = .ok (.getfield 9, 3) := by decide +kernel
theorem dX8_blowing_30 : decode cX8_blowing 30 = .ok (.iconst 2, 1) := by decide +kernel
theorem dX8_blowing_31 : decode cX8_blowing 31 = .ok (.iaload, 1) := by decide +kernel
theorem dX8_blowing_32 : decode cX8_blowing 32 = .ok (.iload_n 2, 1) := by decide +kernel
theorem dX8_blowing_33 : decode cX8_blowing 33 = .ok (.ishr, 1) := by decide +kernel
theorem dX8_blowing_34 : decode cX8_blowing 34 = .ok (.iconst 1, 1) := by decide +kernel
theorem dX8_blowing_35 : decode cX8_blowing 35 = .ok (.iand, 1) := by decide +kernel
theorem dX8_blowing_36 : decode cX8_blowing 36 = .ok (.ifCond .ne 5, 3) := by decide +kernel
theorem dX8_blowing_39 : decode cX8_blowing 39 = .ok (.iload_n 2, 1) := by decide +kernel
theorem dX8_blowing_40 : decode cX8_blowing 40 = .ok (.ireturn, 1) := by decide +kernel
theorem dX8_blowing_41 : decode cX8_blowing 41 = .ok (.iload_n 2, 1) := by decide +kernel
theorem dX8_blowing_42 : decode cX8_blowing 42 = .ok (.iconst 1, 1) := by decide +kernel
theorem dX8_blowing_43 : decode cX8_blowing 43 = .ok (.iadd, 1) := by decide +kernel
theorem dX8_blowing_44 : decode cX8_blowing 44 = .ok (.bipush 8, 2) := by decide +kernel
theorem dX8_blowing_46 : decode cX8_blowing 46 = .ok (.irem, 1) := by decide +kernel
theorem dX8_blowing_47 : decode cX8_blowing 47 = .ok (.istore_n 2, 1) := by decide +kernel
theorem dX8_blowing_48 : decode cX8_blowing 48 = .ok (.iinc 3 1, 3) := by decide +kernel
theorem dX8_blowing_51 : decode cX8_blowing 51 = .ok (.goto (-37), 3) := by decide +kernel
theorem dX8_blowing_54 : decode cX8_blowing 54 = .ok (.bipush 8, 2) := by decide +kernel
theorem dX8_blowing_56 : decode cX8_blowing 56 = .ok (.ireturn, 1) := by decide +kernel
theorem dX8_blownTo_0 : decode cX8_blownTo 0 = .ok (.iload_n 1, 1) := by decide +kernel
theorem dX8_blownTo_1 : decode cX8_blownTo 1 = .ok (.bipush 7, 2) := by decide +kernel
theorem dX8_blownTo_3 : decode cX8_blownTo 3 = .ok (.if_icmp .eq 8, 3) := by decide +kernel
theorem dX8_blownTo_6 : decode cX8_blownTo 6 = .ok (.iload_n 1, 1) := by decide +kernel
theorem dX8_blownTo_7 : decode cX8_blownTo 7 = .ok (.iconst 2, 1) := by decide +kernel
theorem dX8_blownTo_8 : decode cX8_blownTo 8 = .ok (.if_icmp .ge 7, 3) := by decide +kernel
theorem dX8_blownTo_11 : decode cX8_blownTo 11 = .ok (.iconst (-1), 1) := by decide +kernel
theorem dX8_blownTo_12 : decode cX8_blownTo 12 = .ok (.goto 19, 3) := by decide +kernel
theorem dX8_blownTo_15 : decode cX8_blownTo 15 = .ok (.iload_n 1, 1) := by decide +kernel
theorem dX8_blownTo_16 : decode cX8_blownTo 16 = .ok (.iconst 2, 1) := by decide +kernel
theorem dX8_blownTo_17 : decode cX8_blownTo 17 = .ok (.if_icmp .le 13, 3) := by decide +kernel
theorem dX8_blownTo_20 : decode cX8_blownTo 20 = .ok (.iload_n 1, 1) := by decide +kernel
theorem dX8_blownTo_21 : decode cX8_blownTo 21 = .ok (.bipush 6, 2) := by decide +kernel
theorem dX8_blownTo_23 : decode cX8_blownTo 23 = .ok (.if_icmp .ge 7, 3) := by decide +kernel
theorem dX8_blownTo_26 : decode cX8_blownTo 26 = .ok (.iconst 1, 1) := by decide +kernel
theorem dX8_blownTo_27 : decode cX8_blownTo 27 = .ok (.goto 4, 3) := by decide +kernel
theorem dX8_blownTo_30 : decode cX8_blownTo 30 = .ok (.iconst 0, 1) := by decide +kernel
theorem dX8_blownTo_31 : decode cX8_blownTo 31 = .ok (.istore_n 2, 1) := by decide +kernel
theorem dX8_blownTo_32 : decode cX8_blownTo 32 = .ok (.iload_n 1, 1) := by decide +kernel
theorem dX8_blownTo_33 : decode cX8_blownTo 33 = .ok (.ifCond .le 12, 3) := by decide +kernel
theorem dX8_blownTo_36 : decode cX8_blownTo 36 = .ok (.iload_n 1, 1) := by decide +kernel
theorem dX8_blownTo_37 : decode cX8_blownTo 37 = .ok (.iconst 4, 1) := by decide +kernel
theorem dX8_blownTo_38 : decode cX8_blownTo 38 = .ok (.if_icmp .ge 7, 3) := by decide +kernel
theorem dX8_blownTo_41 : decode cX8_blownTo 41 = .ok (.iconst 1, 1) := by decide +kernel
theorem dX8_blownTo_42 : decode cX8_blownTo 42 = .ok (.goto 13, 3) := by decide +kernel
theorem dX8_blownTo_45 : decode cX8_blownTo 45 = .ok (.iload_n 1, 1) := by decide +kernel
theorem dX8_blownTo_46 : decode cX8_blownTo 46 = .ok (.iconst 4, 1) := by decide +kernel
theorem dX8_blownTo_47 : decode cX8_blownTo 47 = .ok (.if_icmp .le 7, 3) := by decide +kernel
theorem dX8_blownTo_50 : decode cX8_blownTo 50 = .ok (.iconst (-1), 1) := by decide +kernel
theorem dX8_blownTo_51 : decode cX8_blownTo 51 = .ok (.goto 4, 3) := by decide +kernel
theorem dX8_blownTo_54 : decode cX8_blownTo 54 = .ok (.iconst 0, 1) := by decide +kernel
theorem dX8_blownTo_55 : decode cX8_blownTo 55 = .ok (.istore_n 3, 1) := by decide +kernel
theorem dX8_blownTo_56 : decode cX8_blownTo 56 = .ok (.iload_n 0, 1) := by decide +kernel
theorem dX8_blownTo_57 : decode cX8_blownTo 57 = .ok (.bipush 6, 2) := by decide +kernel
theorem dX8_blownTo_59 : decode cX8_blownTo 59 = .ok (.idiv, 1) := by decide +kernel
theorem dX8_blownTo_60 : decode cX8_blownTo 60 = .ok (.iload_n 2, 1) := by decide +kernel
theorem dX8_blownTo_61 : decode cX8_blownTo 61 = .ok (.iadd, 1) := by decide +kernel
theorem dX8_blownTo_62 : decode cX8_blownTo 62 = .ok (.istore 4, 2) := by decide +kernel
theorem dX8_blownTo_64 : decode cX8_blownTo 64 = .ok (.iload_n 0, 1) := by decide +kernel
theorem dX8_blownTo_65 : decode cX8_blownTo 65 = .ok (.bipush 6, 2) := by decide +kernel
theorem dX8_blownTo_67 : decode cX8_blownTo 67 = .ok (.irem, 1) := by decide +kernel
theorem dX8_blownTo_68 : decode cX8_blownTo 68 = .ok (.iload_n 3, 1) := by decide +kernel
theorem dX8_blownTo_69 : decode cX8_blownTo 69 = .ok (.iadd, 1) := by decide +kernel
theorem dX8_blownTo_70 : decode cX8_blownTo 70 = .ok (.istore 5, 2) := by decide +kernel
theorem dX8_blownTo_72 : decode cX8_blownTo 72 = .ok (.iload 4, 2) := by decide +kernel
theorem dX8_blownTo_74 : decode cX8_blownTo 74 = .ok (.i2l, 1) := by decide +kernel
theorem dX8_blownTo_75 : decode cX8_blownTo 75 = .ok (.iconst 0, 1) := by decide +kernel
theorem dX8_blownTo_76 : decode cX8_blownTo 76 = .ok (.iconst 5, 1) := by decide +kernel
theorem dX8_blownTo_77 : decode cX8_blownTo 77 = .ok (.invokestatic 47, 3) := by decide +kernel
theorem dX8_blownTo_80 : decode cX8_blownTo 80 = .ok (.ifCond .eq 25, 3) := by decide +kernel
theorem dX8_blownTo_83 : decode cX8_blownTo 83 = .ok (.iload 5, 2) := by decide +kernel
theorem dX8_blownTo_85 : decode cX8_blownTo 85 = .ok (.i2l, 1) := by decide +kernel
theorem dX8_blownTo_86 : decode cX8_blownTo 86 = .ok (.iconst 0, 1) := by decide +kernel
theorem dX8_blownTo_87 : decode cX8_blownTo 87 = .ok (.iconst 5, 1) := by decide +kernel
theorem dX8_blownTo_88 : decode cX8_blownTo 88 = .ok (.invokestatic 47, 3) := by decide +kernel
theorem dX8_blownTo_91 : decode cX8_blownTo 91 = .ok (.ifCond .eq 14, 3) := by decide +kernel
theorem dX8_blownTo_94 : decode cX8_blownTo 94 = .ok (.bipush 6, 2) := by decide +kernel
theorem dX8_blownTo_96 : decode cX8_blownTo 96 = .ok (.iload 4, 2) := by decide +kernel
theorem dX8_blownTo_98 : decode cX8_blownTo 98 = .ok (.imul, 1) := by decide +kernel
theorem dX8_blownTo_99 : decode cX8_blownTo 99 = .ok (.iload 5, 2) := by decide +kernel
theorem dX8_blownTo_101 : decode cX8_blownTo 101 = .ok (.iadd, 1) := by decide +kernel
theorem dX8_blownTo_102 : decode cX8_blownTo 102 = .ok (.goto 4, 3) := by decide +kernel
theorem dX8_blownTo_105 : decode cX8_blownTo 105 = .ok (.iconst (-1), 1) := by decide +kernel
theorem dX8_blownTo_106 : decode cX8_blownTo 106 = .ok (.ireturn, 1) := by decide +kernel
theorem dX8_rota_0 : decode cX8_rota 0 = .ok (.iload_n 1, 1) := by decide +kernel
theorem dX8_rota_1 : decode cX8_rota 1 = .ok (.i2l, 1) := by decide +kernel
theorem dX8_rota_2 : decode cX8_rota 2 = .ok (.iconst 0, 1) := by decide +kernel
theorem dX8_rota_3 : decode cX8_rota 3 = .ok (.bipush 6, 2) := by decide +kernel
theorem dX8_rota_5 : decode cX8_rota 5 = .ok (.invokestatic 47, 3) := by decide +kernel
theorem dX8_rota_8 : decode cX8_rota 8 = .ok (.ifCond .eq 25, 3) := by decide +kernel
theorem dX8_rota_11 : decode cX8_rota 11 = .ok (.iload_n 2, 1) := by decide +kernel
theorem dX8_rota_12 : decode cX8_rota 12 = .ok (.i2l, 1) := by decide +kernel
theorem dX8_rota_13 : decode cX8_rota 13 = .ok (.iconst 0, 1) := by decide +kernel
theorem dX8_rota_14 : decode cX8_rota 14 = .ok (.bipush 8, 2) := by decide +kernel
theorem dX8_rota_16 : decode cX8_rota 16 = .ok (.invokestatic 47, 3) := by decide +kernel
theorem dX8_rota_19 : decode cX8_rota 19 = .ok (.ifCond .eq 14, 3) := by decide +kernel
theorem dX8_rota_22 : decode cX8_rota 22 = .ok (.aload_n 0, 1) := by decide +kernel
theorem dX8_rota_23 : decode cX8_rota 23 = .ok (.iconst 4, 1) := by decide +kernel
theorem dX8_rota_24 : decode cX8_rota 24 = .ok (.iload_n 1, 1) := by decide +kernel
theorem dX8_rota_25 : decode cX8_rota 25 = .ok (.iadd, 1) := by decide +kernel
theorem dX8_rota_26 : decode cX8_rota 26 = .ok (.iload_n 2, 1) := by decide +kernel
theorem dX8_rota_27 : decode cX8_rota 27 = .ok (.invokevirtual 51, 3) := by decide +kernel
theorem dX8_rota_30 : decode cX8_rota 30 = .ok (.goto 9, 3) := by decide +kernel
theorem dX8_rota_33 : decode cX8_rota 33 = .ok (.aload_n 0, 1) := by decide +kernel
theorem dX8_rota_34 : decode cX8_rota 34 = .ok (.ldc 41, 2) := by decide +kernel
theorem dX8_rota_36 : decode cX8_rota 36 = .ok (.invokevirtual 43, 3) := by decide +kernel
theorem dX8_rota_39 : decode cX8_rota 39 = .ok (.ireturn, 1) := by decide +kernel
theorem dX8_rotaOf_0 : decode cX8_rotaOf 0 = .ok (.iload_n 1, 1) := by decide +kernel
theorem dX8_rotaOf_1 : decode cX8_rotaOf 1 = .ok (.i2l, 1) := by decide +kernel
theorem dX8_rotaOf_2 : decode cX8_rotaOf 2 = .ok (.iconst 0, 1) := by decide +kernel
theorem dX8_rotaOf_3 : decode cX8_rotaOf 3 = .ok (.bipush 6, 2) := by decide +kernel
theorem dX8_rotaOf_5 : decode cX8_rotaOf 5 = .ok (.invokestatic 47, 3) := by decide +kernel
theorem dX8_rotaOf_8 : decode cX8_rotaOf 8 = .ok (.ifCond .eq 14, 3) := by decide +kernel
theorem dX8_rotaOf_11 : decode cX8_rotaOf 11 = .ok (.aload_n 0, 1) := by decide +kernel
theorem dX8_rotaOf_12 : decode cX8_rotaOf 12 = .ok (.getfield 9, 3) := by decide +kernel
theorem dX8_rotaOf_15 : decode cX8_rotaOf 15 = .ok (.iconst 4, 1) := by decide +kernel
theorem dX8_rotaOf_16 : decode cX8_rotaOf 16 = .ok (.iload_n 1, 1) := by decide +kernel
theorem dX8_rotaOf_17 : decode cX8_rotaOf 17 = .ok (.iadd, 1) := by decide +kernel
theorem dX8_rotaOf_18 : decode cX8_rotaOf 18 = .ok (.iaload, 1) := by decide +kernel
theorem dX8_rotaOf_19 : decode cX8_rotaOf 19 = .ok (.goto 9, 3) := by decide +kernel
theorem dX8_rotaOf_22 : decode cX8_rotaOf 22 = .ok (.aload_n 0, 1) := by decide +kernel
theorem dX8_rotaOf_23 : decode cX8_rotaOf 23 = .ok (.ldc 41, 2) := by decide +kernel
theorem dX8_rotaOf_25 : decode cX8_rotaOf 25 = .ok (.invokevirtual 43, 3) := by decide +kernel
theorem dX8_rotaOf_28 : decode cX8_rotaOf 28 = .ok (.ireturn, 1) := by decide +kernel
theorem dX8_ails_0 : decode cX8_ails 0 = .ok (.aload_n 0, 1) := by decide +kernel
theorem dX8_ails_1 : decode cX8_ails 1 = .ok (.getfield 9, 3) := by decide +kernel
theorem dX8_ails_4 : decode cX8_ails 4 = .ok (.iconst 2, 1) := by decide +kernel
theorem dX8_ails_5 : decode cX8_ails 5 = .ok (.iload_n 2, 1) := by decide +kernel
theorem dX8_ails_6 : decode cX8_ails 6 = .ok (.iconst 1, 1) := by decide +kernel
theorem dX8_ails_7 : decode cX8_ails 7 = .ok (.if_icmp .ne 16, 3) := by decide +kernel
theorem dX8_ails_10 : decode cX8_ails 10 = .ok (.aload_n 0, 1) := by decide +kernel
theorem dX8_ails_11 : decode cX8_ails 11 = .ok (.getfield 9, 3) := by decide +kernel
theorem dX8_ails_14 : decode cX8_ails 14 = .ok (.iconst 2, 1) := by decide +kernel
theorem dX8_ails_15 : decode cX8_ails 15 = .ok (.iaload, 1) := by decide +kernel
theorem dX8_ails_16 : decode cX8_ails 16 = .ok (.iconst 1, 1) := by decide +kernel
theorem dX8_ails_17 : decode cX8_ails 17 = .ok (.iload_n 1, 1) := by decide +kernel
theorem dX8_ails_18 : decode cX8_ails 18 = .ok (.ishl, 1) := by decide +kernel
theorem dX8_ails_19 : decode cX8_ails 19 = .ok (.ior, 1) := by decide +kernel
theorem dX8_ails_20 : decode cX8_ails 20 = .ok (.goto 15, 3) := by decide +kernel
theorem dX8_ails_23 : decode cX8_ails 23 = .ok (.aload_n 0, 1) := by decide +kernel
theorem dX8_ails_24 : decode cX8_ails 24 = .ok (.getfield 9, 3) := by decide +kernel
theorem dX8_ails_27 : decode cX8_ails 27 = .ok (.iconst 2, 1) := by decide +kernel
theorem dX8_ails_28 : decode cX8_ails 28 = .ok (.iaload, 1) := by decide +kernel
theorem dX8_ails_29 : decode cX8_ails 29 = .ok (.iconst 1, 1) := by decide +kernel
theorem dX8_ails_30 : decode cX8_ails 30 = .ok (.iload_n 1, 1) := by decide +kernel
theorem dX8_ails_31 : decode cX8_ails 31 = .ok (.ishl, 1) := by decide +kernel
theorem dX8_ails_32 : decode cX8_ails 32 = .ok (.iconst (-1), 1) := by decide +kernel
theorem dX8_ails_33 : decode cX8_ails 33 = .ok (.ixor, 1) := by decide +kernel
theorem dX8_ails_34 : decode cX8_ails 34 = .ok (.iand, 1) := by decide +kernel
theorem dX8_ails_35 : decode cX8_ails 35 = .ok (.iastore, 1) := by decide +kernel
theorem dX8_ails_36 : decode cX8_ails 36 = .ok (.return_, 1) := by decide +kernel
theorem dX8_sick_0 : decode cX8_sick 0 = .ok (.iload_n 1, 1) := by decide +kernel
theorem dX8_sick_1 : decode cX8_sick 1 = .ok (.invokestatic 55, 3) := by decide +kernel
theorem dX8_sick_4 : decode cX8_sick 4 = .ok (.ifCond .eq 13, 3) := by decide +kernel
theorem dX8_sick_7 : decode cX8_sick 7 = .ok (.iload_n 2, 1) := by decide +kernel
theorem dX8_sick_8 : decode cX8_sick 8 = .ok (.i2l, 1) := by decide +kernel
theorem dX8_sick_9 : decode cX8_sick 9 = .ok (.iconst 0, 1) := by decide +kernel
theorem dX8_sick_10 : decode cX8_sick 10 = .ok (.iconst 1, 1) := by decide +kernel
theorem dX8_sick_11 : decode cX8_sick 11 = .ok (.invokestatic 47, 3) := by decide +kernel
theorem dX8_sick_14 : decode cX8_sick 14 = .ok (.ifCond .ne 10, 3) := by decide +kernel
theorem dX8_sick_17 : decode cX8_sick 17 = .ok (.aload_n 0, 1) := by decide +kernel
theorem dX8_sick_18 : decode cX8_sick 18 = .ok (.ldc 41, 2) := by decide +kernel
theorem dX8_sick_20 : decode cX8_sick 20 = .ok (.invokevirtual 43, 3) := by decide +kernel
theorem dX8_sick_23 : decode cX8_sick 23 = .ok (.ireturn, 1) := by decide +kernel
theorem dX8_sick_24 : decode cX8_sick 24 = .ok (.aload_n 0, 1) := by decide +kernel
theorem dX8_sick_25 : decode cX8_sick 25 = .ok (.getfield 9, 3) := by decide +kernel
theorem dX8_sick_28 : decode cX8_sick 28 = .ok (.iconst 2, 1) := by decide +kernel
theorem dX8_sick_29 : decode cX8_sick 29 = .ok (.iaload, 1) := by decide +kernel
theorem dX8_sick_30 : decode cX8_sick 30 = .ok (.iload_n 1, 1) := by decide +kernel
theorem dX8_sick_31 : decode cX8_sick 31 = .ok (.ishr, 1) := by decide +kernel
theorem dX8_sick_32 : decode cX8_sick 32 = .ok (.iconst 1, 1) := by decide +kernel
theorem dX8_sick_33 : decode cX8_sick 33 = .ok (.iand, 1) := by decide +kernel
theorem dX8_sick_34 : decode cX8_sick 34 = .ok (.istore_n 3, 1) := by decide +kernel
theorem dX8_sick_35 : decode cX8_sick 35 = .ok (.aload_n 0, 1) := by decide +kernel
theorem dX8_sick_36 : decode cX8_sick 36 = .ok (.iload_n 1, 1) := by decide +kernel
theorem dX8_sick_37 : decode cX8_sick 37 = .ok (.iload_n 2, 1) := by decide +kernel
theorem dX8_sick_38 : decode cX8_sick 38 = .ok (.invokevirtual 59, 3) := by decide +kernel
theorem dX8_sick_41 : decode cX8_sick 41 = .ok (.iload_n 3, 1) := by decide +kernel
theorem dX8_sick_42 : decode cX8_sick 42 = .ok (.ireturn, 1) := by decide +kernel
theorem dX8_force_0 : decode cX8_force 0 = .ok (.iload_n 1, 1) := by decide +kernel
theorem dX8_force_1 : decode cX8_force 1 = .ok (.i2l, 1) := by decide +kernel
theorem dX8_force_2 : decode cX8_force 2 = .ok (.iconst 0, 1) := by decide +kernel
theorem dX8_force_3 : decode cX8_force 3 = .ok (.bipush 9, 2) := by decide +kernel
theorem dX8_force_5 : decode cX8_force 5 = .ok (.invokestatic 47, 3) := by decide +kernel
theorem dX8_force_8 : decode cX8_force 8 = .ok (.ifCond .eq 12, 3) := by decide +kernel
theorem dX8_force_11 : decode cX8_force 11 = .ok (.aload_n 0, 1) := by decide +kernel
theorem dX8_force_12 : decode cX8_force 12 = .ok (.iconst 1, 1) := by decide +kernel
theorem dX8_force_13 : decode cX8_force 13 = .ok (.iload_n 1, 1) := by decide +kernel
theorem dX8_force_14 : decode cX8_force 14 = .ok (.invokevirtual 51, 3) := by decide +kernel
theorem dX8_force_17 : decode cX8_force 17 = .ok (.goto 9, 3) := by decide +kernel
theorem dX8_force_20 : decode cX8_force 20 = .ok (.aload_n 0, 1) := by decide +kernel
theorem dX8_force_21 : decode cX8_force 21 = .ok (.ldc 41, 2) := by decide +kernel
theorem dX8_force_23 : decode cX8_force 23 = .ok (.invokevirtual 43, 3) := by decide +kernel
theorem dX8_force_26 : decode cX8_force 26 = .ok (.ireturn, 1) := by decide +kernel
theorem dX8_blows_0 : decode cX8_blows 0 = .ok (.iload_n 1, 1) := by decide +kernel
theorem dX8_blows_1 : decode cX8_blows 1 = .ok (.i2l, 1) := by decide +kernel
theorem dX8_blows_2 : decode cX8_blows 2 = .ok (.iconst 0, 1) := by decide +kernel
theorem dX8_blows_3 : decode cX8_blows 3 = .ok (.sipush 9999, 3) := by decide +kernel
theorem dX8_blows_6 : decode cX8_blows 6 = .ok (.invokestatic 47, 3) := by decide +kernel
theorem dX8_blows_9 : decode cX8_blows 9 = .ok (.ifCond .eq 11, 3) := by decide +kernel
theorem dX8_blows_12 : decode cX8_blows 12 = .ok (.aload_n 0, 1) := by decide +kernel
theorem dX8_blows_13 : decode cX8_blows 13 = .ok (.iload_n 1, 1) := by decide +kernel
theorem dX8_blows_14 : decode cX8_blows 14 = .ok (.invokevirtual 63, 3) := by decide +kernel
theorem dX8_blows_17 : decode cX8_blows 17 = .ok (.goto 9, 3) := by decide +kernel
theorem dX8_blows_20 : decode cX8_blows 20 = .ok (.aload_n 0, 1) := by decide +kernel
theorem dX8_blows_21 : decode cX8_blows 21 = .ok (.ldc 41, 2) := by decide +kernel
theorem dX8_blows_23 : decode cX8_blows 23 = .ok (.invokevirtual 43, 3) := by decide +kernel
theorem dX8_blows_26 : decode cX8_blows 26 = .ok (.ireturn, 1) := by decide +kernel
theorem dX8_lee_0 : decode cX8_lee 0 = .ok (.iload_n 1, 1) := by decide +kernel
theorem dX8_lee_1 : decode cX8_lee 1 = .ok (.invokestatic 66, 3) := by decide +kernel
theorem dX8_lee_4 : decode cX8_lee 4 = .ok (.ifCond .eq 22, 3) := by decide +kernel
theorem dX8_lee_7 : decode cX8_lee 7 = .ok (.iload_n 2, 1) := by decide +kernel
theorem dX8_lee_8 : decode cX8_lee 8 = .ok (.invokestatic 55, 3) := by decide +kernel
theorem dX8_lee_11 : decode cX8_lee 11 = .ok (.ifCond .eq 15, 3) := by decide +kernel
theorem dX8_lee_14 : decode cX8_lee 14 = .ok (.aload_n 0, 1) := by decide +kernel
theorem dX8_lee_15 : decode cX8_lee 15 = .ok (.iload_n 1, 1) := by decide +kernel
theorem dX8_lee_16 : decode cX8_lee 16 = .ok (.iload_n 2, 1) := by decide +kernel
theorem dX8_lee_17 : decode cX8_lee 17 = .ok (.invokestatic 69, 3) := by decide +kernel
theorem dX8_lee_20 : decode cX8_lee 20 = .ok (.invokevirtual 72, 3) := by decide +kernel
theorem dX8_lee_23 : decode cX8_lee 23 = .ok (.goto 9, 3) := by decide +kernel
theorem dX8_lee_26 : decode cX8_lee 26 = .ok (.aload_n 0, 1) := by decide +kernel
theorem dX8_lee_27 : decode cX8_lee 27 = .ok (.ldc 41, 2) := by decide +kernel
theorem dX8_lee_29 : decode cX8_lee 29 = .ok (.invokevirtual 43, 3) := by decide +kernel
theorem dX8_lee_32 : decode cX8_lee 32 = .ok (.ireturn, 1) := by decide +kernel
theorem dX8_off_0 : decode cX8_off 0 = .ok (.iload_n 2, 1) := by decide +kernel
theorem dX8_off_1 : decode cX8_off 1 = .ok (.aload_n 0, 1) := by decide +kernel
theorem dX8_off_2 : decode cX8_off 2 = .ok (.iload_n 1, 1) := by decide +kernel
theorem dX8_off_3 : decode cX8_off 3 = .ok (.iconst 2, 1) := by decide +kernel
theorem dX8_off_4 : decode cX8_off 4 = .ok (.invokevirtual 75, 3) := by decide +kernel
theorem dX8_off_7 : decode cX8_off 7 = .ok (.if_icmp .le 14, 3) := by decide +kernel
theorem dX8_off_10 : decode cX8_off 10 = .ok (.iload_n 2, 1) := by decide +kernel
theorem dX8_off_11 : decode cX8_off 11 = .ok (.aload_n 0, 1) := by decide +kernel
theorem dX8_off_12 : decode cX8_off 12 = .ok (.iload_n 1, 1) := by decide +kernel
theorem dX8_off_13 : decode cX8_off 13 = .ok (.iconst 2, 1) := by decide +kernel
theorem dX8_off_14 : decode cX8_off 14 = .ok (.invokevirtual 75, 3) := by decide +kernel
theorem dX8_off_17 : decode cX8_off 17 = .ok (.isub, 1) := by decide +kernel
theorem dX8_off_18 : decode cX8_off 18 = .ok (.goto 11, 3) := by decide +kernel
theorem dX8_off_21 : decode cX8_off 21 = .ok (.aload_n 0, 1) := by decide +kernel
theorem dX8_off_22 : decode cX8_off 22 = .ok (.iload_n 1, 1) := by decide +kernel
theorem dX8_off_23 : decode cX8_off 23 = .ok (.iconst 2, 1) := by decide +kernel
theorem dX8_off_24 : decode cX8_off 24 = .ok (.invokevirtual 75, 3) := by decide +kernel
theorem dX8_off_27 : decode cX8_off 27 = .ok (.iload_n 2, 1) := by decide +kernel
theorem dX8_off_28 : decode cX8_off 28 = .ok (.isub, 1) := by decide +kernel
theorem dX8_off_29 : decode cX8_off 29 = .ok (.istore_n 3, 1) := by decide +kernel
theorem dX8_off_30 : decode cX8_off 30 = .ok (.iload_n 2, 1) := by decide +kernel
theorem dX8_off_31 : decode cX8_off 31 = .ok (.bipush 8, 2) := by decide +kernel
theorem dX8_off_33 : decode cX8_off 33 = .ok (.if_icmp .ne 7, 3) := by decide +kernel
theorem dX8_off_36 : decode cX8_off 36 = .ok (.iconst 4, 1) := by decide +kernel
theorem dX8_off_37 : decode cX8_off 37 = .ok (.goto 16, 3) := by decide +kernel
theorem dX8_off_40 : decode cX8_off 40 = .ok (.iload_n 3, 1) := by decide +kernel
theorem dX8_off_41 : decode cX8_off 41 = .ok (.iconst 4, 1) := by decide +kernel
theorem dX8_off_42 : decode cX8_off 42 = .ok (.if_icmp .le 10, 3) := by decide +kernel
theorem dX8_off_45 : decode cX8_off 45 = .ok (.bipush 8, 2) := by decide +kernel
theorem dX8_off_47 : decode cX8_off 47 = .ok (.iload_n 3, 1) := by decide +kernel
theorem dX8_off_48 : decode cX8_off 48 = .ok (.isub, 1) := by decide +kernel
theorem dX8_off_49 : decode cX8_off 49 = .ok (.goto 4, 3) := by decide +kernel
theorem dX8_off_52 : decode cX8_off 52 = .ok (.iload_n 3, 1) := by decide +kernel
theorem dX8_off_53 : decode cX8_off 53 = .ok (.ireturn, 1) := by decide +kernel
theorem dX8_doesGo_0 : decode cX8_doesGo 0 = .ok (.iload_n 2, 1) := by decide +kernel
theorem dX8_doesGo_1 : decode cX8_doesGo 1 = .ok (.bipush 8, 2) := by decide +kernel
theorem dX8_doesGo_3 : decode cX8_doesGo 3 = .ok (.if_icmp .ne 5, 3) := by decide +kernel
theorem dX8_doesGo_6 : decode cX8_doesGo 6 = .ok (.iconst 0, 1) := by decide +kernel
theorem dX8_doesGo_7 : decode cX8_doesGo 7 = .ok (.ireturn, 1) := by decide +kernel
theorem dX8_doesGo_8 : decode cX8_doesGo 8 = .ok (.aload_n 0, 1) := by decide +kernel
theorem dX8_doesGo_9 : decode cX8_doesGo 9 = .ok (.iload_n 1, 1) := by decide +kernel
theorem dX8_doesGo_10 : decode cX8_doesGo 10 = .ok (.iconst 0, 1) := by decide +kernel
theorem dX8_doesGo_11 : decode cX8_doesGo 11 = .ok (.invokevirtual 75, 3) := by decide +kernel
theorem dX8_doesGo_14 : decode cX8_doesGo 14 = .ok (.tableswitch 93 1 5 #[34, 50, 93, 67, 50], 34) := by decide +kernel
theorem dX8_doesGo_48 : decode cX8_doesGo 48 = .ok (.aload_n 0, 1) := by decide +kernel
theorem dX8_doesGo_49 : decode cX8_doesGo 49 = .ok (.getfield 9, 3) := by decide +kernel
theorem dX8_doesGo_52 : decode cX8_doesGo 52 = .ok (.iconst 1, 1) := by decide +kernel
theorem dX8_doesGo_53 : decode cX8_doesGo 53 = .ok (.iaload, 1) := by decide +kernel
theorem dX8_doesGo_54 : decode cX8_doesGo 54 = .ok (.iconst 2, 1) := by decide +kernel
theorem dX8_doesGo_55 : decode cX8_doesGo 55 = .ok (.if_icmp .lt 7, 3) := by decide +kernel
theorem dX8_doesGo_58 : decode cX8_doesGo 58 = .ok (.iconst 1, 1) := by decide +kernel
theorem dX8_doesGo_59 : decode cX8_doesGo 59 = .ok (.goto 4, 3) := by decide +kernel
theorem dX8_doesGo_62 : decode cX8_doesGo 62 = .ok (.iconst 0, 1) := by decide +kernel
theorem dX8_doesGo_63 : decode cX8_doesGo 63 = .ok (.ireturn, 1) := by decide +kernel
theorem dX8_doesGo_64 : decode cX8_doesGo 64 = .ok (.aload_n 0, 1) := by decide +kernel
theorem dX8_doesGo_65 : decode cX8_doesGo 65 = .ok (.getfield 9, 3) := by decide +kernel
theorem dX8_doesGo_68 : decode cX8_doesGo 68 = .ok (.iconst 1, 1) := by decide +kernel
theorem dX8_doesGo_69 : decode cX8_doesGo 69 = .ok (.iaload, 1) := by decide +kernel
theorem dX8_doesGo_70 : decode cX8_doesGo 70 = .ok (.bipush 9, 2) := by decide +kernel
theorem dX8_doesGo_72 : decode cX8_doesGo 72 = .ok (.if_icmp .ne 7, 3) := by decide +kernel
theorem dX8_doesGo_75 : decode cX8_doesGo 75 = .ok (.iconst 1, 1) := by decide +kernel
theorem dX8_doesGo_76 : decode cX8_doesGo 76 = .ok (.goto 4, 3) := by decide +kernel
theorem dX8_doesGo_79 : decode cX8_doesGo 79 = .ok (.iconst 0, 1) := by decide +kernel
theorem dX8_doesGo_80 : decode cX8_doesGo 80 = .ok (.ireturn, 1) := by decide +kernel
theorem dX8_doesGo_81 : decode cX8_doesGo 81 = .ok (.aload_n 0, 1) := by decide +kernel
theorem dX8_doesGo_82 : decode cX8_doesGo 82 = .ok (.getfield 9, 3) := by decide +kernel
theorem dX8_doesGo_85 : decode cX8_doesGo 85 = .ok (.iconst 1, 1) := by decide +kernel
theorem dX8_doesGo_86 : decode cX8_doesGo 86 = .ok (.iaload, 1) := by decide +kernel
theorem dX8_doesGo_87 : decode cX8_doesGo 87 = .ok (.iconst 2, 1) := by decide +kernel
theorem dX8_doesGo_88 : decode cX8_doesGo 88 = .ok (.if_icmp .lt 17, 3) := by decide +kernel
theorem dX8_doesGo_91 : decode cX8_doesGo 91 = .ok (.aload_n 0, 1) := by decide +kernel
theorem dX8_doesGo_92 : decode cX8_doesGo 92 = .ok (.iload_n 1, 1) := by decide +kernel
theorem dX8_doesGo_93 : decode cX8_doesGo 93 = .ok (.iload_n 2, 1) := by decide +kernel
theorem dX8_doesGo_94 : decode cX8_doesGo 94 = .ok (.invokevirtual 78, 3) := by decide +kernel
theorem dX8_doesGo_97 : decode cX8_doesGo 97 = .ok (.iconst 1, 1) := by decide +kernel
theorem dX8_doesGo_98 : decode cX8_doesGo 98 = .ok (.if_icmp .gt 7, 3) := by decide +kernel
theorem dX8_doesGo_101 : decode cX8_doesGo 101 = .ok (.iconst 1, 1) := by decide +kernel
theorem dX8_doesGo_102 : decode cX8_doesGo 102 = .ok (.goto 4, 3) := by decide +kernel
theorem dX8_doesGo_105 : decode cX8_doesGo 105 = .ok (.iconst 0, 1) := by decide +kernel
theorem dX8_doesGo_106 : decode cX8_doesGo 106 = .ok (.ireturn, 1) := by decide +kernel
theorem dX8_doesGo_107 : decode cX8_doesGo 107 = .ok (.iconst 0, 1) := by decide +kernel
theorem dX8_doesGo_108 : decode cX8_doesGo 108 = .ok (.ireturn, 1) := by decide +kernel
theorem dX8_earns_0 : decode cX8_earns 0 = .ok (.iload_n 2, 1) := by decide +kernel
theorem dX8_earns_1 : decode cX8_earns 1 = .ok (.bipush 8, 2) := by decide +kernel
theorem dX8_earns_3 : decode cX8_earns 3 = .ok (.if_icmp .ne 7, 3) := by decide +kernel
theorem dX8_earns_6 : decode cX8_earns 6 = .ok (.iconst 0, 1) := by decide +kernel
theorem dX8_earns_7 : decode cX8_earns 7 = .ok (.goto 9, 3) := by decide +kernel
theorem dX8_earns_10 : decode cX8_earns 10 = .ok (.aload_n 0, 1) := by decide +kernel
theorem dX8_earns_11 : decode cX8_earns 11 = .ok (.getfield 9, 3) := by decide +kernel
theorem dX8_earns_14 : decode cX8_earns 14 = .ok (.iconst 1, 1) := by decide +kernel
theorem dX8_earns_15 : decode cX8_earns 15 = .ok (.iaload, 1) := by decide +kernel
theorem dX8_earns_16 : decode cX8_earns 16 = .ok (.istore_n 3, 1) := by decide +kernel
end
section
theorem dX8_earns_17 : decode cX8_earns 17 = .ok (.iload_n 3, 1) := by decide +kernel
theorem dX8_earns_18 : decode cX8_earns 18 = .ok (.aload_n 0, 1) := by decide +kernel
theorem dX8_earns_19 : decode cX8_earns 19 = .ok (.iload_n 1, 1) := by decide +kernel
theorem dX8_earns_20 : decode cX8_earns 20 = .ok (.iload_n 2, 1) := by decide +kernel
theorem dX8_earns_21 : decode cX8_earns 21 = .ok (.invokevirtual 78, 3) := by decide +kernel
theorem dX8_earns_24 : decode cX8_earns 24 = .ok (.isub, 1) := by decide +kernel
theorem dX8_earns_25 : decode cX8_earns 25 = .ok (.iconst 0, 1) := by decide +kernel
theorem dX8_earns_26 : decode cX8_earns 26 = .ok (.bipush 9, 2) := by decide +kernel
theorem dX8_earns_28 : decode cX8_earns 28 = .ok (.invokestatic 81, 3) := by decide +kernel
theorem dX8_earns_31 : decode cX8_earns 31 = .ok (.istore 4, 2) := by decide +kernel
theorem dX8_earns_33 : decode cX8_earns 33 = .ok (.iload_n 3, 1) := by decide +kernel
theorem dX8_earns_34 : decode cX8_earns 34 = .ok (.i2l, 1) := by decide +kernel
theorem dX8_earns_35 : decode cX8_earns 35 = .ok (.iconst 1, 1) := by decide +kernel
theorem dX8_earns_36 : decode cX8_earns 36 = .ok (.iconst 5, 1) := by decide +kernel
theorem dX8_earns_37 : decode cX8_earns 37 = .ok (.invokestatic 47, 3) := by decide +kernel
theorem dX8_earns_40 : decode cX8_earns 40 = .ok (.ifCond .eq 7, 3) := by decide +kernel
theorem dX8_earns_43 : decode cX8_earns 43 = .ok (.iconst 3, 1) := by decide +kernel
theorem dX8_earns_44 : decode cX8_earns 44 = .ok (.goto 4, 3) := by decide +kernel
theorem dX8_earns_47 : decode cX8_earns 47 = .ok (.iconst 0, 1) := by decide +kernel
theorem dX8_earns_48 : decode cX8_earns 48 = .ok (.istore 5, 2) := by decide +kernel
theorem dX8_earns_50 : decode cX8_earns 50 = .ok (.aload_n 0, 1) := by decide +kernel
theorem dX8_earns_51 : decode cX8_earns 51 = .ok (.iload_n 1, 1) := by decide +kernel
theorem dX8_earns_52 : decode cX8_earns 52 = .ok (.iconst 0, 1) := by decide +kernel
theorem dX8_earns_53 : decode cX8_earns 53 = .ok (.invokevirtual 75, 3) := by decide +kernel
theorem dX8_earns_56 : decode cX8_earns 56 = .ok (.tableswitch 104 1 5 #[36, 41, 44, 63, 81], 36) := by decide +kernel
theorem dX8_earns_92 : decode cX8_earns 92 = .ok (.iload 4, 2) := by decide +kernel
theorem dX8_earns_94 : decode cX8_earns 94 = .ok (.iconst 1, 1) := by decide +kernel
theorem dX8_earns_95 : decode cX8_earns 95 = .ok (.iadd, 1) := by decide +kernel
theorem dX8_earns_96 : decode cX8_earns 96 = .ok (.ireturn, 1) := by decide +kernel
theorem dX8_earns_97 : decode cX8_earns 97 = .ok (.iload 5, 2) := by decide +kernel
theorem dX8_earns_99 : decode cX8_earns 99 = .ok (.ireturn, 1) := by decide +kernel
theorem dX8_earns_100 : decode cX8_earns 100 = .ok (.aload_n 0, 1) := by decide +kernel
theorem dX8_earns_101 : decode cX8_earns 101 = .ok (.iload_n 1, 1) := by decide +kernel
theorem dX8_earns_102 : decode cX8_earns 102 = .ok (.iload_n 2, 1) := by decide +kernel
theorem dX8_earns_103 : decode cX8_earns 103 = .ok (.invokevirtual 78, 3) := by decide +kernel
theorem dX8_earns_106 : decode cX8_earns 106 = .ok (.ifCond .ne 10, 3) := by decide +kernel
theorem dX8_earns_109 : decode cX8_earns 109 = .ok (.iconst 2, 1) := by decide +kernel
theorem dX8_earns_110 : decode cX8_earns 110 = .ok (.iload 4, 2) := by decide +kernel
theorem dX8_earns_112 : decode cX8_earns 112 = .ok (.imul, 1) := by decide +kernel
theorem dX8_earns_113 : decode cX8_earns 113 = .ok (.goto 5, 3) := by decide +kernel
theorem dX8_earns_116 : decode cX8_earns 116 = .ok (.iload 4, 2) := by decide +kernel
theorem dX8_earns_118 : decode cX8_earns 118 = .ok (.ireturn, 1) := by decide +kernel
theorem dX8_earns_119 : decode cX8_earns 119 = .ok (.aload_n 0, 1) := by decide +kernel
theorem dX8_earns_120 : decode cX8_earns 120 = .ok (.iload_n 1, 1) := by decide +kernel
theorem dX8_earns_121 : decode cX8_earns 121 = .ok (.iload_n 2, 1) := by decide +kernel
theorem dX8_earns_122 : decode cX8_earns 122 = .ok (.invokevirtual 85, 3) := by decide +kernel
theorem dX8_earns_125 : decode cX8_earns 125 = .ok (.ifCond .eq 10, 3) := by decide +kernel
theorem dX8_earns_128 : decode cX8_earns 128 = .ok (.iload 4, 2) := by decide +kernel
theorem dX8_earns_130 : decode cX8_earns 130 = .ok (.iconst 1, 1) := by decide +kernel
theorem dX8_earns_131 : decode cX8_earns 131 = .ok (.iadd, 1) := by decide +kernel
theorem dX8_earns_132 : decode cX8_earns 132 = .ok (.goto 4, 3) := by decide +kernel
theorem dX8_earns_135 : decode cX8_earns 135 = .ok (.iconst 0, 1) := by decide +kernel
theorem dX8_earns_136 : decode cX8_earns 136 = .ok (.ireturn, 1) := by decide +kernel
theorem dX8_earns_137 : decode cX8_earns 137 = .ok (.aload_n 0, 1) := by decide +kernel
theorem dX8_earns_138 : decode cX8_earns 138 = .ok (.getfield 9, 3) := by decide +kernel
theorem dX8_earns_141 : decode cX8_earns 141 = .ok (.iconst 0, 1) := by decide +kernel
theorem dX8_earns_142 : decode cX8_earns 142 = .ok (.iaload, 1) := by decide +kernel
theorem dX8_earns_143 : decode cX8_earns 143 = .ok (.bipush 7, 2) := by decide +kernel
theorem dX8_earns_145 : decode cX8_earns 145 = .ok (.irem, 1) := by decide +kernel
theorem dX8_earns_146 : decode cX8_earns 146 = .ok (.iconst 1, 1) := by decide +kernel
theorem dX8_earns_147 : decode cX8_earns 147 = .ok (.if_icmp .ne 10, 3) := by decide +kernel
theorem dX8_earns_150 : decode cX8_earns 150 = .ok (.iload 5, 2) := by decide +kernel
theorem dX8_earns_152 : decode cX8_earns 152 = .ok (.iconst 5, 1) := by decide +kernel
theorem dX8_earns_153 : decode cX8_earns 153 = .ok (.iadd, 1) := by decide +kernel
theorem dX8_earns_154 : decode cX8_earns 154 = .ok (.goto 5, 3) := by decide +kernel
theorem dX8_earns_157 : decode cX8_earns 157 = .ok (.iload 5, 2) := by decide +kernel
theorem dX8_earns_159 : decode cX8_earns 159 = .ok (.ireturn, 1) := by decide +kernel
theorem dX8_earns_160 : decode cX8_earns 160 = .ok (.iload 4, 2) := by decide +kernel
theorem dX8_earns_162 : decode cX8_earns 162 = .ok (.ireturn, 1) := by decide +kernel
theorem dX8_wentTo_0 : decode cX8_wentTo 0 = .ok (.aload_n 0, 1) := by decide +kernel
theorem dX8_wentTo_1 : decode cX8_wentTo 1 = .ok (.iload_n 1, 1) := by decide +kernel
theorem dX8_wentTo_2 : decode cX8_wentTo 2 = .ok (.iload_n 3, 1) := by decide +kernel
theorem dX8_wentTo_3 : decode cX8_wentTo 3 = .ok (.invokevirtual 85, 3) := by decide +kernel
theorem dX8_wentTo_6 : decode cX8_wentTo 6 = .ok (.ifCond .eq 11, 3) := by decide +kernel
theorem dX8_wentTo_9 : decode cX8_wentTo 9 = .ok (.iload_n 2, 1) := by decide +kernel
theorem dX8_wentTo_10 : decode cX8_wentTo 10 = .ok (.iload_n 3, 1) := by decide +kernel
theorem dX8_wentTo_11 : decode cX8_wentTo 11 = .ok (.invokestatic 69, 3) := by decide +kernel
theorem dX8_wentTo_14 : decode cX8_wentTo 14 = .ok (.goto 4, 3) := by decide +kernel
theorem dX8_wentTo_17 : decode cX8_wentTo 17 = .ok (.iconst (-1), 1) := by decide +kernel
theorem dX8_wentTo_18 : decode cX8_wentTo 18 = .ok (.istore 4, 2) := by decide +kernel
theorem dX8_wentTo_20 : decode cX8_wentTo 20 = .ok (.iload 4, 2) := by decide +kernel
theorem dX8_wentTo_22 : decode cX8_wentTo 22 = .ok (.ifCond .ge 7, 3) := by decide +kernel
theorem dX8_wentTo_25 : decode cX8_wentTo 25 = .ok (.iload_n 2, 1) := by decide +kernel
theorem dX8_wentTo_26 : decode cX8_wentTo 26 = .ok (.goto 5, 3) := by decide +kernel
theorem dX8_wentTo_29 : decode cX8_wentTo 29 = .ok (.iload 4, 2) := by decide +kernel
theorem dX8_wentTo_31 : decode cX8_wentTo 31 = .ok (.ireturn, 1) := by decide +kernel
theorem dX8_comesAt_0 : decode cX8_comesAt 0 = .ok (.aload_n 0, 1) := by decide +kernel
theorem dX8_comesAt_1 : decode cX8_comesAt 1 = .ok (.getfield 9, 3) := by decide +kernel
theorem dX8_comesAt_4 : decode cX8_comesAt 4 = .ok (.iconst 3, 1) := by decide +kernel
theorem dX8_comesAt_5 : decode cX8_comesAt 5 = .ok (.iaload, 1) := by decide +kernel
theorem dX8_comesAt_6 : decode cX8_comesAt 6 = .ok (.istore 4, 2) := by decide +kernel
theorem dX8_comesAt_8 : decode cX8_comesAt 8 = .ok (.aload_n 0, 1) := by decide +kernel
theorem dX8_comesAt_9 : decode cX8_comesAt 9 = .ok (.getfield 9, 3) := by decide +kernel
theorem dX8_comesAt_12 : decode cX8_comesAt 12 = .ok (.iconst 3, 1) := by decide +kernel
theorem dX8_comesAt_13 : decode cX8_comesAt 13 = .ok (.dup2, 1) := by decide +kernel
theorem dX8_comesAt_14 : decode cX8_comesAt 14 = .ok (.iaload, 1) := by decide +kernel
theorem dX8_comesAt_15 : decode cX8_comesAt 15 = .ok (.iconst 1, 1) := by decide +kernel
theorem dX8_comesAt_16 : decode cX8_comesAt 16 = .ok (.iadd, 1) := by decide +kernel
theorem dX8_comesAt_17 : decode cX8_comesAt 17 = .ok (.iastore, 1) := by decide +kernel
theorem dX8_comesAt_18 : decode cX8_comesAt 18 = .ok (.aload_n 0, 1) := by decide +kernel
theorem dX8_comesAt_19 : decode cX8_comesAt 19 = .ok (.iload 4, 2) := by decide +kernel
theorem dX8_comesAt_21 : decode cX8_comesAt 21 = .ok (.iconst 0, 1) := by decide +kernel
theorem dX8_comesAt_22 : decode cX8_comesAt 22 = .ok (.iload_n 1, 1) := by decide +kernel
theorem dX8_comesAt_23 : decode cX8_comesAt 23 = .ok (.invokevirtual 89, 3) := by decide +kernel
theorem dX8_comesAt_26 : decode cX8_comesAt 26 = .ok (.aload_n 0, 1) := by decide +kernel
theorem dX8_comesAt_27 : decode cX8_comesAt 27 = .ok (.iload 4, 2) := by decide +kernel
theorem dX8_comesAt_29 : decode cX8_comesAt 29 = .ok (.iconst 1, 1) := by decide +kernel
theorem dX8_comesAt_30 : decode cX8_comesAt 30 = .ok (.iload_n 2, 1) := by decide +kernel
theorem dX8_comesAt_31 : decode cX8_comesAt 31 = .ok (.invokevirtual 89, 3) := by decide +kernel
theorem dX8_comesAt_34 : decode cX8_comesAt 34 = .ok (.aload_n 0, 1) := by decide +kernel
theorem dX8_comesAt_35 : decode cX8_comesAt 35 = .ok (.iload 4, 2) := by decide +kernel
theorem dX8_comesAt_37 : decode cX8_comesAt 37 = .ok (.iconst 2, 1) := by decide +kernel
theorem dX8_comesAt_38 : decode cX8_comesAt 38 = .ok (.iload_n 3, 1) := by decide +kernel
theorem dX8_comesAt_39 : decode cX8_comesAt 39 = .ok (.invokevirtual 89, 3) := by decide +kernel
theorem dX8_comesAt_42 : decode cX8_comesAt 42 = .ok (.aload_n 0, 1) := by decide +kernel
theorem dX8_comesAt_43 : decode cX8_comesAt 43 = .ok (.iload 4, 2) := by decide +kernel
theorem dX8_comesAt_45 : decode cX8_comesAt 45 = .ok (.iconst 3, 1) := by decide +kernel
theorem dX8_comesAt_46 : decode cX8_comesAt 46 = .ok (.iconst 0, 1) := by decide +kernel
theorem dX8_comesAt_47 : decode cX8_comesAt 47 = .ok (.invokevirtual 89, 3) := by decide +kernel
theorem dX8_comesAt_50 : decode cX8_comesAt 50 = .ok (.iload 4, 2) := by decide +kernel
theorem dX8_comesAt_52 : decode cX8_comesAt 52 = .ok (.ireturn, 1) := by decide +kernel
theorem dX8_thing_0 : decode cX8_thing 0 = .ok (.iload_n 1, 1) := by decide +kernel
theorem dX8_thing_1 : decode cX8_thing 1 = .ok (.i2l, 1) := by decide +kernel
theorem dX8_thing_2 : decode cX8_thing 2 = .ok (.iconst 0, 1) := by decide +kernel
theorem dX8_thing_3 : decode cX8_thing 3 = .ok (.iconst 5, 1) := by decide +kernel
theorem dX8_thing_4 : decode cX8_thing 4 = .ok (.invokestatic 47, 3) := by decide +kernel
theorem dX8_thing_7 : decode cX8_thing 7 = .ok (.ifCond .eq 10, 3) := by decide +kernel
theorem dX8_thing_10 : decode cX8_thing 10 = .ok (.iload_n 2, 1) := by decide +kernel
theorem dX8_thing_11 : decode cX8_thing 11 = .ok (.invokestatic 66, 3) := by decide +kernel
theorem dX8_thing_14 : decode cX8_thing 14 = .ok (.ifCond .ne 10, 3) := by decide +kernel
theorem dX8_thing_17 : decode cX8_thing 17 = .ok (.aload_n 0, 1) := by decide +kernel
theorem dX8_thing_18 : decode cX8_thing 18 = .ok (.ldc 41, 2) := by decide +kernel
theorem dX8_thing_20 : decode cX8_thing 20 = .ok (.invokevirtual 43, 3) := by decide +kernel
theorem dX8_thing_23 : decode cX8_thing 23 = .ok (.ireturn, 1) := by decide +kernel
theorem dX8_thing_24 : decode cX8_thing 24 = .ok (.aload_n 0, 1) := by decide +kernel
theorem dX8_thing_25 : decode cX8_thing 25 = .ok (.getfield 9, 3) := by decide +kernel
theorem dX8_thing_28 : decode cX8_thing 28 = .ok (.iconst 3, 1) := by decide +kernel
theorem dX8_thing_29 : decode cX8_thing 29 = .ok (.iaload, 1) := by decide +kernel
theorem dX8_thing_30 : decode cX8_thing 30 = .ok (.bipush 8, 2) := by decide +kernel
theorem dX8_thing_32 : decode cX8_thing 32 = .ok (.if_icmp .ne 12, 3) := by decide +kernel
theorem dX8_thing_35 : decode cX8_thing 35 = .ok (.aload_n 0, 1) := by decide +kernel
theorem dX8_thing_36 : decode cX8_thing 36 = .ok (.ldc 93, 2) := by decide +kernel
theorem dX8_thing_38 : decode cX8_thing 38 = .ok (.invokevirtual 43, 3) := by decide +kernel
theorem dX8_thing_41 : decode cX8_thing 41 = .ok (.goto 10, 3) := by decide +kernel
theorem dX8_thing_44 : decode cX8_thing 44 = .ok (.aload_n 0, 1) := by decide +kernel
theorem dX8_thing_45 : decode cX8_thing 45 = .ok (.iload_n 1, 1) := by decide +kernel
theorem dX8_thing_46 : decode cX8_thing 46 = .ok (.iload_n 2, 1) := by decide +kernel
theorem dX8_thing_47 : decode cX8_thing 47 = .ok (.iconst 0, 1) := by decide +kernel
theorem dX8_thing_48 : decode cX8_thing 48 = .ok (.invokevirtual 94, 3) := by decide +kernel
theorem dX8_thing_51 : decode cX8_thing 51 = .ok (.ireturn, 1) := by decide +kernel
theorem dX8_of_0 : decode cX8_of 0 = .ok (.aload_n 0, 1) := by decide +kernel
theorem dX8_of_1 : decode cX8_of 1 = .ok (.iload_n 1, 1) := by decide +kernel
theorem dX8_of_2 : decode cX8_of 2 = .ok (.invokevirtual 97, 3) := by decide +kernel
theorem dX8_of_5 : decode cX8_of 5 = .ok (.ifCond .eq 13, 3) := by decide +kernel
theorem dX8_of_8 : decode cX8_of 8 = .ok (.iload_n 2, 1) := by decide +kernel
theorem dX8_of_9 : decode cX8_of 9 = .ok (.i2l, 1) := by decide +kernel
theorem dX8_of_10 : decode cX8_of 10 = .ok (.iconst 0, 1) := by decide +kernel
theorem dX8_of_11 : decode cX8_of 11 = .ok (.iconst 5, 1) := by decide +kernel
theorem dX8_of_12 : decode cX8_of 12 = .ok (.invokestatic 47, 3) := by decide +kernel
theorem dX8_of_15 : decode cX8_of 15 = .ok (.ifCond .ne 10, 3) := by decide +kernel
theorem dX8_of_18 : decode cX8_of 18 = .ok (.aload_n 0, 1) := by decide +kernel
theorem dX8_of_19 : decode cX8_of 19 = .ok (.ldc 41, 2) := by decide +kernel
theorem dX8_of_21 : decode cX8_of 21 = .ok (.invokevirtual 43, 3) := by decide +kernel
theorem dX8_of_24 : decode cX8_of 24 = .ok (.ireturn, 1) := by decide +kernel
theorem dX8_of_25 : decode cX8_of 25 = .ok (.aload_n 0, 1) := by decide +kernel
theorem dX8_of_26 : decode cX8_of 26 = .ok (.aload_n 0, 1) := by decide +kernel
theorem dX8_of_27 : decode cX8_of 27 = .ok (.getfield 9, 3) := by decide +kernel
theorem dX8_of_30 : decode cX8_of 30 = .ok (.iconst 0, 1) := by decide +kernel
theorem dX8_of_31 : decode cX8_of 31 = .ok (.iaload, 1) := by decide +kernel
theorem dX8_of_32 : decode cX8_of 32 = .ok (.invokevirtual 63, 3) := by decide +kernel
theorem dX8_of_35 : decode cX8_of 35 = .ok (.istore_n 3, 1) := by decide +kernel
theorem dX8_of_36 : decode cX8_of 36 = .ok (.iload_n 2, 1) := by decide +kernel
theorem dX8_of_37 : decode cX8_of 37 = .ok (.iconst 4, 1) := by decide +kernel
theorem dX8_of_38 : decode cX8_of 38 = .ok (.if_icmp .ge 12, 3) := by decide +kernel
theorem dX8_of_41 : decode cX8_of 41 = .ok (.aload_n 0, 1) := by decide +kernel
theorem dX8_of_42 : decode cX8_of 42 = .ok (.iload_n 1, 1) := by decide +kernel
theorem dX8_of_43 : decode cX8_of 43 = .ok (.iload_n 2, 1) := by decide +kernel
theorem dX8_of_44 : decode cX8_of 44 = .ok (.invokevirtual 75, 3) := by decide +kernel
theorem dX8_of_47 : decode cX8_of 47 = .ok (.goto 31, 3) := by decide +kernel
theorem dX8_of_50 : decode cX8_of 50 = .ok (.iload_n 2, 1) := by decide +kernel
theorem dX8_of_51 : decode cX8_of 51 = .ok (.iconst 4, 1) := by decide +kernel
theorem dX8_of_52 : decode cX8_of 52 = .ok (.if_icmp .ne 12, 3) := by decide +kernel
theorem dX8_of_55 : decode cX8_of 55 = .ok (.aload_n 0, 1) := by decide +kernel
theorem dX8_of_56 : decode cX8_of 56 = .ok (.iload_n 1, 1) := by decide +kernel
theorem dX8_of_57 : decode cX8_of 57 = .ok (.iload_n 3, 1) := by decide +kernel
theorem dX8_of_58 : decode cX8_of 58 = .ok (.invokevirtual 100, 3) := by decide +kernel
theorem dX8_of_61 : decode cX8_of 61 = .ok (.goto 17, 3) := by decide +kernel
theorem dX8_of_64 : decode cX8_of 64 = .ok (.aload_n 0, 1) := by decide +kernel
theorem dX8_of_65 : decode cX8_of 65 = .ok (.iload_n 1, 1) := by decide +kernel
theorem dX8_of_66 : decode cX8_of 66 = .ok (.iload_n 3, 1) := by decide +kernel
theorem dX8_of_67 : decode cX8_of 67 = .ok (.invokevirtual 85, 3) := by decide +kernel
theorem dX8_of_70 : decode cX8_of 70 = .ok (.ifCond .eq 7, 3) := by decide +kernel
theorem dX8_of_73 : decode cX8_of 73 = .ok (.iconst 1, 1) := by decide +kernel
theorem dX8_of_74 : decode cX8_of 74 = .ok (.goto 4, 3) := by decide +kernel
theorem dX8_of_77 : decode cX8_of 77 = .ok (.iconst 0, 1) := by decide +kernel
theorem dX8_of_78 : decode cX8_of 78 = .ok (.ireturn, 1) := by decide +kernel
theorem dX8_set_0 : decode cX8_set 0 = .ok (.aload_n 0, 1) := by decide +kernel
theorem dX8_set_1 : decode cX8_set 1 = .ok (.iload_n 1, 1) := by decide +kernel
theorem dX8_set_2 : decode cX8_set 2 = .ok (.invokevirtual 97, 3) := by decide +kernel
theorem dX8_set_5 : decode cX8_set 5 = .ok (.ifCond .eq 48, 3) := by decide +kernel
theorem dX8_set_8 : decode cX8_set 8 = .ok (.iload_n 2, 1) := by decide +kernel
theorem dX8_set_9 : decode cX8_set 9 = .ok (.i2l, 1) := by decide +kernel
theorem dX8_set_10 : decode cX8_set 10 = .ok (.iconst 1, 1) := by decide +kernel
theorem dX8_set_11 : decode cX8_set 11 = .ok (.iconst 3, 1) := by decide +kernel
theorem dX8_set_12 : decode cX8_set 12 = .ok (.invokestatic 47, 3) := by decide +kernel
theorem dX8_set_15 : decode cX8_set 15 = .ok (.ifCond .eq 38, 3) := by decide +kernel
theorem dX8_set_18 : decode cX8_set 18 = .ok (.iload_n 3, 1) := by decide +kernel
theorem dX8_set_19 : decode cX8_set 19 = .ok (.i2l, 1) := by decide +kernel
theorem dX8_set_20 : decode cX8_set 20 = .ok (.iconst 0, 1) := by decide +kernel
theorem dX8_set_21 : decode cX8_set 21 = .ok (.iload_n 2, 1) := by decide +kernel
theorem dX8_set_22 : decode cX8_set 22 = .ok (.iconst 1, 1) := by decide +kernel
theorem dX8_set_23 : decode cX8_set 23 = .ok (.if_icmp .ne 8, 3) := by decide +kernel
theorem dX8_set_26 : decode cX8_set 26 = .ok (.bipush 35, 2) := by decide +kernel
theorem dX8_set_28 : decode cX8_set 28 = .ok (.goto 15, 3) := by decide +kernel
theorem dX8_set_31 : decode cX8_set 31 = .ok (.iload_n 2, 1) := by decide +kernel
theorem dX8_set_32 : decode cX8_set 32 = .ok (.iconst 2, 1) := by decide +kernel
theorem dX8_set_33 : decode cX8_set 33 = .ok (.if_icmp .ne 8, 3) := by decide +kernel
theorem dX8_set_36 : decode cX8_set 36 = .ok (.bipush 7, 2) := by decide +kernel
theorem dX8_set_38 : decode cX8_set 38 = .ok (.goto 5, 3) := by decide +kernel
theorem dX8_set_41 : decode cX8_set 41 = .ok (.ldc 103, 2) := by decide +kernel
theorem dX8_set_43 : decode cX8_set 43 = .ok (.invokestatic 47, 3) := by decide +kernel
theorem dX8_set_46 : decode cX8_set 46 = .ok (.ifCond .eq 7, 3) := by decide +kernel
theorem dX8_set_49 : decode cX8_set 49 = .ok (.iconst 1, 1) := by decide +kernel
theorem dX8_set_50 : decode cX8_set 50 = .ok (.goto 4, 3) := by decide +kernel
theorem dX8_set_53 : decode cX8_set 53 = .ok (.iconst 0, 1) := by decide +kernel
theorem dX8_set_54 : decode cX8_set 54 = .ok (.istore 4, 2) := by decide +kernel
theorem dX8_set_56 : decode cX8_set 56 = .ok (.iload 4, 2) := by decide +kernel
theorem dX8_set_58 : decode cX8_set 58 = .ok (.ifCond .eq 19, 3) := by decide +kernel
theorem dX8_set_61 : decode cX8_set 61 = .ok (.aload_n 0, 1) := by decide +kernel
theorem dX8_set_62 : decode cX8_set 62 = .ok (.bipush 11, 2) := by decide +kernel
theorem dX8_set_64 : decode cX8_set 64 = .ok (.iconst 4, 1) := by decide +kernel
theorem dX8_set_65 : decode cX8_set 65 = .ok (.iload_n 1, 1) := by decide +kernel
theorem dX8_set_66 : decode cX8_set 66 = .ok (.imul, 1) := by decide +kernel
theorem dX8_set_67 : decode cX8_set 67 = .ok (.iadd, 1) := by decide +kernel
theorem dX8_set_68 : decode cX8_set 68 = .ok (.iload_n 2, 1) := by decide +kernel
theorem dX8_set_69 : decode cX8_set 69 = .ok (.iadd, 1) := by decide +kernel
theorem dX8_set_70 : decode cX8_set 70 = .ok (.iload_n 3, 1) := by decide +kernel
theorem dX8_set_71 : decode cX8_set 71 = .ok (.invokevirtual 51, 3) := by decide +kernel
theorem dX8_set_74 : decode cX8_set 74 = .ok (.goto 9, 3) := by decide +kernel
theorem dX8_set_77 : decode cX8_set 77 = .ok (.aload_n 0, 1) := by decide +kernel
theorem dX8_set_78 : decode cX8_set 78 = .ok (.ldc 41, 2) := by decide +kernel
theorem dX8_set_80 : decode cX8_set 80 = .ok (.invokevirtual 43, 3) := by decide +kernel
theorem dX8_set_83 : decode cX8_set 83 = .ok (.ireturn, 1) := by decide +kernel
theorem dX8_turn_0 : decode cX8_turn 0 = .ok (.aload_n 0, 1) := by decide +kernel
theorem dX8_turn_1 : decode cX8_turn 1 = .ok (.iload_n 1, 1) := by decide +kernel
theorem dX8_turn_2 : decode cX8_turn 2 = .ok (.invokevirtual 97, 3) := by decide +kernel
theorem dX8_turn_5 : decode cX8_turn 5 = .ok (.ifCond .eq 27, 3) := by decide +kernel
theorem dX8_turn_8 : decode cX8_turn 8 = .ok (.iload_n 2, 1) := by decide +kernel
theorem dX8_turn_9 : decode cX8_turn 9 = .ok (.i2l, 1) := by decide +kernel
theorem dX8_turn_10 : decode cX8_turn 10 = .ok (.iconst 0, 1) := by decide +kernel
theorem dX8_turn_11 : decode cX8_turn 11 = .ok (.iconst 5, 1) := by decide +kernel
theorem dX8_turn_12 : decode cX8_turn 12 = .ok (.invokestatic 47, 3) := by decide +kernel
theorem dX8_turn_15 : decode cX8_turn 15 = .ok (.ifCond .eq 17, 3) := by decide +kernel
theorem dX8_turn_18 : decode cX8_turn 18 = .ok (.aload_n 0, 1) := by decide +kernel
theorem dX8_turn_19 : decode cX8_turn 19 = .ok (.bipush 11, 2) := by decide +kernel
theorem dX8_turn_21 : decode cX8_turn 21 = .ok (.iconst 4, 1) := by decide +kernel
theorem dX8_turn_22 : decode cX8_turn 22 = .ok (.iload_n 1, 1) := by decide +kernel
theorem dX8_turn_23 : decode cX8_turn 23 = .ok (.imul, 1) := by decide +kernel
theorem dX8_turn_24 : decode cX8_turn 24 = .ok (.iadd, 1) := by decide +kernel
theorem dX8_turn_25 : decode cX8_turn 25 = .ok (.iload_n 2, 1) := by decide +kernel
theorem dX8_turn_26 : decode cX8_turn 26 = .ok (.invokevirtual 51, 3) := by decide +kernel
theorem dX8_turn_29 : decode cX8_turn 29 = .ok (.goto 9, 3) := by decide +kernel
theorem dX8_turn_32 : decode cX8_turn 32 = .ok (.aload_n 0, 1) := by decide +kernel
theorem dX8_turn_33 : decode cX8_turn 33 = .ok (.ldc 41, 2) := by decide +kernel
theorem dX8_turn_35 : decode cX8_turn 35 = .ok (.invokevirtual 43, 3) := by decide +kernel
theorem dX8_turn_38 : decode cX8_turn 38 = .ok (.ireturn, 1) := by decide +kernel
theorem dX8_as_0 : decode cX8_as 0 = .ok (.aload_n 0, 1) := by decide +kernel
theorem dX8_as_1 : decode cX8_as 1 = .ok (.iload_n 1, 1) := by decide +kernel
theorem dX8_as_2 : decode cX8_as 2 = .ok (.invokevirtual 97, 3) := by decide +kernel
theorem dX8_as_5 : decode cX8_as 5 = .ok (.ifCond .eq 13, 3) := by decide +kernel
theorem dX8_as_8 : decode cX8_as 8 = .ok (.iload_n 2, 1) := by decide +kernel
theorem dX8_as_9 : decode cX8_as 9 = .ok (.i2l, 1) := by decide +kernel
theorem dX8_as_10 : decode cX8_as 10 = .ok (.iconst 0, 1) := by decide +kernel
theorem dX8_as_11 : decode cX8_as 11 = .ok (.iconst 5, 1) := by decide +kernel
theorem dX8_as_12 : decode cX8_as 12 = .ok (.invokestatic 47, 3) := by decide +kernel
theorem dX8_as_15 : decode cX8_as 15 = .ok (.ifCond .ne 10, 3) := by decide +kernel
theorem dX8_as_18 : decode cX8_as 18 = .ok (.aload_n 0, 1) := by decide +kernel
theorem dX8_as_19 : decode cX8_as 19 = .ok (.ldc 41, 2) := by decide +kernel
theorem dX8_as_21 : decode cX8_as 21 = .ok (.invokevirtual 43, 3) := by decide +kernel
theorem dX8_as_24 : decode cX8_as 24 = .ok (.ireturn, 1) := by decide +kernel
theorem dX8_as_25 : decode cX8_as 25 = .ok (.aload_n 0, 1) := by decide +kernel
theorem dX8_as_26 : decode cX8_as 26 = .ok (.iload_n 1, 1) := by decide +kernel
theorem dX8_as_27 : decode cX8_as 27 = .ok (.iconst 0, 1) := by decide +kernel
theorem dX8_as_28 : decode cX8_as 28 = .ok (.invokevirtual 75, 3) := by decide +kernel
theorem dX8_as_31 : decode cX8_as 31 = .ok (.istore_n 3, 1) := by decide +kernel
theorem dX8_as_32 : decode cX8_as 32 = .ok (.iload_n 2, 1) := by decide +kernel
theorem dX8_as_33 : decode cX8_as 33 = .ok (.ifCond .eq 28, 3) := by decide +kernel
theorem dX8_as_36 : decode cX8_as 36 = .ok (.iload_n 2, 1) := by decide +kernel
theorem dX8_as_37 : decode cX8_as 37 = .ok (.iload_n 3, 1) := by decide +kernel
theorem dX8_as_38 : decode cX8_as 38 = .ok (.if_icmp .eq 23, 3) := by decide +kernel
theorem dX8_as_41 : decode cX8_as 41 = .ok (.iload_n 2, 1) := by decide +kernel
theorem dX8_as_42 : decode cX8_as 42 = .ok (.iconst 1, 1) := by decide +kernel
theorem dX8_as_43 : decode cX8_as 43 = .ok (.if_icmp .ne 8, 3) := by decide +kernel
theorem dX8_as_46 : decode cX8_as 46 = .ok (.iload_n 3, 1) := by decide +kernel
theorem dX8_as_47 : decode cX8_as 47 = .ok (.iconst 4, 1) := by decide +kernel
theorem dX8_as_48 : decode cX8_as 48 = .ok (.if_icmp .eq 13, 3) := by decide +kernel
theorem dX8_as_51 : decode cX8_as 51 = .ok (.iload_n 2, 1) := by decide +kernel
theorem dX8_as_52 : decode cX8_as 52 = .ok (.iconst 2, 1) := by decide +kernel
theorem dX8_as_53 : decode cX8_as 53 = .ok (.if_icmp .ne 12, 3) := by decide +kernel
theorem dX8_as_56 : decode cX8_as 56 = .ok (.iload_n 3, 1) := by decide +kernel
theorem dX8_as_57 : decode cX8_as 57 = .ok (.iconst 5, 1) := by decide +kernel
theorem dX8_as_58 : decode cX8_as 58 = .ok (.if_icmp .ne 7, 3) := by decide +kernel
theorem dX8_as_61 : decode cX8_as 61 = .ok (.iconst 1, 1) := by decide +kernel
theorem dX8_as_62 : decode cX8_as 62 = .ok (.goto 4, 3) := by decide +kernel
theorem dX8_as_65 : decode cX8_as 65 = .ok (.iconst 0, 1) := by decide +kernel
theorem dX8_as_66 : decode cX8_as 66 = .ok (.istore 4, 2) := by decide +kernel
theorem dX8_as_68 : decode cX8_as 68 = .ok (.iload 4, 2) := by decide +kernel
theorem dX8_as_70 : decode cX8_as 70 = .ok (.ifCond .eq 12, 3) := by decide +kernel
theorem dX8_as_73 : decode cX8_as 73 = .ok (.aload_n 0, 1) := by decide +kernel
theorem dX8_as_74 : decode cX8_as 74 = .ok (.iload_n 1, 1) := by decide +kernel
theorem dX8_as_75 : decode cX8_as 75 = .ok (.iconst 3, 1) := by decide +kernel
theorem dX8_as_76 : decode cX8_as 76 = .ok (.invokevirtual 75, 3) := by decide +kernel
theorem dX8_as_79 : decode cX8_as 79 = .ok (.goto 9, 3) := by decide +kernel
theorem dX8_as_82 : decode cX8_as 82 = .ok (.aload_n 0, 1) := by decide +kernel
theorem dX8_as_83 : decode cX8_as 83 = .ok (.ldc 104, 2) := by decide +kernel
theorem dX8_as_85 : decode cX8_as 85 = .ok (.invokevirtual 43, 3) := by decide +kernel
theorem dX8_as_88 : decode cX8_as 88 = .ok (.ireturn, 1) := by decide +kernel
theorem dX8_goes_0 : decode cX8_goes 0 = .ok (.iconst 0, 1) := by decide +kernel
theorem dX8_goes_1 : decode cX8_goes 1 = .ok (.istore_n 2, 1) := by decide +kernel
theorem dX8_goes_2 : decode cX8_goes 2 = .ok (.iload_n 2, 1) := by decide +kernel
theorem dX8_goes_3 : decode cX8_goes 3 = .ok (.aload_n 0, 1) := by decide +kernel
theorem dX8_goes_4 : decode cX8_goes 4 = .ok (.getfield 9, 3) := by decide +kernel
theorem dX8_goes_7 : decode cX8_goes 7 = .ok (.iconst 3, 1) := by decide +kernel
theorem dX8_goes_8 : decode cX8_goes 8 = .ok (.iaload, 1) := by decide +kernel
theorem dX8_goes_9 : decode cX8_goes 9 = .ok (.if_icmp .ge 52, 3) := by decide +kernel
theorem dX8_goes_12 : decode cX8_goes 12 = .ok (.aload_n 0, 1) := by decide +kernel
theorem dX8_goes_13 : decode cX8_goes 13 = .ok (.iload_n 2, 1) := by decide +kernel
theorem dX8_goes_14 : decode cX8_goes 14 = .ok (.iconst 3, 1) := by decide +kernel
theorem dX8_goes_15 : decode cX8_goes 15 = .ok (.aload_n 0, 1) := by decide +kernel
theorem dX8_goes_16 : decode cX8_goes 16 = .ok (.iload_n 2, 1) := by decide +kernel
theorem dX8_goes_17 : decode cX8_goes 17 = .ok (.iconst 3, 1) := by decide +kernel
theorem dX8_goes_18 : decode cX8_goes 18 = .ok (.invokevirtual 75, 3) := by decide +kernel
theorem dX8_goes_21 : decode cX8_goes 21 = .ok (.aload_n 0, 1) := by decide +kernel
theorem dX8_goes_22 : decode cX8_goes 22 = .ok (.iload_n 2, 1) := by decide +kernel
theorem dX8_goes_23 : decode cX8_goes 23 = .ok (.iload_n 1, 1) := by decide +kernel
theorem dX8_goes_24 : decode cX8_goes 24 = .ok (.invokevirtual 100, 3) := by decide +kernel
theorem dX8_goes_27 : decode cX8_goes 27 = .ok (.iadd, 1) := by decide +kernel
theorem dX8_goes_28 : decode cX8_goes 28 = .ok (.iconst 0, 1) := by decide +kernel
theorem dX8_goes_29 : decode cX8_goes 29 = .ok (.ldc 103, 2) := by decide +kernel
theorem dX8_goes_31 : decode cX8_goes 31 = .ok (.invokestatic 81, 3) := by decide +kernel
theorem dX8_goes_34 : decode cX8_goes 34 = .ok (.invokevirtual 89, 3) := by decide +kernel
theorem dX8_goes_37 : decode cX8_goes 37 = .ok (.aload_n 0, 1) := by decide +kernel
theorem dX8_goes_38 : decode cX8_goes 38 = .ok (.iload_n 2, 1) := by decide +kernel
theorem dX8_goes_39 : decode cX8_goes 39 = .ok (.iconst 1, 1) := by decide +kernel
theorem dX8_goes_40 : decode cX8_goes 40 = .ok (.aload_n 0, 1) := by decide +kernel
theorem dX8_goes_41 : decode cX8_goes 41 = .ok (.iload_n 2, 1) := by decide +kernel
theorem dX8_goes_42 : decode cX8_goes 42 = .ok (.aload_n 0, 1) := by decide +kernel
theorem dX8_goes_43 : decode cX8_goes 43 = .ok (.iload_n 2, 1) := by decide +kernel
theorem dX8_goes_44 : decode cX8_goes 44 = .ok (.iconst 1, 1) := by decide +kernel
theorem dX8_goes_45 : decode cX8_goes 45 = .ok (.invokevirtual 75, 3) := by decide +kernel
theorem dX8_goes_48 : decode cX8_goes 48 = .ok (.iload_n 1, 1) := by decide +kernel
theorem dX8_goes_49 : decode cX8_goes 49 = .ok (.invokevirtual 105, 3) := by decide +kernel
theorem dX8_goes_52 : decode cX8_goes 52 = .ok (.invokevirtual 89, 3) := by decide +kernel
theorem dX8_goes_55 : decode cX8_goes 55 = .ok (.iinc 2 1, 3) := by decide +kernel
theorem dX8_goes_58 : decode cX8_goes 58 = .ok (.goto (-56), 3) := by decide +kernel
theorem dX8_goes_61 : decode cX8_goes 61 = .ok (.aload_n 0, 1) := by decide +kernel
theorem dX8_goes_62 : decode cX8_goes 62 = .ok (.getfield 9, 3) := by decide +kernel
theorem dX8_goes_65 : decode cX8_goes 65 = .ok (.iconst 0, 1) := by decide +kernel
theorem dX8_goes_66 : decode cX8_goes 66 = .ok (.dup2, 1) := by decide +kernel
theorem dX8_goes_67 : decode cX8_goes 67 = .ok (.iaload, 1) := by decide +kernel
theorem dX8_goes_68 : decode cX8_goes 68 = .ok (.iconst 1, 1) := by decide +kernel
theorem dX8_goes_69 : decode cX8_goes 69 = .ok (.iadd, 1) := by decide +kernel
theorem dX8_goes_70 : decode cX8_goes 70 = .ok (.iastore, 1) := by decide +kernel
theorem dX8_goes_71 : decode cX8_goes 71 = .ok (.return_, 1) := by decide +kernel
theorem dX8_day_0 : decode cX8_day 0 = .ok (.aload_n 0, 1) := by decide +kernel
theorem dX8_day_1 : decode cX8_day 1 = .ok (.aload_n 0, 1) := by decide +kernel
theorem dX8_day_2 : decode cX8_day 2 = .ok (.aload_n 0, 1) := by decide +kernel
theorem dX8_day_3 : decode cX8_day 3 = .ok (.getfield 9, 3) := by decide +kernel
theorem dX8_day_6 : decode cX8_day 6 = .ok (.iconst 0, 1) := by decide +kernel
theorem dX8_day_7 : decode cX8_day 7 = .ok (.iaload, 1) := by decide +kernel
theorem dX8_day_8 : decode cX8_day 8 = .ok (.invokevirtual 63, 3) := by decide +kernel
theorem dX8_day_11 : decode cX8_day 11 = .ok (.invokevirtual 108, 3) := by decide +kernel
theorem dX8_day_14 : decode cX8_day 14 = .ok (.return_, 1) := by decide +kernel
theorem dX8_sums_0 : decode cX8_sums 0 = .ok (.iconst 0, 1) := by decide +kernel
theorem dX8_sums_1 : decode cX8_sums 1 = .ok (.istore_n 1, 1) := by decide +kernel
theorem dX8_sums_2 : decode cX8_sums 2 = .ok (.iconst 0, 1) := by decide +kernel
theorem dX8_sums_3 : decode cX8_sums 3 = .ok (.istore_n 2, 1) := by decide +kernel
theorem dX8_sums_4 : decode cX8_sums 4 = .ok (.iload_n 2, 1) := by decide +kernel
theorem dX8_sums_5 : decode cX8_sums 5 = .ok (.aload_n 0, 1) := by decide +kernel
theorem dX8_sums_6 : decode cX8_sums 6 = .ok (.getfield 9, 3) := by decide +kernel
theorem dX8_sums_9 : decode cX8_sums 9 = .ok (.iconst 3, 1) := by decide +kernel
theorem dX8_sums_10 : decode cX8_sums 10 = .ok (.iaload, 1) := by decide +kernel
theorem dX8_sums_11 : decode cX8_sums 11 = .ok (.if_icmp .ge 18, 3) := by decide +kernel
theorem dX8_sums_14 : decode cX8_sums 14 = .ok (.iload_n 1, 1) := by decide +kernel
theorem dX8_sums_15 : decode cX8_sums 15 = .ok (.aload_n 0, 1) := by decide +kernel
theorem dX8_sums_16 : decode cX8_sums 16 = .ok (.iload_n 2, 1) := by decide +kernel
theorem dX8_sums_17 : decode cX8_sums 17 = .ok (.iconst 3, 1) := by decide +kernel
theorem dX8_sums_18 : decode cX8_sums 18 = .ok (.invokevirtual 75, 3) := by decide +kernel
theorem dX8_sums_21 : decode cX8_sums 21 = .ok (.iadd, 1) := by decide +kernel
theorem dX8_sums_22 : decode cX8_sums 22 = .ok (.istore_n 1, 1) := by decide +kernel
theorem dX8_sums_23 : decode cX8_sums 23 = .ok (.iinc 2 1, 3) := by decide +kernel
theorem dX8_sums_26 : decode cX8_sums 26 = .ok (.goto (-22), 3) := by decide +kernel
theorem dX8_sums_29 : decode cX8_sums 29 = .ok (.iload_n 1, 1) := by decide +kernel
theorem dX8_sums_30 : decode cX8_sums 30 = .ok (.ireturn, 1) := by decide +kernel
theorem dX8_days_0 : decode cX8_days 0 = .ok (.iload_n 1, 1) := by decide +kernel
theorem dX8_days_1 : decode cX8_days 1 = .ok (.i2l, 1) := by decide +kernel
theorem dX8_days_2 : decode cX8_days 2 = .ok (.iconst 1, 1) := by decide +kernel
theorem dX8_days_3 : decode cX8_days 3 = .ok (.bipush 60, 2) := by decide +kernel
theorem dX8_days_5 : decode cX8_days 5 = .ok (.invokestatic 47, 3) := by decide +kernel
theorem dX8_days_8 : decode cX8_days 8 = .ok (.ifCond .ne 10, 3) := by decide +kernel
theorem dX8_days_11 : decode cX8_days 11 = .ok (.aload_n 0, 1) := by decide +kernel
theorem dX8_days_12 : decode cX8_days 12 = .ok (.ldc 41, 2) := by decide +kernel
theorem dX8_days_14 : decode cX8_days 14 = .ok (.invokevirtual 43, 3) := by decide +kernel
theorem dX8_days_17 : decode cX8_days 17 = .ok (.ireturn, 1) := by decide +kernel
theorem dX8_days_18 : decode cX8_days 18 = .ok (.aload_n 0, 1) := by decide +kernel
theorem dX8_days_19 : decode cX8_days 19 = .ok (.getfield 9, 3) := by decide +kernel
theorem dX8_days_22 : decode cX8_days 22 = .ok (.iconst 0, 1) := by decide +kernel
theorem dX8_days_23 : decode cX8_days 23 = .ok (.iaload, 1) := by decide +kernel
theorem dX8_days_24 : decode cX8_days 24 = .ok (.iload_n 1, 1) := by decide +kernel
theorem dX8_days_25 : decode cX8_days 25 = .ok (.iadd, 1) := by decide +kernel
theorem dX8_days_26 : decode cX8_days 26 = .ok (.sipush 9999, 3) := by decide +kernel
theorem dX8_days_29 : decode cX8_days 29 = .ok (.if_icmp .le 10, 3) := by decide +kernel
theorem dX8_days_32 : decode cX8_days 32 = .ok (.aload_n 0, 1) := by decide +kernel
theorem dX8_days_33 : decode cX8_days 33 = .ok (.ldc 112, 2) := by decide +kernel
theorem dX8_days_35 : decode cX8_days 35 = .ok (.invokevirtual 43, 3) := by decide +kernel
theorem dX8_days_38 : decode cX8_days 38 = .ok (.ireturn, 1) := by decide +kernel
theorem dX8_days_39 : decode cX8_days 39 = .ok (.iconst 0, 1) := by decide +kernel
theorem dX8_days_40 : decode cX8_days 40 = .ok (.istore_n 2, 1) := by decide +kernel
theorem dX8_days_41 : decode cX8_days 41 = .ok (.iload_n 2, 1) := by decide +kernel
theorem dX8_days_42 : decode cX8_days 42 = .ok (.iload_n 1, 1) := by decide +kernel
theorem dX8_days_43 : decode cX8_days 43 = .ok (.if_icmp .ge 13, 3) := by decide +kernel
theorem dX8_days_46 : decode cX8_days 46 = .ok (.aload_n 0, 1) := by decide +kernel
theorem dX8_days_47 : decode cX8_days 47 = .ok (.invokevirtual 113, 3) := by decide +kernel
theorem dX8_days_50 : decode cX8_days 50 = .ok (.iinc 2 1, 3) := by decide +kernel
theorem dX8_days_53 : decode cX8_days 53 = .ok (.goto (-12), 3) := by decide +kernel
theorem dX8_days_56 : decode cX8_days 56 = .ok (.aload_n 0, 1) := by decide +kernel
theorem dX8_days_57 : decode cX8_days 57 = .ok (.invokevirtual 116, 3) := by decide +kernel
theorem dX8_days_60 : decode cX8_days 60 = .ok (.ireturn, 1) := by decide +kernel
theorem dX8_bribe_0 : decode cX8_bribe 0 = .ok (.iload_n 1, 1) := by decide +kernel
theorem dX8_bribe_1 : decode cX8_bribe 1 = .ok (.invokestatic 55, 3) := by decide +kernel
theorem dX8_bribe_4 : decode cX8_bribe 4 = .ok (.ifCond .ne 10, 3) := by decide +kernel
theorem dX8_bribe_7 : decode cX8_bribe 7 = .ok (.aload_n 0, 1) := by decide +kernel
theorem dX8_bribe_8 : decode cX8_bribe 8 = .ok (.ldc 41, 2) := by decide +kernel
theorem dX8_bribe_10 : decode cX8_bribe 10 = .ok (.invokevirtual 43, 3) := by decide +kernel
theorem dX8_bribe_13 : decode cX8_bribe 13 = .ok (.ireturn, 1) := by decide +kernel
theorem dX8_bribe_14 : decode cX8_bribe 14 = .ok (.aload_n 0, 1) := by decide +kernel
theorem dX8_bribe_15 : decode cX8_bribe 15 = .ok (.getfield 9, 3) := by decide +kernel
theorem dX8_bribe_18 : decode cX8_bribe 18 = .ok (.iconst 0, 1) := by decide +kernel
theorem dX8_bribe_19 : decode cX8_bribe 19 = .ok (.iaload, 1) := by decide +kernel
theorem dX8_bribe_20 : decode cX8_bribe 20 = .ok (.sipush 9999, 3) := by decide +kernel
theorem dX8_bribe_23 : decode cX8_bribe 23 = .ok (.if_icmp .ne 10, 3) := by decide +kernel
theorem dX8_bribe_26 : decode cX8_bribe 26 = .ok (.aload_n 0, 1) := by decide +kernel
theorem dX8_bribe_27 : decode cX8_bribe 27 = .ok (.ldc 112, 2) := by decide +kernel
theorem dX8_bribe_29 : decode cX8_bribe 29 = .ok (.invokevirtual 43, 3) := by decide +kernel
theorem dX8_bribe_32 : decode cX8_bribe 32 = .ok (.ireturn, 1) := by decide +kernel
theorem dX8_bribe_33 : decode cX8_bribe 33 = .ok (.aload_n 0, 1) := by decide +kernel
theorem dX8_bribe_34 : decode cX8_bribe 34 = .ok (.iload_n 1, 1) := by decide +kernel
theorem dX8_bribe_35 : decode cX8_bribe 35 = .ok (.invokevirtual 108, 3) := by decide +kernel
theorem dX8_bribe_38 : decode cX8_bribe 38 = .ok (.aload_n 0, 1) := by decide +kernel
theorem dX8_bribe_39 : decode cX8_bribe 39 = .ok (.invokevirtual 116, 3) := by decide +kernel
theorem dX8_bribe_42 : decode cX8_bribe 42 = .ok (.ireturn, 1) := by decide +kernel
theorem dX8_now_0 : decode cX8_now 0 = .ok (.iload_n 1, 1) := by decide +kernel
theorem dX8_now_1 : decode cX8_now 1 = .ok (.i2l, 1) := by decide +kernel
theorem dX8_now_2 : decode cX8_now 2 = .ok (.iconst 0, 1) := by decide +kernel
theorem dX8_now_3 : decode cX8_now 3 = .ok (.bipush 6, 2) := by decide +kernel
theorem dX8_now_5 : decode cX8_now 5 = .ok (.invokestatic 47, 3) := by decide +kernel
theorem dX8_now_8 : decode cX8_now 8 = .ok (.ifCond .ne 10, 3) := by decide +kernel
theorem dX8_now_11 : decode cX8_now 11 = .ok (.aload_n 0, 1) := by decide +kernel
theorem dX8_now_12 : decode cX8_now 12 = .ok (.ldc 41, 2) := by decide +kernel
theorem dX8_now_14 : decode cX8_now 14 = .ok (.invokevirtual 43, 3) := by decide +kernel
theorem dX8_now_17 : decode cX8_now 17 = .ok (.ireturn, 1) := by decide +kernel
theorem dX8_now_18 : decode cX8_now 18 = .ok (.aload_n 0, 1) := by decide +kernel
theorem dX8_now_19 : decode cX8_now 19 = .ok (.aload_n 0, 1) := by decide +kernel
theorem dX8_now_20 : decode cX8_now 20 = .ok (.getfield 9, 3) := by decide +kernel
theorem dX8_now_23 : decode cX8_now 23 = .ok (.iconst 0, 1) := by decide +kernel
theorem dX8_now_24 : decode cX8_now 24 = .ok (.iaload, 1) := by decide +kernel
theorem dX8_now_25 : decode cX8_now 25 = .ok (.invokevirtual 63, 3) := by decide +kernel
theorem dX8_now_28 : decode cX8_now 28 = .ok (.istore_n 2, 1) := by decide +kernel
theorem dX8_now_29 : decode cX8_now 29 = .ok (.iconst 0, 1) := by decide +kernel
theorem dX8_now_30 : decode cX8_now 30 = .ok (.istore_n 3, 1) := by decide +kernel
theorem dX8_now_31 : decode cX8_now 31 = .ok (.iconst 0, 1) := by decide +kernel
theorem dX8_now_32 : decode cX8_now 32 = .ok (.istore 4, 2) := by decide +kernel
theorem dX8_now_34 : decode cX8_now 34 = .ok (.iconst 0, 1) := by decide +kernel
theorem dX8_now_35 : decode cX8_now 35 = .ok (.istore 5, 2) := by decide +kernel
theorem dX8_now_37 : decode cX8_now 37 = .ok (.iload 5, 2) := by decide +kernel
theorem dX8_now_39 : decode cX8_now 39 = .ok (.aload_n 0, 1) := by decide +kernel
theorem dX8_now_40 : decode cX8_now 40 = .ok (.getfield 9, 3) := by decide +kernel
theorem dX8_now_43 : decode cX8_now 43 = .ok (.iconst 3, 1) := by decide +kernel
theorem dX8_now_44 : decode cX8_now 44 = .ok (.iaload, 1) := by decide +kernel
theorem dX8_now_45 : decode cX8_now 45 = .ok (.if_icmp .ge 42, 3) := by decide +kernel
theorem dX8_now_48 : decode cX8_now 48 = .ok (.iload_n 3, 1) := by decide +kernel
theorem dX8_now_49 : decode cX8_now 49 = .ok (.aload_n 0, 1) := by decide +kernel
theorem dX8_now_50 : decode cX8_now 50 = .ok (.iload 5, 2) := by decide +kernel
theorem dX8_now_52 : decode cX8_now 52 = .ok (.iload_n 2, 1) := by decide +kernel
theorem dX8_now_53 : decode cX8_now 53 = .ok (.invokevirtual 100, 3) := by decide +kernel
theorem dX8_now_56 : decode cX8_now 56 = .ok (.iadd, 1) := by decide +kernel
theorem dX8_now_57 : decode cX8_now 57 = .ok (.istore_n 3, 1) := by decide +kernel
theorem dX8_now_58 : decode cX8_now 58 = .ok (.iload 4, 2) := by decide +kernel
theorem dX8_now_60 : decode cX8_now 60 = .ok (.aload_n 0, 1) := by decide +kernel
theorem dX8_now_61 : decode cX8_now 61 = .ok (.iload 5, 2) := by decide +kernel
theorem dX8_now_63 : decode cX8_now 63 = .ok (.iload_n 2, 1) := by decide +kernel
theorem dX8_now_64 : decode cX8_now 64 = .ok (.invokevirtual 85, 3) := by decide +kernel
theorem dX8_now_67 : decode cX8_now 67 = .ok (.ifCond .eq 10, 3) := by decide +kernel
theorem dX8_now_70 : decode cX8_now 70 = .ok (.iconst 1, 1) := by decide +kernel
theorem dX8_now_71 : decode cX8_now 71 = .ok (.iload 5, 2) := by decide +kernel
theorem dX8_now_73 : decode cX8_now 73 = .ok (.ishl, 1) := by decide +kernel
theorem dX8_now_74 : decode cX8_now 74 = .ok (.goto 4, 3) := by decide +kernel
theorem dX8_now_77 : decode cX8_now 77 = .ok (.iconst 0, 1) := by decide +kernel
theorem dX8_now_78 : decode cX8_now 78 = .ok (.ior, 1) := by decide +kernel
theorem dX8_now_79 : decode cX8_now 79 = .ok (.istore 4, 2) := by decide +kernel
theorem dX8_now_81 : decode cX8_now 81 = .ok (.iinc 5 1, 3) := by decide +kernel
theorem dX8_now_84 : decode cX8_now 84 = .ok (.goto (-47), 3) := by decide +kernel
theorem dX8_now_87 : decode cX8_now 87 = .ok (.iload_n 1, 1) := by decide +kernel
theorem dX8_now_88 : decode cX8_now 88 = .ok (.tableswitch 67 0 5 #[40, 47, 49, 49, 60, 65], 40) := by decide +kernel
theorem dX8_now_128 : decode cX8_now 128 = .ok (.aload_n 0, 1) := by decide +kernel
theorem dX8_now_129 : decode cX8_now 129 = .ok (.getfield 9, 3) := by decide +kernel
theorem dX8_now_132 : decode cX8_now 132 = .ok (.iconst 0, 1) := by decide +kernel
theorem dX8_now_133 : decode cX8_now 133 = .ok (.iaload, 1) := by decide +kernel
theorem dX8_now_134 : decode cX8_now 134 = .ok (.ireturn, 1) := by decide +kernel
theorem dX8_now_135 : decode cX8_now 135 = .ok (.iload_n 2, 1) := by decide +kernel
theorem dX8_now_136 : decode cX8_now 136 = .ok (.ireturn, 1) := by decide +kernel
theorem dX8_now_137 : decode cX8_now 137 = .ok (.aload_n 0, 1) := by decide +kernel
theorem dX8_now_138 : decode cX8_now 138 = .ok (.getfield 9, 3) := by decide +kernel
theorem dX8_now_141 : decode cX8_now 141 = .ok (.iconst 1, 1) := by decide +kernel
theorem dX8_now_142 : decode cX8_now 142 = .ok (.iload_n 1, 1) := by decide +kernel
theorem dX8_now_143 : decode cX8_now 143 = .ok (.iadd, 1) := by decide +kernel
theorem dX8_now_144 : decode cX8_now 144 = .ok (.iconst 2, 1) := by decide +kernel
theorem dX8_now_145 : decode cX8_now 145 = .ok (.isub, 1) := by decide +kernel
theorem dX8_now_146 : decode cX8_now 146 = .ok (.iaload, 1) := by decide +kernel
theorem dX8_now_147 : decode cX8_now 147 = .ok (.ireturn, 1) := by decide +kernel
theorem dX8_now_148 : decode cX8_now 148 = .ok (.aload_n 0, 1) := by decide +kernel
theorem dX8_now_149 : decode cX8_now 149 = .ok (.invokevirtual 116, 3) := by decide +kernel
theorem dX8_now_152 : decode cX8_now 152 = .ok (.ireturn, 1) := by decide +kernel
theorem dX8_now_153 : decode cX8_now 153 = .ok (.iload_n 3, 1) := by decide +kernel
theorem dX8_now_154 : decode cX8_now 154 = .ok (.ireturn, 1) := by decide +kernel
theorem dX8_now_155 : decode cX8_now 155 = .ok (.iload 4, 2) := by decide +kernel
theorem dX8_now_157 : decode cX8_now 157 = .ok (.ireturn, 1) := by decide +kernel
theorem dX8_thinks_0 : decode cX8_thinks 0 = .ok (.aload_n 0, 1) := by decide +kernel
theorem dX8_thinks_1 : decode cX8_thinks 1 = .ok (.getfield 9, 3) := by decide +kernel
theorem dX8_thinks_4 : decode cX8_thinks 4 = .ok (.aload_n 0, 1) := by decide +kernel
theorem dX8_thinks_5 : decode cX8_thinks 5 = .ok (.getfield 16, 3) := by decide +kernel
theorem dX8_thinks_8 : decode cX8_thinks 8 = .ok (.invokestatic 120, 3) := by decide +kernel
theorem dX8_thinks_11 : decode cX8_thinks 11 = .ok (.return_, 1) := by decide +kernel
theorem dX8_putsBack_0 : decode cX8_putsBack 0 = .ok (.aload_n 0, 1) := by decide +kernel
theorem dX8_putsBack_1 : decode cX8_putsBack 1 = .ok (.getfield 16, 3) := by decide +kernel
theorem dX8_putsBack_4 : decode cX8_putsBack 4 = .ok (.aload_n 0, 1) := by decide +kernel
theorem dX8_putsBack_5 : decode cX8_putsBack 5 = .ok (.getfield 9, 3) := by decide +kernel
theorem dX8_putsBack_8 : decode cX8_putsBack 8 = .ok (.invokestatic 120, 3) := by decide +kernel
theorem dX8_putsBack_11 : decode cX8_putsBack 11 = .ok (.return_, 1) := by decide +kernel
theorem dX8_on_0 : decode cX8_on 0 = .ok (.aload_n 0, 1) := by decide +kernel
theorem dX8_on_1 : decode cX8_on 1 = .ok (.iload_n 1, 1) := by decide +kernel
theorem dX8_on_2 : decode cX8_on 2 = .ok (.invokevirtual 97, 3) := by decide +kernel
theorem dX8_on_5 : decode cX8_on 5 = .ok (.ifCond .eq 24, 3) := by decide +kernel
theorem dX8_on_8 : decode cX8_on 8 = .ok (.iload_n 2, 1) := by decide +kernel
theorem dX8_on_9 : decode cX8_on 9 = .ok (.i2l, 1) := by decide +kernel
theorem dX8_on_10 : decode cX8_on 10 = .ok (.iconst 0, 1) := by decide +kernel
theorem dX8_on_11 : decode cX8_on 11 = .ok (.bipush 60, 2) := by decide +kernel
theorem dX8_on_13 : decode cX8_on 13 = .ok (.invokestatic 47, 3) := by decide +kernel
theorem dX8_on_16 : decode cX8_on 16 = .ok (.ifCond .eq 13, 3) := by decide +kernel
theorem dX8_on_19 : decode cX8_on 19 = .ok (.iload_n 3, 1) := by decide +kernel
theorem dX8_on_20 : decode cX8_on 20 = .ok (.i2l, 1) := by decide +kernel
theorem dX8_on_21 : decode cX8_on 21 = .ok (.iconst 0, 1) := by decide +kernel
theorem dX8_on_22 : decode cX8_on 22 = .ok (.iconst 1, 1) := by decide +kernel
theorem dX8_on_23 : decode cX8_on 23 = .ok (.invokestatic 47, 3) := by decide +kernel
theorem dX8_on_26 : decode cX8_on 26 = .ok (.ifCond .ne 10, 3) := by decide +kernel
theorem dX8_on_29 : decode cX8_on 29 = .ok (.aload_n 0, 1) := by decide +kernel
theorem dX8_on_30 : decode cX8_on 30 = .ok (.ldc 41, 2) := by decide +kernel
theorem dX8_on_32 : decode cX8_on 32 = .ok (.invokevirtual 43, 3) := by decide +kernel
theorem dX8_on_35 : decode cX8_on 35 = .ok (.ireturn, 1) := by decide +kernel
theorem dX8_on_36 : decode cX8_on 36 = .ok (.aload_n 0, 1) := by decide +kernel
theorem dX8_on_37 : decode cX8_on 37 = .ok (.invokevirtual 124, 3) := by decide +kernel
theorem dX8_on_40 : decode cX8_on 40 = .ok (.iconst 0, 1) := by decide +kernel
theorem dX8_on_41 : decode cX8_on 41 = .ok (.istore 4, 2) := by decide +kernel
theorem dX8_on_43 : decode cX8_on 43 = .ok (.iload 4, 2) := by decide +kernel
theorem dX8_on_45 : decode cX8_on 45 = .ok (.iload_n 2, 1) := by decide +kernel
theorem dX8_on_46 : decode cX8_on 46 = .ok (.if_icmp .ge 13, 3) := by decide +kernel
theorem dX8_on_49 : decode cX8_on 49 = .ok (.aload_n 0, 1) := by decide +kernel
theorem dX8_on_50 : decode cX8_on 50 = .ok (.invokevirtual 113, 3) := by decide +kernel
theorem dX8_on_53 : decode cX8_on 53 = .ok (.iinc 4 1, 3) := by decide +kernel
theorem dX8_on_56 : decode cX8_on 56 = .ok (.goto (-13), 3) := by decide +kernel
theorem dX8_on_59 : decode cX8_on 59 = .ok (.aload_n 0, 1) := by decide +kernel
theorem dX8_on_60 : decode cX8_on 60 = .ok (.iload_n 1, 1) := by decide +kernel
theorem dX8_on_61 : decode cX8_on 61 = .ok (.iload_n 3, 1) := by decide +kernel
theorem dX8_on_62 : decode cX8_on 62 = .ok (.ifCond .ne 7, 3) := by decide +kernel
theorem dX8_on_65 : decode cX8_on 65 = .ok (.iconst 1, 1) := by decide +kernel
theorem dX8_on_66 : decode cX8_on 66 = .ok (.goto 4, 3) := by decide +kernel
theorem dX8_on_69 : decode cX8_on 69 = .ok (.iconst 3, 1) := by decide +kernel
theorem dX8_on_70 : decode cX8_on 70 = .ok (.invokevirtual 75, 3) := by decide +kernel
theorem dX8_on_73 : decode cX8_on 73 = .ok (.istore 4, 2) := by decide +kernel
theorem dX8_on_75 : decode cX8_on 75 = .ok (.aload_n 0, 1) := by decide +kernel
theorem dX8_on_76 : decode cX8_on 76 = .ok (.invokevirtual 127, 3) := by decide +kernel
theorem dX8_on_79 : decode cX8_on 79 = .ok (.iload 4, 2) := by decide +kernel
theorem dX8_on_81 : decode cX8_on 81 = .ok (.ireturn, 1) := by decide +kernel
theorem dX8_comes_0 : decode cX8_comes 0 = .ok (.aload_n 0, 1) := by decide +kernel
theorem dX8_comes_1 : decode cX8_comes 1 = .ok (.iload_n 1, 1) := by decide +kernel
theorem dX8_comes_2 : decode cX8_comes 2 = .ok (.invokevirtual 97, 3) := by decide +kernel
theorem dX8_comes_5 : decode cX8_comes 5 = .ok (.ifCond .eq 10, 3) := by decide +kernel
theorem dX8_comes_8 : decode cX8_comes 8 = .ok (.iload_n 2, 1) := by decide +kernel
theorem dX8_comes_9 : decode cX8_comes 9 = .ok (.invokestatic 66, 3) := by decide +kernel
theorem dX8_comes_12 : decode cX8_comes 12 = .ok (.ifCond .ne 10, 3) := by decide +kernel
theorem dX8_comes_15 : decode cX8_comes 15 = .ok (.aload_n 0, 1) := by decide +kernel
theorem dX8_comes_16 : decode cX8_comes 16 = .ok (.ldc 41, 2) := by decide +kernel
theorem dX8_comes_18 : decode cX8_comes 18 = .ok (.invokevirtual 43, 3) := by decide +kernel
theorem dX8_comes_21 : decode cX8_comes 21 = .ok (.ireturn, 1) := by decide +kernel
theorem dX8_comes_22 : decode cX8_comes 22 = .ok (.aload_n 0, 1) := by decide +kernel
theorem dX8_comes_23 : decode cX8_comes 23 = .ok (.invokevirtual 124, 3) := by decide +kernel
theorem dX8_comes_26 : decode cX8_comes 26 = .ok (.iconst 0, 1) := by decide +kernel
theorem dX8_comes_27 : decode cX8_comes 27 = .ok (.istore_n 3, 1) := by decide +kernel
theorem dX8_comes_28 : decode cX8_comes 28 = .ok (.iload_n 3, 1) := by decide +kernel
theorem dX8_comes_29 : decode cX8_comes 29 = .ok (.bipush 60, 2) := by decide +kernel
theorem dX8_comes_31 : decode cX8_comes 31 = .ok (.if_icmp .gt 23, 3) := by decide +kernel
theorem dX8_comes_34 : decode cX8_comes 34 = .ok (.aload_n 0, 1) := by decide +kernel
theorem dX8_comes_35 : decode cX8_comes 35 = .ok (.iload_n 1, 1) := by decide +kernel
theorem dX8_comes_36 : decode cX8_comes 36 = .ok (.iconst 1, 1) := by decide +kernel
theorem dX8_comes_37 : decode cX8_comes 37 = .ok (.invokevirtual 75, 3) := by decide +kernel
theorem dX8_comes_40 : decode cX8_comes 40 = .ok (.iload_n 2, 1) := by decide +kernel
theorem dX8_comes_41 : decode cX8_comes 41 = .ok (.if_icmp .eq 13, 3) := by decide +kernel
theorem dX8_comes_44 : decode cX8_comes 44 = .ok (.aload_n 0, 1) := by decide +kernel
theorem dX8_comes_45 : decode cX8_comes 45 = .ok (.invokevirtual 113, 3) := by decide +kernel
theorem dX8_comes_48 : decode cX8_comes 48 = .ok (.iinc 3 1, 3) := by decide +kernel
theorem dX8_comes_51 : decode cX8_comes 51 = .ok (.goto (-23), 3) := by decide +kernel
theorem dX8_comes_54 : decode cX8_comes 54 = .ok (.aload_n 0, 1) := by decide +kernel
theorem dX8_comes_55 : decode cX8_comes 55 = .ok (.invokevirtual 127, 3) := by decide +kernel
theorem dX8_comes_58 : decode cX8_comes 58 = .ok (.iload_n 3, 1) := by decide +kernel
theorem dX8_comes_59 : decode cX8_comes 59 = .ok (.bipush 60, 2) := by decide +kernel
theorem dX8_comes_61 : decode cX8_comes 61 = .ok (.if_icmp .le 12, 3) := by decide +kernel
theorem dX8_comes_64 : decode cX8_comes 64 = .ok (.aload_n 0, 1) := by decide +kernel
theorem dX8_comes_65 : decode cX8_comes 65 = .ok (.ldc 42, 2) := by decide +kernel
theorem dX8_comes_67 : decode cX8_comes 67 = .ok (.invokevirtual 43, 3) := by decide +kernel
theorem dX8_comes_70 : decode cX8_comes 70 = .ok (.goto 4, 3) := by decide +kernel
theorem dX8_comes_73 : decode cX8_comes 73 = .ok (.iload_n 3, 1) := by decide +kernel
theorem dX8_comes_74 : decode cX8_comes 74 = .ok (.ireturn, 1) := by decide +kernel
theorem dX8_meet_0 : decode cX8_meet 0 = .ok (.aload_n 0, 1) := by decide +kernel
theorem dX8_meet_1 : decode cX8_meet 1 = .ok (.iload_n 1, 1) := by decide +kernel
theorem dX8_meet_2 : decode cX8_meet 2 = .ok (.invokevirtual 97, 3) := by decide +kernel
theorem dX8_meet_5 : decode cX8_meet 5 = .ok (.ifCond .eq 16, 3) := by decide +kernel
theorem dX8_meet_8 : decode cX8_meet 8 = .ok (.aload_n 0, 1) := by decide +kernel
theorem dX8_meet_9 : decode cX8_meet 9 = .ok (.iload_n 2, 1) := by decide +kernel
theorem dX8_meet_10 : decode cX8_meet 10 = .ok (.invokevirtual 97, 3) := by decide +kernel
theorem dX8_meet_13 : decode cX8_meet 13 = .ok (.ifCond .eq 8, 3) := by decide +kernel
theorem dX8_meet_16 : decode cX8_meet 16 = .ok (.iload_n 1, 1) := by decide +kernel
theorem dX8_meet_17 : decode cX8_meet 17 = .ok (.iload_n 2, 1) := by decide +kernel
theorem dX8_meet_18 : decode cX8_meet 18 = .ok (.if_icmp .ne 10, 3) := by decide +kernel
theorem dX8_meet_21 : decode cX8_meet 21 = .ok (.aload_n 0, 1) := by decide +kernel
theorem dX8_meet_22 : decode cX8_meet 22 = .ok (.ldc 41, 2) := by decide +kernel
theorem dX8_meet_24 : decode cX8_meet 24 = .ok (.invokevirtual 43, 3) := by decide +kernel
theorem dX8_meet_27 : decode cX8_meet 27 = .ok (.ireturn, 1) := by decide +kernel
theorem dX8_meet_28 : decode cX8_meet 28 = .ok (.aload_n 0, 1) := by decide +kernel
theorem dX8_meet_29 : decode cX8_meet 29 = .ok (.invokevirtual 124, 3) := by decide +kernel
theorem dX8_meet_32 : decode cX8_meet 32 = .ok (.iconst 0, 1) := by decide +kernel
theorem dX8_meet_33 : decode cX8_meet 33 = .ok (.istore_n 3, 1) := by decide +kernel
theorem dX8_meet_34 : decode cX8_meet 34 = .ok (.iload_n 3, 1) := by decide +kernel
theorem dX8_meet_35 : decode cX8_meet 35 = .ok (.bipush 60, 2) := by decide +kernel
theorem dX8_meet_37 : decode cX8_meet 37 = .ok (.if_icmp .gt 28, 3) := by decide +kernel
theorem dX8_meet_40 : decode cX8_meet 40 = .ok (.aload_n 0, 1) := by decide +kernel
theorem dX8_meet_41 : decode cX8_meet 41 = .ok (.iload_n 1, 1) := by decide +kernel
theorem dX8_meet_42 : decode cX8_meet 42 = .ok (.iconst 1, 1) := by decide +kernel
theorem dX8_meet_43 : decode cX8_meet 43 = .ok (.invokevirtual 75, 3) := by decide +kernel
theorem dX8_meet_46 : decode cX8_meet 46 = .ok (.aload_n 0, 1) := by decide +kernel
theorem dX8_meet_47 : decode cX8_meet 47 = .ok (.iload_n 2, 1) := by decide +kernel
theorem dX8_meet_48 : decode cX8_meet 48 = .ok (.iconst 1, 1) := by decide +kernel
theorem dX8_meet_49 : decode cX8_meet 49 = .ok (.invokevirtual 75, 3) := by decide +kernel
theorem dX8_meet_52 : decode cX8_meet 52 = .ok (.if_icmp .eq 13, 3) := by decide +kernel
theorem dX8_meet_55 : decode cX8_meet 55 = .ok (.aload_n 0, 1) := by decide +kernel
theorem dX8_meet_56 : decode cX8_meet 56 = .ok (.invokevirtual 113, 3) := by decide +kernel
theorem dX8_meet_59 : decode cX8_meet 59 = .ok (.iinc 3 1, 3) := by decide +kernel
theorem dX8_meet_62 : decode cX8_meet 62 = .ok (.goto (-28), 3) := by decide +kernel
theorem dX8_meet_65 : decode cX8_meet 65 = .ok (.aload_n 0, 1) := by decide +kernel
theorem dX8_meet_66 : decode cX8_meet 66 = .ok (.invokevirtual 127, 3) := by decide +kernel
theorem dX8_meet_69 : decode cX8_meet 69 = .ok (.iload_n 3, 1) := by decide +kernel
theorem dX8_meet_70 : decode cX8_meet 70 = .ok (.bipush 60, 2) := by decide +kernel
theorem dX8_meet_72 : decode cX8_meet 72 = .ok (.if_icmp .le 12, 3) := by decide +kernel
theorem dX8_meet_75 : decode cX8_meet 75 = .ok (.aload_n 0, 1) := by decide +kernel
theorem dX8_meet_76 : decode cX8_meet 76 = .ok (.ldc 42, 2) := by decide +kernel
theorem dX8_meet_78 : decode cX8_meet 78 = .ok (.invokevirtual 43, 3) := by decide +kernel
theorem dX8_meet_81 : decode cX8_meet 81 = .ok (.goto 4, 3) := by decide +kernel
theorem dX8_meet_84 : decode cX8_meet 84 = .ok (.iload_n 3, 1) := by decide +kernel
theorem dX8_meet_85 : decode cX8_meet 85 = .ok (.ireturn, 1) := by decide +kernel
theorem dX8_begins_0 : decode cX8_begins 0 = .ok (.iconst 0, 1) := by decide +kernel
theorem dX8_begins_1 : decode cX8_begins 1 = .ok (.istore_n 2, 1) := by decide +kernel
theorem dX8_begins_2 : decode cX8_begins 2 = .ok (.iload_n 2, 1) := by decide +kernel
theorem dX8_begins_3 : decode cX8_begins 3 = .ok (.bipush 36, 2) := by decide +kernel
theorem dX8_begins_5 : decode cX8_begins 5 = .ok (.if_icmp .ge 31, 3) := by decide +kernel
theorem dX8_begins_8 : decode cX8_begins 8 = .ok (.aload_n 0, 1) := by decide +kernel
theorem dX8_begins_9 : decode cX8_begins 9 = .ok (.getfield 22, 3) := by decide +kernel
theorem dX8_begins_12 : decode cX8_begins 12 = .ok (.iload_n 2, 1) := by decide +kernel
theorem dX8_begins_13 : decode cX8_begins 13 = .ok (.iload_n 2, 1) := by decide +kernel
theorem dX8_begins_14 : decode cX8_begins 14 = .ok (.aload_n 0, 1) := by decide +kernel
theorem dX8_begins_15 : decode cX8_begins 15 = .ok (.iload_n 1, 1) := by decide +kernel
theorem dX8_begins_16 : decode cX8_begins 16 = .ok (.iconst 1, 1) := by decide +kernel
theorem dX8_begins_17 : decode cX8_begins 17 = .ok (.invokevirtual 75, 3) := by decide +kernel
theorem dX8_begins_20 : decode cX8_begins 20 = .ok (.if_icmp .ne 7, 3) := by decide +kernel
theorem dX8_begins_23 : decode cX8_begins 23 = .ok (.iconst 0, 1) := by decide +kernel
theorem dX8_begins_24 : decode cX8_begins 24 = .ok (.goto 5, 3) := by decide +kernel
theorem dX8_begins_27 : decode cX8_begins 27 = .ok (.bipush 99, 2) := by decide +kernel
theorem dX8_begins_29 : decode cX8_begins 29 = .ok (.iastore, 1) := by decide +kernel
theorem dX8_begins_30 : decode cX8_begins 30 = .ok (.iinc 2 1, 3) := by decide +kernel
theorem dX8_begins_33 : decode cX8_begins 33 = .ok (.goto (-31), 3) := by decide +kernel
theorem dX8_begins_36 : decode cX8_begins 36 = .ok (.return_, 1) := by decide +kernel
theorem dX8_cheaper_0 : decode cX8_cheaper 0 = .ok (.aload_n 0, 1) := by decide +kernel
theorem dX8_cheaper_1 : decode cX8_cheaper 1 = .ok (.getfield 25, 3) := by decide +kernel
theorem dX8_cheaper_4 : decode cX8_cheaper 4 = .ok (.iload_n 1, 1) := by decide +kernel
theorem dX8_cheaper_5 : decode cX8_cheaper 5 = .ok (.iload_n 2, 1) := by decide +kernel
theorem dX8_cheaper_6 : decode cX8_cheaper 6 = .ok (.aload_n 0, 1) := by decide +kernel
theorem dX8_cheaper_7 : decode cX8_cheaper 7 = .ok (.getfield 25, 3) := by decide +kernel
theorem dX8_cheaper_10 : decode cX8_cheaper 10 = .ok (.iload_n 1, 1) := by decide +kernel
theorem dX8_cheaper_11 : decode cX8_cheaper 11 = .ok (.iaload, 1) := by decide +kernel
theorem dX8_cheaper_12 : decode cX8_cheaper 12 = .ok (.if_icmp .ge 7, 3) := by decide +kernel
theorem dX8_cheaper_15 : decode cX8_cheaper 15 = .ok (.iload_n 2, 1) := by decide +kernel
theorem dX8_cheaper_16 : decode cX8_cheaper 16 = .ok (.goto 9, 3) := by decide +kernel
theorem dX8_cheaper_19 : decode cX8_cheaper 19 = .ok (.aload_n 0, 1) := by decide +kernel
theorem dX8_cheaper_20 : decode cX8_cheaper 20 = .ok (.getfield 25, 3) := by decide +kernel
theorem dX8_cheaper_23 : decode cX8_cheaper 23 = .ok (.iload_n 1, 1) := by decide +kernel
theorem dX8_cheaper_24 : decode cX8_cheaper 24 = .ok (.iaload, 1) := by decide +kernel
theorem dX8_cheaper_25 : decode cX8_cheaper 25 = .ok (.iastore, 1) := by decide +kernel
theorem dX8_cheaper_26 : decode cX8_cheaper 26 = .ok (.return_, 1) := by decide +kernel
theorem dX8_dayOn_0 : decode cX8_dayOn 0 = .ok (.aload_n 0, 1) := by decide +kernel
theorem dX8_dayOn_1 : decode cX8_dayOn 1 = .ok (.iload_n 2, 1) := by decide +kernel
theorem dX8_dayOn_2 : decode cX8_dayOn 2 = .ok (.invokevirtual 63, 3) := by decide +kernel
theorem dX8_dayOn_5 : decode cX8_dayOn 5 = .ok (.istore_n 3, 1) := by decide +kernel
theorem dX8_dayOn_6 : decode cX8_dayOn 6 = .ok (.iconst 0, 1) := by decide +kernel
theorem dX8_dayOn_7 : decode cX8_dayOn 7 = .ok (.istore 4, 2) := by decide +kernel
theorem dX8_dayOn_9 : decode cX8_dayOn 9 = .ok (.iload 4, 2) := by decide +kernel
theorem dX8_dayOn_11 : decode cX8_dayOn 11 = .ok (.bipush 36, 2) := by decide +kernel
theorem dX8_dayOn_13 : decode cX8_dayOn 13 = .ok (.if_icmp .ge 18, 3) := by decide +kernel
theorem dX8_dayOn_16 : decode cX8_dayOn 16 = .ok (.aload_n 0, 1) := by decide +kernel
theorem dX8_dayOn_17 : decode cX8_dayOn 17 = .ok (.getfield 25, 3) := by decide +kernel
theorem dX8_dayOn_20 : decode cX8_dayOn 20 = .ok (.iload 4, 2) := by decide +kernel
theorem dX8_dayOn_22 : decode cX8_dayOn 22 = .ok (.bipush 99, 2) := by decide +kernel
theorem dX8_dayOn_24 : decode cX8_dayOn 24 = .ok (.iastore, 1) := by decide +kernel
theorem dX8_dayOn_25 : decode cX8_dayOn 25 = .ok (.iinc 4 1, 3) := by decide +kernel
theorem dX8_dayOn_28 : decode cX8_dayOn 28 = .ok (.goto (-19), 3) := by decide +kernel
theorem dX8_dayOn_31 : decode cX8_dayOn 31 = .ok (.iconst 0, 1) := by decide +kernel
theorem dX8_dayOn_32 : decode cX8_dayOn 32 = .ok (.istore 4, 2) := by decide +kernel
theorem dX8_dayOn_34 : decode cX8_dayOn 34 = .ok (.iload 4, 2) := by decide +kernel
theorem dX8_dayOn_36 : decode cX8_dayOn 36 = .ok (.bipush 36, 2) := by decide +kernel
theorem dX8_dayOn_38 : decode cX8_dayOn 38 = .ok (.if_icmp .ge 78, 3) := by decide +kernel
theorem dX8_dayOn_41 : decode cX8_dayOn 41 = .ok (.aload_n 0, 1) := by decide +kernel
theorem dX8_dayOn_42 : decode cX8_dayOn 42 = .ok (.getfield 22, 3) := by decide +kernel
theorem dX8_dayOn_45 : decode cX8_dayOn 45 = .ok (.iload 4, 2) := by decide +kernel
theorem dX8_dayOn_47 : decode cX8_dayOn 47 = .ok (.iaload, 1) := by decide +kernel
theorem dX8_dayOn_48 : decode cX8_dayOn 48 = .ok (.bipush 99, 2) := by decide +kernel
theorem dX8_dayOn_50 : decode cX8_dayOn 50 = .ok (.if_icmp .ge 60, 3) := by decide +kernel
theorem dX8_dayOn_53 : decode cX8_dayOn 53 = .ok (.aload_n 0, 1) := by decide +kernel
theorem dX8_dayOn_54 : decode cX8_dayOn 54 = .ok (.aload_n 0, 1) := by decide +kernel
theorem dX8_dayOn_55 : decode cX8_dayOn 55 = .ok (.iload_n 1, 1) := by decide +kernel
theorem dX8_dayOn_56 : decode cX8_dayOn 56 = .ok (.iload 4, 2) := by decide +kernel
theorem dX8_dayOn_58 : decode cX8_dayOn 58 = .ok (.iload_n 3, 1) := by decide +kernel
theorem dX8_dayOn_59 : decode cX8_dayOn 59 = .ok (.invokevirtual 105, 3) := by decide +kernel
theorem dX8_dayOn_62 : decode cX8_dayOn 62 = .ok (.aload_n 0, 1) := by decide +kernel
theorem dX8_dayOn_63 : decode cX8_dayOn 63 = .ok (.getfield 22, 3) := by decide +kernel
theorem dX8_dayOn_66 : decode cX8_dayOn 66 = .ok (.iload 4, 2) := by decide +kernel
theorem dX8_dayOn_68 : decode cX8_dayOn 68 = .ok (.iaload, 1) := by decide +kernel
theorem dX8_dayOn_69 : decode cX8_dayOn 69 = .ok (.invokevirtual 130, 3) := by decide +kernel
theorem dX8_dayOn_72 : decode cX8_dayOn 72 = .ok (.iconst 0, 1) := by decide +kernel
theorem dX8_dayOn_73 : decode cX8_dayOn 73 = .ok (.istore 5, 2) := by decide +kernel
theorem dX8_dayOn_75 : decode cX8_dayOn 75 = .ok (.iload 5, 2) := by decide +kernel
theorem dX8_dayOn_77 : decode cX8_dayOn 77 = .ok (.bipush 8, 2) := by decide +kernel
theorem dX8_dayOn_79 : decode cX8_dayOn 79 = .ok (.if_icmp .ge 31, 3) := by decide +kernel
theorem dX8_dayOn_82 : decode cX8_dayOn 82 = .ok (.aload_n 0, 1) := by decide +kernel
theorem dX8_dayOn_83 : decode cX8_dayOn 83 = .ok (.aload_n 0, 1) := by decide +kernel
theorem dX8_dayOn_84 : decode cX8_dayOn 84 = .ok (.iload_n 1, 1) := by decide +kernel
theorem dX8_dayOn_85 : decode cX8_dayOn 85 = .ok (.iload 4, 2) := by decide +kernel
theorem dX8_dayOn_87 : decode cX8_dayOn 87 = .ok (.iload 5, 2) := by decide +kernel
theorem dX8_dayOn_89 : decode cX8_dayOn 89 = .ok (.invokevirtual 105, 3) := by decide +kernel
theorem dX8_dayOn_92 : decode cX8_dayOn 92 = .ok (.aload_n 0, 1) := by decide +kernel
theorem dX8_dayOn_93 : decode cX8_dayOn 93 = .ok (.getfield 22, 3) := by decide +kernel
theorem dX8_dayOn_96 : decode cX8_dayOn 96 = .ok (.iload 4, 2) := by decide +kernel
theorem dX8_dayOn_98 : decode cX8_dayOn 98 = .ok (.iaload, 1) := by decide +kernel
theorem dX8_dayOn_99 : decode cX8_dayOn 99 = .ok (.iconst 1, 1) := by decide +kernel
theorem dX8_dayOn_100 : decode cX8_dayOn 100 = .ok (.iadd, 1) := by decide +kernel
theorem dX8_dayOn_101 : decode cX8_dayOn 101 = .ok (.invokevirtual 130, 3) := by decide +kernel
theorem dX8_dayOn_104 : decode cX8_dayOn 104 = .ok (.iinc 5 1, 3) := by decide +kernel
theorem dX8_dayOn_107 : decode cX8_dayOn 107 = .ok (.goto (-32), 3) := by decide +kernel
theorem dX8_dayOn_110 : decode cX8_dayOn 110 = .ok (.iinc 4 1, 3) := by decide +kernel
theorem dX8_dayOn_113 : decode cX8_dayOn 113 = .ok (.goto (-79), 3) := by decide +kernel
theorem dX8_dayOn_116 : decode cX8_dayOn 116 = .ok (.iconst 0, 1) := by decide +kernel
theorem dX8_dayOn_117 : decode cX8_dayOn 117 = .ok (.istore 4, 2) := by decide +kernel
theorem dX8_dayOn_119 : decode cX8_dayOn 119 = .ok (.iload 4, 2) := by decide +kernel
theorem dX8_dayOn_121 : decode cX8_dayOn 121 = .ok (.bipush 36, 2) := by decide +kernel
theorem dX8_dayOn_123 : decode cX8_dayOn 123 = .ok (.if_icmp .ge 23, 3) := by decide +kernel
theorem dX8_dayOn_126 : decode cX8_dayOn 126 = .ok (.aload_n 0, 1) := by decide +kernel
theorem dX8_dayOn_127 : decode cX8_dayOn 127 = .ok (.getfield 22, 3) := by decide +kernel
theorem dX8_dayOn_130 : decode cX8_dayOn 130 = .ok (.iload 4, 2) := by decide +kernel
theorem dX8_dayOn_132 : decode cX8_dayOn 132 = .ok (.aload_n 0, 1) := by decide +kernel
theorem dX8_dayOn_133 : decode cX8_dayOn 133 = .ok (.getfield 25, 3) := by decide +kernel
theorem dX8_dayOn_136 : decode cX8_dayOn 136 = .ok (.iload 4, 2) := by decide +kernel
theorem dX8_dayOn_138 : decode cX8_dayOn 138 = .ok (.iaload, 1) := by decide +kernel
theorem dX8_dayOn_139 : decode cX8_dayOn 139 = .ok (.iastore, 1) := by decide +kernel
theorem dX8_dayOn_140 : decode cX8_dayOn 140 = .ok (.iinc 4 1, 3) := by decide +kernel
theorem dX8_dayOn_143 : decode cX8_dayOn 143 = .ok (.goto (-24), 3) := by decide +kernel
theorem dX8_dayOn_146 : decode cX8_dayOn 146 = .ok (.return_, 1) := by decide +kernel
theorem dX8_bribes_0 : decode cX8_bribes 0 = .ok (.aload_n 0, 1) := by decide +kernel
theorem dX8_bribes_1 : decode cX8_bribes 1 = .ok (.iload_n 1, 1) := by decide +kernel
theorem dX8_bribes_2 : decode cX8_bribes 2 = .ok (.invokevirtual 97, 3) := by decide +kernel
theorem dX8_bribes_5 : decode cX8_bribes 5 = .ok (.ifCond .eq 21, 3) := by decide +kernel
theorem dX8_bribes_8 : decode cX8_bribes 8 = .ok (.iload_n 2, 1) := by decide +kernel
theorem dX8_bribes_9 : decode cX8_bribes 9 = .ok (.invokestatic 66, 3) := by decide +kernel
theorem dX8_bribes_12 : decode cX8_bribes 12 = .ok (.ifCond .eq 14, 3) := by decide +kernel
theorem dX8_bribes_15 : decode cX8_bribes 15 = .ok (.iload_n 3, 1) := by decide +kernel
theorem dX8_bribes_16 : decode cX8_bribes 16 = .ok (.i2l, 1) := by decide +kernel
theorem dX8_bribes_17 : decode cX8_bribes 17 = .ok (.iconst 0, 1) := by decide +kernel
theorem dX8_bribes_18 : decode cX8_bribes 18 = .ok (.bipush 30, 2) := by decide +kernel
theorem dX8_bribes_20 : decode cX8_bribes 20 = .ok (.invokestatic 47, 3) := by decide +kernel
theorem dX8_bribes_23 : decode cX8_bribes 23 = .ok (.ifCond .ne 10, 3) := by decide +kernel
theorem dX8_bribes_26 : decode cX8_bribes 26 = .ok (.aload_n 0, 1) := by decide +kernel
theorem dX8_bribes_27 : decode cX8_bribes 27 = .ok (.ldc 41, 2) := by decide +kernel
theorem dX8_bribes_29 : decode cX8_bribes 29 = .ok (.invokevirtual 43, 3) := by decide +kernel
theorem dX8_bribes_32 : decode cX8_bribes 32 = .ok (.ireturn, 1) := by decide +kernel
theorem dX8_bribes_33 : decode cX8_bribes 33 = .ok (.aload_n 0, 1) := by decide +kernel
theorem dX8_bribes_34 : decode cX8_bribes 34 = .ok (.iload_n 1, 1) := by decide +kernel
theorem dX8_bribes_35 : decode cX8_bribes 35 = .ok (.invokevirtual 133, 3) := by decide +kernel
theorem dX8_bribes_38 : decode cX8_bribes 38 = .ok (.aload_n 0, 1) := by decide +kernel
theorem dX8_bribes_39 : decode cX8_bribes 39 = .ok (.getfield 22, 3) := by decide +kernel
theorem dX8_bribes_42 : decode cX8_bribes 42 = .ok (.iload_n 2, 1) := by decide +kernel
theorem dX8_bribes_43 : decode cX8_bribes 43 = .ok (.iaload, 1) := by decide +kernel
theorem dX8_bribes_44 : decode cX8_bribes 44 = .ok (.istore 4, 2) := by decide +kernel
theorem dX8_bribes_46 : decode cX8_bribes 46 = .ok (.iconst 0, 1) := by decide +kernel
theorem dX8_bribes_47 : decode cX8_bribes 47 = .ok (.istore 5, 2) := by decide +kernel
theorem dX8_bribes_49 : decode cX8_bribes 49 = .ok (.iload 5, 2) := by decide +kernel
theorem dX8_bribes_51 : decode cX8_bribes 51 = .ok (.iload_n 3, 1) := by decide +kernel
theorem dX8_bribes_52 : decode cX8_bribes 52 = .ok (.if_icmp .ge 47, 3) := by decide +kernel
theorem dX8_bribes_55 : decode cX8_bribes 55 = .ok (.aload_n 0, 1) := by decide +kernel
theorem dX8_bribes_56 : decode cX8_bribes 56 = .ok (.iload_n 1, 1) := by decide +kernel
theorem dX8_bribes_57 : decode cX8_bribes 57 = .ok (.aload_n 0, 1) := by decide +kernel
theorem dX8_bribes_58 : decode cX8_bribes 58 = .ok (.getfield 9, 3) := by decide +kernel
theorem dX8_bribes_61 : decode cX8_bribes 61 = .ok (.iconst 0, 1) := by decide +kernel
theorem dX8_bribes_62 : decode cX8_bribes 62 = .ok (.iaload, 1) := by decide +kernel
theorem dX8_bribes_63 : decode cX8_bribes 63 = .ok (.iload 5, 2) := by decide +kernel
theorem dX8_bribes_65 : decode cX8_bribes 65 = .ok (.iadd, 1) := by decide +kernel
theorem dX8_bribes_66 : decode cX8_bribes 66 = .ok (.invokevirtual 136, 3) := by decide +kernel
theorem dX8_bribes_69 : decode cX8_bribes 69 = .ok (.aload_n 0, 1) := by decide +kernel
theorem dX8_bribes_70 : decode cX8_bribes 70 = .ok (.getfield 22, 3) := by decide +kernel
theorem dX8_bribes_73 : decode cX8_bribes 73 = .ok (.iload_n 2, 1) := by decide +kernel
theorem dX8_bribes_74 : decode cX8_bribes 74 = .ok (.iaload, 1) := by decide +kernel
theorem dX8_bribes_75 : decode cX8_bribes 75 = .ok (.iload 4, 2) := by decide +kernel
theorem dX8_bribes_77 : decode cX8_bribes 77 = .ok (.if_icmp .ge 12, 3) := by decide +kernel
theorem dX8_bribes_80 : decode cX8_bribes 80 = .ok (.aload_n 0, 1) := by decide +kernel
theorem dX8_bribes_81 : decode cX8_bribes 81 = .ok (.getfield 22, 3) := by decide +kernel
theorem dX8_bribes_84 : decode cX8_bribes 84 = .ok (.iload_n 2, 1) := by decide +kernel
theorem dX8_bribes_85 : decode cX8_bribes 85 = .ok (.iaload, 1) := by decide +kernel
theorem dX8_bribes_86 : decode cX8_bribes 86 = .ok (.goto 5, 3) := by decide +kernel
theorem dX8_bribes_89 : decode cX8_bribes 89 = .ok (.iload 4, 2) := by decide +kernel
theorem dX8_bribes_91 : decode cX8_bribes 91 = .ok (.istore 4, 2) := by decide +kernel
theorem dX8_bribes_93 : decode cX8_bribes 93 = .ok (.iinc 5 1, 3) := by decide +kernel
theorem dX8_bribes_96 : decode cX8_bribes 96 = .ok (.goto (-47), 3) := by decide +kernel
theorem dX8_bribes_99 : decode cX8_bribes 99 = .ok (.iload 4, 2) := by decide +kernel
theorem dX8_bribes_101 : decode cX8_bribes 101 = .ok (.bipush 99, 2) := by decide +kernel
theorem dX8_bribes_103 : decode cX8_bribes 103 = .ok (.if_icmp .ne 12, 3) := by decide +kernel
theorem dX8_bribes_106 : decode cX8_bribes 106 = .ok (.aload_n 0, 1) := by decide +kernel
theorem dX8_bribes_107 : decode cX8_bribes 107 = .ok (.ldc 42, 2) := by decide +kernel
theorem dX8_bribes_109 : decode cX8_bribes 109 = .ok (.invokevirtual 43, 3) := by decide +kernel
theorem dX8_bribes_112 : decode cX8_bribes 112 = .ok (.goto 5, 3) := by decide +kernel
theorem dX8_bribes_115 : decode cX8_bribes 115 = .ok (.iload 4, 2) := by decide +kernel
theorem dX8_bribes_117 : decode cX8_bribes 117 = .ok (.ireturn, 1) := by decide +kernel
theorem dX8_soonest_0 : decode cX8_soonest 0 = .ok (.aload_n 0, 1) := by decide +kernel
theorem dX8_soonest_1 : decode cX8_soonest 1 = .ok (.iload_n 1, 1) := by decide +kernel
theorem dX8_soonest_2 : decode cX8_soonest 2 = .ok (.invokevirtual 97, 3) := by decide +kernel
theorem dX8_soonest_5 : decode cX8_soonest 5 = .ok (.ifCond .eq 21, 3) := by decide +kernel
theorem dX8_soonest_8 : decode cX8_soonest 8 = .ok (.iload_n 2, 1) := by decide +kernel
theorem dX8_soonest_9 : decode cX8_soonest 9 = .ok (.invokestatic 66, 3) := by decide +kernel
theorem dX8_soonest_12 : decode cX8_soonest 12 = .ok (.ifCond .eq 14, 3) := by decide +kernel
theorem dX8_soonest_15 : decode cX8_soonest 15 = .ok (.iload_n 3, 1) := by decide +kernel
theorem dX8_soonest_16 : decode cX8_soonest 16 = .ok (.i2l, 1) := by decide +kernel
theorem dX8_soonest_17 : decode cX8_soonest 17 = .ok (.iconst 0, 1) := by decide +kernel
theorem dX8_soonest_18 : decode cX8_soonest 18 = .ok (.bipush 30, 2) := by decide +kernel
theorem dX8_soonest_20 : decode cX8_soonest 20 = .ok (.invokestatic 47, 3) := by decide +kernel
theorem dX8_soonest_23 : decode cX8_soonest 23 = .ok (.ifCond .ne 10, 3) := by decide +kernel
theorem dX8_soonest_26 : decode cX8_soonest 26 = .ok (.aload_n 0, 1) := by decide +kernel
theorem dX8_soonest_27 : decode cX8_soonest 27 = .ok (.ldc 41, 2) := by decide +kernel
theorem dX8_soonest_29 : decode cX8_soonest 29 = .ok (.invokevirtual 43, 3) := by decide +kernel
theorem dX8_soonest_32 : decode cX8_soonest 32 = .ok (.ireturn, 1) := by decide +kernel
theorem dX8_soonest_33 : decode cX8_soonest 33 = .ok (.aload_n 0, 1) := by decide +kernel
theorem dX8_soonest_34 : decode cX8_soonest 34 = .ok (.iload_n 1, 1) := by decide +kernel
theorem dX8_soonest_35 : decode cX8_soonest 35 = .ok (.invokevirtual 133, 3) := by decide +kernel
theorem dX8_soonest_38 : decode cX8_soonest 38 = .ok (.iconst 0, 1) := by decide +kernel
theorem dX8_soonest_39 : decode cX8_soonest 39 = .ok (.istore 4, 2) := by decide +kernel
theorem dX8_soonest_41 : decode cX8_soonest 41 = .ok (.iload 4, 2) := by decide +kernel
theorem dX8_soonest_43 : decode cX8_soonest 43 = .ok (.bipush 30, 2) := by decide +kernel
theorem dX8_soonest_45 : decode cX8_soonest 45 = .ok (.if_icmp .gt 36, 3) := by decide +kernel
theorem dX8_soonest_48 : decode cX8_soonest 48 = .ok (.aload_n 0, 1) := by decide +kernel
theorem dX8_soonest_49 : decode cX8_soonest 49 = .ok (.getfield 22, 3) := by decide +kernel
theorem dX8_soonest_52 : decode cX8_soonest 52 = .ok (.iload_n 2, 1) := by decide +kernel
theorem dX8_soonest_53 : decode cX8_soonest 53 = .ok (.iaload, 1) := by decide +kernel
theorem dX8_soonest_54 : decode cX8_soonest 54 = .ok (.iload_n 3, 1) := by decide +kernel
theorem dX8_soonest_55 : decode cX8_soonest 55 = .ok (.if_icmp .gt 6, 3) := by decide +kernel
theorem dX8_soonest_58 : decode cX8_soonest 58 = .ok (.iload 4, 2) := by decide +kernel
theorem dX8_soonest_60 : decode cX8_soonest 60 = .ok (.ireturn, 1) := by decide +kernel
theorem dX8_soonest_61 : decode cX8_soonest 61 = .ok (.aload_n 0, 1) := by decide +kernel
theorem dX8_soonest_62 : decode cX8_soonest 62 = .ok (.iload_n 1, 1) := by decide +kernel
theorem dX8_soonest_63 : decode cX8_soonest 63 = .ok (.aload_n 0, 1) := by decide +kernel
theorem dX8_soonest_64 : decode cX8_soonest 64 = .ok (.getfield 9, 3) := by decide +kernel
theorem dX8_soonest_67 : decode cX8_soonest 67 = .ok (.iconst 0, 1) := by decide +kernel
theorem dX8_soonest_68 : decode cX8_soonest 68 = .ok (.iaload, 1) := by decide +kernel
theorem dX8_soonest_69 : decode cX8_soonest 69 = .ok (.iload 4, 2) := by decide +kernel
theorem dX8_soonest_71 : decode cX8_soonest 71 = .ok (.iadd, 1) := by decide +kernel
theorem dX8_soonest_72 : decode cX8_soonest 72 = .ok (.invokevirtual 136, 3) := by decide +kernel
theorem dX8_soonest_75 : decode cX8_soonest 75 = .ok (.iinc 4 1, 3) := by decide +kernel
theorem dX8_soonest_78 : decode cX8_soonest 78 = .ok (.goto (-37), 3) := by decide +kernel
theorem dX8_soonest_81 : decode cX8_soonest 81 = .ok (.aload_n 0, 1) := by decide +kernel
theorem dX8_soonest_82 : decode cX8_soonest 82 = .ok (.ldc 42, 2) := by decide +kernel
theorem dX8_soonest_84 : decode cX8_soonest 84 = .ok (.invokevirtual 43, 3) := by decide +kernel
theorem dX8_soonest_87 : decode cX8_soonest 87 = .ok (.ireturn, 1) := by decide +kernel
theorem dX8_reach_0 : decode cX8_reach 0 = .ok (.aload_n 0, 1) := by decide +kernel
theorem dX8_reach_1 : decode cX8_reach 1 = .ok (.iload_n 1, 1) := by decide +kernel
theorem dX8_reach_2 : decode cX8_reach 2 = .ok (.invokevirtual 97, 3) := by decide +kernel
theorem dX8_reach_5 : decode cX8_reach 5 = .ok (.ifCond .eq 14, 3) := by decide +kernel
theorem dX8_reach_8 : decode cX8_reach 8 = .ok (.iload_n 2, 1) := by decide +kernel
theorem dX8_reach_9 : decode cX8_reach 9 = .ok (.i2l, 1) := by decide +kernel
theorem dX8_reach_10 : decode cX8_reach 10 = .ok (.iconst 0, 1) := by decide +kernel
theorem dX8_reach_11 : decode cX8_reach 11 = .ok (.bipush 30, 2) := by decide +kernel
theorem dX8_reach_13 : decode cX8_reach 13 = .ok (.invokestatic 47, 3) := by decide +kernel
theorem dX8_reach_16 : decode cX8_reach 16 = .ok (.ifCond .ne 11, 3) := by decide +kernel
theorem dX8_reach_19 : decode cX8_reach 19 = .ok (.aload_n 0, 1) := by decide +kernel
theorem dX8_reach_20 : decode cX8_reach 20 = .ok (.ldc 41, 2) := by decide +kernel
theorem dX8_reach_22 : decode cX8_reach 22 = .ok (.invokevirtual 43, 3) := by decide +kernel
theorem dX8_reach_25 : decode cX8_reach 25 = .ok (.i2l, 1) := by decide +kernel
theorem dX8_reach_26 : decode cX8_reach 26 = .ok (.lreturn, 1) := by decide +kernel
theorem dX8_reach_27 : decode cX8_reach 27 = .ok (.aload_n 0, 1) := by decide +kernel
theorem dX8_reach_28 : decode cX8_reach 28 = .ok (.iload_n 1, 1) := by decide +kernel
theorem dX8_reach_29 : decode cX8_reach 29 = .ok (.invokevirtual 133, 3) := by decide +kernel
theorem dX8_reach_32 : decode cX8_reach 32 = .ok (.iconst 0, 1) := by decide +kernel
theorem dX8_reach_33 : decode cX8_reach 33 = .ok (.istore_n 3, 1) := by decide +kernel
theorem dX8_reach_34 : decode cX8_reach 34 = .ok (.iload_n 3, 1) := by decide +kernel
theorem dX8_reach_35 : decode cX8_reach 35 = .ok (.iload_n 2, 1) := by decide +kernel
theorem dX8_reach_36 : decode cX8_reach 36 = .ok (.if_icmp .ge 22, 3) := by decide +kernel
theorem dX8_reach_39 : decode cX8_reach 39 = .ok (.aload_n 0, 1) := by decide +kernel
theorem dX8_reach_40 : decode cX8_reach 40 = .ok (.iload_n 1, 1) := by decide +kernel
theorem dX8_reach_41 : decode cX8_reach 41 = .ok (.aload_n 0, 1) := by decide +kernel
theorem dX8_reach_42 : decode cX8_reach 42 = .ok (.getfield 9, 3) := by decide +kernel
theorem dX8_reach_45 : decode cX8_reach 45 = .ok (.iconst 0, 1) := by decide +kernel
theorem dX8_reach_46 : decode cX8_reach 46 = .ok (.iaload, 1) := by decide +kernel
theorem dX8_reach_47 : decode cX8_reach 47 = .ok (.iload_n 3, 1) := by decide +kernel
theorem dX8_reach_48 : decode cX8_reach 48 = .ok (.iadd, 1) := by decide +kernel
theorem dX8_reach_49 : decode cX8_reach 49 = .ok (.invokevirtual 136, 3) := by decide +kernel
theorem dX8_reach_52 : decode cX8_reach 52 = .ok (.iinc 3 1, 3) := by decide +kernel
theorem dX8_reach_55 : decode cX8_reach 55 = .ok (.goto (-21), 3) := by decide +kernel
theorem dX8_reach_58 : decode cX8_reach 58 = .ok (.lconst 0, 1) := by decide +kernel
theorem dX8_reach_59 : decode cX8_reach 59 = .ok (.lstore_n 3, 1) := by decide +kernel
theorem dX8_reach_60 : decode cX8_reach 60 = .ok (.iconst 0, 1) := by decide +kernel
theorem dX8_reach_61 : decode cX8_reach 61 = .ok (.istore 5, 2) := by decide +kernel
theorem dX8_reach_63 : decode cX8_reach 63 = .ok (.iload 5, 2) := by decide +kernel
theorem dX8_reach_65 : decode cX8_reach 65 = .ok (.bipush 36, 2) := by decide +kernel
theorem dX8_reach_67 : decode cX8_reach 67 = .ok (.if_icmp .ge 32, 3) := by decide +kernel
theorem dX8_reach_70 : decode cX8_reach 70 = .ok (.lload_n 3, 1) := by decide +kernel
theorem dX8_reach_71 : decode cX8_reach 71 = .ok (.aload_n 0, 1) := by decide +kernel
theorem dX8_reach_72 : decode cX8_reach 72 = .ok (.getfield 22, 3) := by decide +kernel
theorem dX8_reach_75 : decode cX8_reach 75 = .ok (.iload 5, 2) := by decide +kernel
theorem dX8_reach_77 : decode cX8_reach 77 = .ok (.iaload, 1) := by decide +kernel
theorem dX8_reach_78 : decode cX8_reach 78 = .ok (.bipush 99, 2) := by decide +kernel
theorem dX8_reach_80 : decode cX8_reach 80 = .ok (.if_icmp .ge 10, 3) := by decide +kernel
theorem dX8_reach_83 : decode cX8_reach 83 = .ok (.lconst 1, 1) := by decide +kernel
theorem dX8_reach_84 : decode cX8_reach 84 = .ok (.iload 5, 2) := by decide +kernel
theorem dX8_reach_86 : decode cX8_reach 86 = .ok (.lshl, 1) := by decide +kernel
theorem dX8_reach_87 : decode cX8_reach 87 = .ok (.goto 4, 3) := by decide +kernel
theorem dX8_reach_90 : decode cX8_reach 90 = .ok (.lconst 0, 1) := by decide +kernel
theorem dX8_reach_91 : decode cX8_reach 91 = .ok (.lor, 1) := by decide +kernel
theorem dX8_reach_92 : decode cX8_reach 92 = .ok (.lstore_n 3, 1) := by decide +kernel
theorem dX8_reach_93 : decode cX8_reach 93 = .ok (.iinc 5 1, 3) := by decide +kernel
theorem dX8_reach_96 : decode cX8_reach 96 = .ok (.goto (-33), 3) := by decide +kernel
theorem dX8_reach_99 : decode cX8_reach 99 = .ok (.lload_n 3, 1) := by decide +kernel
theorem dX8_reach_100 : decode cX8_reach 100 = .ok (.lreturn, 1) := by decide +kernel
theorem dX8_gainOn_0 : decode cX8_gainOn 0 = .ok (.aload_n 0, 1) := by decide +kernel
theorem dX8_gainOn_1 : decode cX8_gainOn 1 = .ok (.invokevirtual 116, 3) := by decide +kernel
theorem dX8_gainOn_4 : decode cX8_gainOn 4 = .ok (.istore_n 2, 1) := by decide +kernel
theorem dX8_gainOn_5 : decode cX8_gainOn 5 = .ok (.iconst 0, 1) := by decide +kernel
theorem dX8_gainOn_6 : decode cX8_gainOn 6 = .ok (.istore_n 3, 1) := by decide +kernel
theorem dX8_gainOn_7 : decode cX8_gainOn 7 = .ok (.iload_n 3, 1) := by decide +kernel
theorem dX8_gainOn_8 : decode cX8_gainOn 8 = .ok (.iload_n 1, 1) := by decide +kernel
theorem dX8_gainOn_9 : decode cX8_gainOn 9 = .ok (.if_icmp .ge 13, 3) := by decide +kernel
theorem dX8_gainOn_12 : decode cX8_gainOn 12 = .ok (.aload_n 0, 1) := by decide +kernel
theorem dX8_gainOn_13 : decode cX8_gainOn 13 = .ok (.invokevirtual 113, 3) := by decide +kernel
theorem dX8_gainOn_16 : decode cX8_gainOn 16 = .ok (.iinc 3 1, 3) := by decide +kernel
theorem dX8_gainOn_19 : decode cX8_gainOn 19 = .ok (.goto (-12), 3) := by decide +kernel
theorem dX8_gainOn_22 : decode cX8_gainOn 22 = .ok (.aload_n 0, 1) := by decide +kernel
theorem dX8_gainOn_23 : decode cX8_gainOn 23 = .ok (.invokevirtual 116, 3) := by decide +kernel
theorem dX8_gainOn_26 : decode cX8_gainOn 26 = .ok (.iload_n 2, 1) := by decide +kernel
theorem dX8_gainOn_27 : decode cX8_gainOn 27 = .ok (.isub, 1) := by decide +kernel
theorem dX8_gainOn_28 : decode cX8_gainOn 28 = .ok (.istore_n 3, 1) := by decide +kernel
theorem dX8_gainOn_29 : decode cX8_gainOn 29 = .ok (.aload_n 0, 1) := by decide +kernel
theorem dX8_gainOn_30 : decode cX8_gainOn 30 = .ok (.invokevirtual 127, 3) := by decide +kernel
theorem dX8_gainOn_33 : decode cX8_gainOn 33 = .ok (.iload_n 3, 1) := by decide +kernel
theorem dX8_gainOn_34 : decode cX8_gainOn 34 = .ok (.ireturn, 1) := by decide +kernel
theorem dX8_swap_0 : decode cX8_swap 0 = .ok (.iload_n 1, 1) := by decide +kernel
theorem dX8_swap_1 : decode cX8_swap 1 = .ok (.i2l, 1) := by decide +kernel
theorem dX8_swap_2 : decode cX8_swap 2 = .ok (.iconst 1, 1) := by decide +kernel
theorem dX8_swap_3 : decode cX8_swap 3 = .ok (.bipush 30, 2) := by decide +kernel
theorem dX8_swap_5 : decode cX8_swap 5 = .ok (.invokestatic 47, 3) := by decide +kernel
theorem dX8_swap_8 : decode cX8_swap 8 = .ok (.ifCond .ne 10, 3) := by decide +kernel
theorem dX8_swap_11 : decode cX8_swap 11 = .ok (.aload_n 0, 1) := by decide +kernel
theorem dX8_swap_12 : decode cX8_swap 12 = .ok (.ldc 41, 2) := by decide +kernel
theorem dX8_swap_14 : decode cX8_swap 14 = .ok (.invokevirtual 43, 3) := by decide +kernel
theorem dX8_swap_17 : decode cX8_swap 17 = .ok (.ireturn, 1) := by decide +kernel
theorem dX8_swap_18 : decode cX8_swap 18 = .ok (.aload_n 0, 1) := by decide +kernel
theorem dX8_swap_19 : decode cX8_swap 19 = .ok (.invokevirtual 124, 3) := by decide +kernel
theorem dX8_swap_22 : decode cX8_swap 22 = .ok (.aload_n 0, 1) := by decide +kernel
theorem dX8_swap_23 : decode cX8_swap 23 = .ok (.iload_n 1, 1) := by decide +kernel
theorem dX8_swap_24 : decode cX8_swap 24 = .ok (.invokevirtual 139, 3) := by decide +kernel
theorem dX8_swap_27 : decode cX8_swap 27 = .ok (.istore_n 2, 1) := by decide +kernel
theorem dX8_swap_28 : decode cX8_swap 28 = .ok (.iconst (-1), 1) := by decide +kernel
theorem dX8_swap_29 : decode cX8_swap 29 = .ok (.istore_n 3, 1) := by decide +kernel
theorem dX8_swap_30 : decode cX8_swap 30 = .ok (.iconst 0, 1) := by decide +kernel
theorem dX8_swap_31 : decode cX8_swap 31 = .ok (.istore 4, 2) := by decide +kernel
theorem dX8_swap_33 : decode cX8_swap 33 = .ok (.iload 4, 2) := by decide +kernel
theorem dX8_swap_35 : decode cX8_swap 35 = .ok (.bipush 7, 2) := by decide +kernel
theorem dX8_swap_37 : decode cX8_swap 37 = .ok (.if_icmp .ge 103, 3) := by decide +kernel
theorem dX8_swap_40 : decode cX8_swap 40 = .ok (.iload 4, 2) := by decide +kernel
theorem dX8_swap_42 : decode cX8_swap 42 = .ok (.iconst 1, 1) := by decide +kernel
theorem dX8_swap_43 : decode cX8_swap 43 = .ok (.iadd, 1) := by decide +kernel
theorem dX8_swap_44 : decode cX8_swap 44 = .ok (.istore 5, 2) := by decide +kernel
theorem dX8_swap_46 : decode cX8_swap 46 = .ok (.iload 5, 2) := by decide +kernel
theorem dX8_swap_48 : decode cX8_swap 48 = .ok (.bipush 7, 2) := by decide +kernel
theorem dX8_swap_50 : decode cX8_swap 50 = .ok (.if_icmp .ge 84, 3) := by decide +kernel
theorem dX8_swap_53 : decode cX8_swap 53 = .ok (.aload_n 0, 1) := by decide +kernel
theorem dX8_swap_54 : decode cX8_swap 54 = .ok (.getfield 9, 3) := by decide +kernel
theorem dX8_swap_57 : decode cX8_swap 57 = .ok (.iconst 4, 1) := by decide +kernel
theorem dX8_swap_58 : decode cX8_swap 58 = .ok (.iload 4, 2) := by decide +kernel
theorem dX8_swap_60 : decode cX8_swap 60 = .ok (.iadd, 1) := by decide +kernel
theorem dX8_swap_61 : decode cX8_swap 61 = .ok (.aload_n 0, 1) := by decide +kernel
theorem dX8_swap_62 : decode cX8_swap 62 = .ok (.getfield 16, 3) := by decide +kernel
theorem dX8_swap_65 : decode cX8_swap 65 = .ok (.iconst 4, 1) := by decide +kernel
theorem dX8_swap_66 : decode cX8_swap 66 = .ok (.iload 5, 2) := by decide +kernel
theorem dX8_swap_68 : decode cX8_swap 68 = .ok (.iadd, 1) := by decide +kernel
theorem dX8_swap_69 : decode cX8_swap 69 = .ok (.iaload, 1) := by decide +kernel
theorem dX8_swap_70 : decode cX8_swap 70 = .ok (.iastore, 1) := by decide +kernel
theorem dX8_swap_71 : decode cX8_swap 71 = .ok (.aload_n 0, 1) := by decide +kernel
theorem dX8_swap_72 : decode cX8_swap 72 = .ok (.getfield 9, 3) := by decide +kernel
theorem dX8_swap_75 : decode cX8_swap 75 = .ok (.iconst 4, 1) := by decide +kernel
theorem dX8_swap_76 : decode cX8_swap 76 = .ok (.iload 5, 2) := by decide +kernel
theorem dX8_swap_78 : decode cX8_swap 78 = .ok (.iadd, 1) := by decide +kernel
theorem dX8_swap_79 : decode cX8_swap 79 = .ok (.aload_n 0, 1) := by decide +kernel
theorem dX8_swap_80 : decode cX8_swap 80 = .ok (.getfield 16, 3) := by decide +kernel
theorem dX8_swap_83 : decode cX8_swap 83 = .ok (.iconst 4, 1) := by decide +kernel
theorem dX8_swap_84 : decode cX8_swap 84 = .ok (.iload 4, 2) := by decide +kernel
theorem dX8_swap_86 : decode cX8_swap 86 = .ok (.iadd, 1) := by decide +kernel
theorem dX8_swap_87 : decode cX8_swap 87 = .ok (.iaload, 1) := by decide +kernel
theorem dX8_swap_88 : decode cX8_swap 88 = .ok (.iastore, 1) := by decide +kernel
theorem dX8_swap_89 : decode cX8_swap 89 = .ok (.aload_n 0, 1) := by decide +kernel
theorem dX8_swap_90 : decode cX8_swap 90 = .ok (.iload_n 1, 1) := by decide +kernel
theorem dX8_swap_91 : decode cX8_swap 91 = .ok (.invokevirtual 139, 3) := by decide +kernel
theorem dX8_swap_94 : decode cX8_swap 94 = .ok (.istore 6, 2) := by decide +kernel
theorem dX8_swap_96 : decode cX8_swap 96 = .ok (.iload 6, 2) := by decide +kernel
theorem dX8_swap_98 : decode cX8_swap 98 = .ok (.iload_n 2, 1) := by decide +kernel
theorem dX8_swap_99 : decode cX8_swap 99 = .ok (.if_icmp .le 14, 3) := by decide +kernel
theorem dX8_swap_102 : decode cX8_swap 102 = .ok (.bipush 10, 2) := by decide +kernel
theorem dX8_swap_104 : decode cX8_swap 104 = .ok (.iload 4, 2) := by decide +kernel
theorem dX8_swap_106 : decode cX8_swap 106 = .ok (.imul, 1) := by decide +kernel
theorem dX8_swap_107 : decode cX8_swap 107 = .ok (.iload 5, 2) := by decide +kernel
theorem dX8_swap_109 : decode cX8_swap 109 = .ok (.iadd, 1) := by decide +kernel
theorem dX8_swap_110 : decode cX8_swap 110 = .ok (.goto 4, 3) := by decide +kernel
theorem dX8_swap_113 : decode cX8_swap 113 = .ok (.iload_n 3, 1) := by decide +kernel
theorem dX8_swap_114 : decode cX8_swap 114 = .ok (.istore_n 3, 1) := by decide +kernel
theorem dX8_swap_115 : decode cX8_swap 115 = .ok (.iload 6, 2) := by decide +kernel
theorem dX8_swap_117 : decode cX8_swap 117 = .ok (.iload_n 2, 1) := by decide +kernel
theorem dX8_swap_118 : decode cX8_swap 118 = .ok (.if_icmp .le 8, 3) := by decide +kernel
theorem dX8_swap_121 : decode cX8_swap 121 = .ok (.iload 6, 2) := by decide +kernel
theorem dX8_swap_123 : decode cX8_swap 123 = .ok (.goto 4, 3) := by decide +kernel
theorem dX8_swap_126 : decode cX8_swap 126 = .ok (.iload_n 2, 1) := by decide +kernel
theorem dX8_swap_127 : decode cX8_swap 127 = .ok (.istore_n 2, 1) := by decide +kernel
theorem dX8_swap_128 : decode cX8_swap 128 = .ok (.iinc 5 1, 3) := by decide +kernel
theorem dX8_swap_131 : decode cX8_swap 131 = .ok (.goto (-85), 3) := by decide +kernel
theorem dX8_swap_134 : decode cX8_swap 134 = .ok (.iinc 4 1, 3) := by decide +kernel
theorem dX8_swap_137 : decode cX8_swap 137 = .ok (.goto (-104), 3) := by decide +kernel
theorem dX8_swap_140 : decode cX8_swap 140 = .ok (.aload_n 0, 1) := by decide +kernel
theorem dX8_swap_141 : decode cX8_swap 141 = .ok (.iload_n 3, 1) := by decide +kernel
theorem dX8_swap_142 : decode cX8_swap 142 = .ok (.invokevirtual 72, 3) := by decide +kernel
theorem dX8_swap_145 : decode cX8_swap 145 = .ok (.ireturn, 1) := by decide +kernel
theorem dX8_missed_0 : decode cX8_missed 0 = .ok (.iload_n 1, 1) := by decide +kernel
theorem dX8_missed_1 : decode cX8_missed 1 = .ok (.i2l, 1) := by decide +kernel
theorem dX8_missed_2 : decode cX8_missed 2 = .ok (.iconst 1, 1) := by decide +kernel
theorem dX8_missed_3 : decode cX8_missed 3 = .ok (.bipush 30, 2) := by decide +kernel
theorem dX8_missed_5 : decode cX8_missed 5 = .ok (.invokestatic 47, 3) := by decide +kernel
theorem dX8_missed_8 : decode cX8_missed 8 = .ok (.ifCond .ne 10, 3) := by decide +kernel
theorem dX8_missed_11 : decode cX8_missed 11 = .ok (.aload_n 0, 1) := by decide +kernel
theorem dX8_missed_12 : decode cX8_missed 12 = .ok (.ldc 41, 2) := by decide +kernel
theorem dX8_missed_14 : decode cX8_missed 14 = .ok (.invokevirtual 43, 3) := by decide +kernel
theorem dX8_missed_17 : decode cX8_missed 17 = .ok (.ireturn, 1) := by decide +kernel
theorem dX8_missed_18 : decode cX8_missed 18 = .ok (.aload_n 0, 1) := by decide +kernel
theorem dX8_missed_19 : decode cX8_missed 19 = .ok (.invokevirtual 124, 3) := by decide +kernel
theorem dX8_missed_22 : decode cX8_missed 22 = .ok (.iconst 0, 1) := by decide +kernel
theorem dX8_missed_23 : decode cX8_missed 23 = .ok (.istore_n 2, 1) := by decide +kernel
theorem dX8_missed_24 : decode cX8_missed 24 = .ok (.iconst (-1), 1) := by decide +kernel
theorem dX8_missed_25 : decode cX8_missed 25 = .ok (.istore_n 3, 1) := by decide +kernel
theorem dX8_missed_26 : decode cX8_missed 26 = .ok (.iconst 0, 1) := by decide +kernel
theorem dX8_missed_27 : decode cX8_missed 27 = .ok (.istore 4, 2) := by decide +kernel
theorem dX8_missed_29 : decode cX8_missed 29 = .ok (.iload 4, 2) := by decide +kernel
theorem dX8_missed_31 : decode cX8_missed 31 = .ok (.bipush 8, 2) := by decide +kernel
theorem dX8_missed_33 : decode cX8_missed 33 = .ok (.if_icmp .ge 78, 3) := by decide +kernel
theorem dX8_missed_36 : decode cX8_missed 36 = .ok (.aload_n 0, 1) := by decide +kernel
theorem dX8_missed_37 : decode cX8_missed 37 = .ok (.getfield 16, 3) := by decide +kernel
theorem dX8_missed_40 : decode cX8_missed 40 = .ok (.iconst 2, 1) := by decide +kernel
theorem dX8_missed_41 : decode cX8_missed 41 = .ok (.iaload, 1) := by decide +kernel
theorem dX8_missed_42 : decode cX8_missed 42 = .ok (.iload 4, 2) := by decide +kernel
theorem dX8_missed_44 : decode cX8_missed 44 = .ok (.ishr, 1) := by decide +kernel
theorem dX8_missed_45 : decode cX8_missed 45 = .ok (.iconst 1, 1) := by decide +kernel
theorem dX8_missed_46 : decode cX8_missed 46 = .ok (.iand, 1) := by decide +kernel
theorem dX8_missed_47 : decode cX8_missed 47 = .ok (.ifCond .ne 58, 3) := by decide +kernel
theorem dX8_missed_50 : decode cX8_missed 50 = .ok (.aload_n 0, 1) := by decide +kernel
theorem dX8_missed_51 : decode cX8_missed 51 = .ok (.iload 4, 2) := by decide +kernel
theorem dX8_missed_53 : decode cX8_missed 53 = .ok (.iconst 1, 1) := by decide +kernel
theorem dX8_missed_54 : decode cX8_missed 54 = .ok (.invokevirtual 59, 3) := by decide +kernel
theorem dX8_missed_57 : decode cX8_missed 57 = .ok (.aload_n 0, 1) := by decide +kernel
theorem dX8_missed_58 : decode cX8_missed 58 = .ok (.iload_n 1, 1) := by decide +kernel
theorem dX8_missed_59 : decode cX8_missed 59 = .ok (.invokevirtual 139, 3) := by decide +kernel
theorem dX8_missed_62 : decode cX8_missed 62 = .ok (.istore 5, 2) := by decide +kernel
theorem dX8_missed_64 : decode cX8_missed 64 = .ok (.iload_n 3, 1) := by decide +kernel
theorem dX8_missed_65 : decode cX8_missed 65 = .ok (.ifCond .lt 9, 3) := by decide +kernel
theorem dX8_missed_68 : decode cX8_missed 68 = .ok (.iload 5, 2) := by decide +kernel
theorem dX8_missed_70 : decode cX8_missed 70 = .ok (.iload_n 2, 1) := by decide +kernel
theorem dX8_missed_71 : decode cX8_missed 71 = .ok (.if_icmp .ge 7, 3) := by decide +kernel
theorem dX8_missed_74 : decode cX8_missed 74 = .ok (.iconst 1, 1) := by decide +kernel
theorem dX8_missed_75 : decode cX8_missed 75 = .ok (.goto 4, 3) := by decide +kernel
theorem dX8_missed_78 : decode cX8_missed 78 = .ok (.iconst 0, 1) := by decide +kernel
theorem dX8_missed_79 : decode cX8_missed 79 = .ok (.istore 6, 2) := by decide +kernel
theorem dX8_missed_81 : decode cX8_missed 81 = .ok (.iload 6, 2) := by decide +kernel
theorem dX8_missed_83 : decode cX8_missed 83 = .ok (.ifCond .eq 8, 3) := by decide +kernel
theorem dX8_missed_86 : decode cX8_missed 86 = .ok (.iload 4, 2) := by decide +kernel
theorem dX8_missed_88 : decode cX8_missed 88 = .ok (.goto 4, 3) := by decide +kernel
theorem dX8_missed_91 : decode cX8_missed 91 = .ok (.iload_n 3, 1) := by decide +kernel
theorem dX8_missed_92 : decode cX8_missed 92 = .ok (.istore_n 3, 1) := by decide +kernel
theorem dX8_missed_93 : decode cX8_missed 93 = .ok (.iload 6, 2) := by decide +kernel
theorem dX8_missed_95 : decode cX8_missed 95 = .ok (.ifCond .eq 8, 3) := by decide +kernel
theorem dX8_missed_98 : decode cX8_missed 98 = .ok (.iload 5, 2) := by decide +kernel
theorem dX8_missed_100 : decode cX8_missed 100 = .ok (.goto 4, 3) := by decide +kernel
theorem dX8_missed_103 : decode cX8_missed 103 = .ok (.iload_n 2, 1) := by decide +kernel
theorem dX8_missed_104 : decode cX8_missed 104 = .ok (.istore_n 2, 1) := by decide +kernel
theorem dX8_missed_105 : decode cX8_missed 105 = .ok (.iinc 4 1, 3) := by decide +kernel
theorem dX8_missed_108 : decode cX8_missed 108 = .ok (.goto (-79), 3) := by decide +kernel
theorem dX8_missed_111 : decode cX8_missed 111 = .ok (.aload_n 0, 1) := by decide +kernel
theorem dX8_missed_112 : decode cX8_missed 112 = .ok (.iload_n 3, 1) := by decide +kernel
theorem dX8_missed_113 : decode cX8_missed 113 = .ok (.invokevirtual 72, 3) := by decide +kernel
theorem dX8_missed_116 : decode cX8_missed 116 = .ok (.ireturn, 1) := by decide +kernel
theorem dX8_enough_0 : decode cX8_enough 0 = .ok (.iload_n 1, 1) := by decide +kernel
theorem dX8_enough_1 : decode cX8_enough 1 = .ok (.i2l, 1) := by decide +kernel
theorem dX8_enough_2 : decode cX8_enough 2 = .ok (.iconst 1, 1) := by decide +kernel
theorem dX8_enough_3 : decode cX8_enough 3 = .ok (.bipush 30, 2) := by decide +kernel
theorem dX8_enough_5 : decode cX8_enough 5 = .ok (.invokestatic 47, 3) := by decide +kernel
theorem dX8_enough_8 : decode cX8_enough 8 = .ok (.ifCond .eq 14, 3) := by decide +kernel
theorem dX8_enough_11 : decode cX8_enough 11 = .ok (.iload_n 2, 1) := by decide +kernel
theorem dX8_enough_12 : decode cX8_enough 12 = .ok (.i2l, 1) := by decide +kernel
theorem dX8_enough_13 : decode cX8_enough 13 = .ok (.iconst 0, 1) := by decide +kernel
theorem dX8_enough_14 : decode cX8_enough 14 = .ok (.ldc 103, 2) := by decide +kernel
theorem dX8_enough_16 : decode cX8_enough 16 = .ok (.invokestatic 47, 3) := by decide +kernel
theorem dX8_enough_19 : decode cX8_enough 19 = .ok (.ifCond .ne 10, 3) := by decide +kernel
theorem dX8_enough_22 : decode cX8_enough 22 = .ok (.aload_n 0, 1) := by decide +kernel
theorem dX8_enough_23 : decode cX8_enough 23 = .ok (.ldc 41, 2) := by decide +kernel
theorem dX8_enough_25 : decode cX8_enough 25 = .ok (.invokevirtual 43, 3) := by decide +kernel
theorem dX8_enough_28 : decode cX8_enough 28 = .ok (.ireturn, 1) := by decide +kernel
theorem dX8_enough_29 : decode cX8_enough 29 = .ok (.aload_n 0, 1) := by decide +kernel
theorem dX8_enough_30 : decode cX8_enough 30 = .ok (.invokevirtual 124, 3) := by decide +kernel
theorem dX8_enough_33 : decode cX8_enough 33 = .ok (.iconst (-1), 1) := by decide +kernel
theorem dX8_enough_34 : decode cX8_enough 34 = .ok (.istore_n 3, 1) := by decide +kernel
theorem dX8_enough_35 : decode cX8_enough 35 = .ok (.bipush 9, 2) := by decide +kernel
theorem dX8_enough_37 : decode cX8_enough 37 = .ok (.istore 4, 2) := by decide +kernel
theorem dX8_enough_39 : decode cX8_enough 39 = .ok (.iload 4, 2) := by decide +kernel
theorem dX8_enough_41 : decode cX8_enough 41 = .ok (.ifCond .lt 33, 3) := by decide +kernel
theorem dX8_enough_44 : decode cX8_enough 44 = .ok (.aload_n 0, 1) := by decide +kernel
theorem dX8_enough_45 : decode cX8_enough 45 = .ok (.getfield 9, 3) := by decide +kernel
theorem dX8_enough_48 : decode cX8_enough 48 = .ok (.iconst 1, 1) := by decide +kernel
theorem dX8_enough_49 : decode cX8_enough 49 = .ok (.iload 4, 2) := by decide +kernel
theorem dX8_enough_51 : decode cX8_enough 51 = .ok (.iastore, 1) := by decide +kernel
theorem dX8_enough_52 : decode cX8_enough 52 = .ok (.aload_n 0, 1) := by decide +kernel
theorem dX8_enough_53 : decode cX8_enough 53 = .ok (.iload_n 1, 1) := by decide +kernel
theorem dX8_enough_54 : decode cX8_enough 54 = .ok (.invokevirtual 139, 3) := by decide +kernel
theorem dX8_enough_57 : decode cX8_enough 57 = .ok (.iload_n 2, 1) := by decide +kernel
theorem dX8_enough_58 : decode cX8_enough 58 = .ok (.if_icmp .lt 8, 3) := by decide +kernel
theorem dX8_enough_61 : decode cX8_enough 61 = .ok (.iload 4, 2) := by decide +kernel
theorem dX8_enough_63 : decode cX8_enough 63 = .ok (.goto 4, 3) := by decide +kernel
theorem dX8_enough_66 : decode cX8_enough 66 = .ok (.iload_n 3, 1) := by decide +kernel
theorem dX8_enough_67 : decode cX8_enough 67 = .ok (.istore_n 3, 1) := by decide +kernel
theorem dX8_enough_68 : decode cX8_enough 68 = .ok (.iinc 4 (-1), 3) := by decide +kernel
theorem dX8_enough_71 : decode cX8_enough 71 = .ok (.goto (-32), 3) := by decide +kernel
theorem dX8_enough_74 : decode cX8_enough 74 = .ok (.aload_n 0, 1) := by decide +kernel
theorem dX8_enough_75 : decode cX8_enough 75 = .ok (.iload_n 3, 1) := by decide +kernel
theorem dX8_enough_76 : decode cX8_enough 76 = .ok (.invokevirtual 72, 3) := by decide +kernel
theorem dX8_enough_79 : decode cX8_enough 79 = .ok (.ireturn, 1) := by decide +kernel
theorem dX8_bestAt_0 : decode cX8_bestAt 0 = .ok (.aload_n 0, 1) := by decide +kernel
theorem dX8_bestAt_1 : decode cX8_bestAt 1 = .ok (.invokevirtual 124, 3) := by decide +kernel
theorem dX8_bestAt_4 : decode cX8_bestAt 4 = .ok (.iconst 0, 1) := by decide +kernel
theorem dX8_bestAt_5 : decode cX8_bestAt 5 = .ok (.istore 4, 2) := by decide +kernel
theorem dX8_bestAt_7 : decode cX8_bestAt 7 = .ok (.iconst (-1), 1) := by decide +kernel
theorem dX8_bestAt_8 : decode cX8_bestAt 8 = .ok (.istore 5, 2) := by decide +kernel
theorem dX8_bestAt_10 : decode cX8_bestAt 10 = .ok (.iconst 0, 1) := by decide +kernel
theorem dX8_bestAt_11 : decode cX8_bestAt 11 = .ok (.istore 6, 2) := by decide +kernel
theorem dX8_bestAt_13 : decode cX8_bestAt 13 = .ok (.iload 6, 2) := by decide +kernel
theorem dX8_bestAt_15 : decode cX8_bestAt 15 = .ok (.iload_n 2, 1) := by decide +kernel
theorem dX8_bestAt_16 : decode cX8_bestAt 16 = .ok (.if_icmp .ge 56, 3) := by decide +kernel
theorem dX8_bestAt_19 : decode cX8_bestAt 19 = .ok (.aload_n 0, 1) := by decide +kernel
theorem dX8_bestAt_20 : decode cX8_bestAt 20 = .ok (.getfield 9, 3) := by decide +kernel
theorem dX8_bestAt_23 : decode cX8_bestAt 23 = .ok (.iload_n 1, 1) := by decide +kernel
theorem dX8_bestAt_24 : decode cX8_bestAt 24 = .ok (.iload 6, 2) := by decide +kernel
theorem dX8_bestAt_26 : decode cX8_bestAt 26 = .ok (.iastore, 1) := by decide +kernel
theorem dX8_bestAt_27 : decode cX8_bestAt 27 = .ok (.aload_n 0, 1) := by decide +kernel
theorem dX8_bestAt_28 : decode cX8_bestAt 28 = .ok (.iload_n 3, 1) := by decide +kernel
theorem dX8_bestAt_29 : decode cX8_bestAt 29 = .ok (.invokevirtual 139, 3) := by decide +kernel
theorem dX8_bestAt_32 : decode cX8_bestAt 32 = .ok (.istore 7, 2) := by decide +kernel
theorem dX8_bestAt_34 : decode cX8_bestAt 34 = .ok (.iload 7, 2) := by decide +kernel
theorem dX8_bestAt_36 : decode cX8_bestAt 36 = .ok (.iload 5, 2) := by decide +kernel
theorem dX8_bestAt_38 : decode cX8_bestAt 38 = .ok (.if_icmp .le 8, 3) := by decide +kernel
theorem dX8_bestAt_41 : decode cX8_bestAt 41 = .ok (.iload 6, 2) := by decide +kernel
theorem dX8_bestAt_43 : decode cX8_bestAt 43 = .ok (.goto 5, 3) := by decide +kernel
theorem dX8_bestAt_46 : decode cX8_bestAt 46 = .ok (.iload 4, 2) := by decide +kernel
theorem dX8_bestAt_48 : decode cX8_bestAt 48 = .ok (.istore 4, 2) := by decide +kernel
theorem dX8_bestAt_50 : decode cX8_bestAt 50 = .ok (.iload 7, 2) := by decide +kernel
theorem dX8_bestAt_52 : decode cX8_bestAt 52 = .ok (.iload 5, 2) := by decide +kernel
theorem dX8_bestAt_54 : decode cX8_bestAt 54 = .ok (.if_icmp .le 8, 3) := by decide +kernel
theorem dX8_bestAt_57 : decode cX8_bestAt 57 = .ok (.iload 7, 2) := by decide +kernel
theorem dX8_bestAt_59 : decode cX8_bestAt 59 = .ok (.goto 5, 3) := by decide +kernel
theorem dX8_bestAt_62 : decode cX8_bestAt 62 = .ok (.iload 5, 2) := by decide +kernel
theorem dX8_bestAt_64 : decode cX8_bestAt 64 = .ok (.istore 5, 2) := by decide +kernel
end
section
theorem dX8_bestAt_66 : decode cX8_bestAt 66 = .ok (.iinc 6 1, 3) := by decide +kernel
theorem dX8_bestAt_69 : decode cX8_bestAt 69 = .ok (.goto (-56), 3) := by decide +kernel
theorem dX8_bestAt_72 : decode cX8_bestAt 72 = .ok (.iload 4, 2) := by decide +kernel
theorem dX8_bestAt_74 : decode cX8_bestAt 74 = .ok (.ireturn, 1) := by decide +kernel
theorem dX8_kind_0 : decode cX8_kind 0 = .ok (.aload_n 0, 1) := by decide +kernel
theorem dX8_kind_1 : decode cX8_kind 1 = .ok (.iload_n 1, 1) := by decide +kernel
theorem dX8_kind_2 : decode cX8_kind 2 = .ok (.invokevirtual 97, 3) := by decide +kernel
theorem dX8_kind_5 : decode cX8_kind 5 = .ok (.ifCond .eq 30, 3) := by decide +kernel
theorem dX8_kind_8 : decode cX8_kind 8 = .ok (.iload_n 2, 1) := by decide +kernel
theorem dX8_kind_9 : decode cX8_kind 9 = .ok (.i2l, 1) := by decide +kernel
theorem dX8_kind_10 : decode cX8_kind 10 = .ok (.iconst 1, 1) := by decide +kernel
theorem dX8_kind_11 : decode cX8_kind 11 = .ok (.bipush 30, 2) := by decide +kernel
theorem dX8_kind_13 : decode cX8_kind 13 = .ok (.invokestatic 47, 3) := by decide +kernel
theorem dX8_kind_16 : decode cX8_kind 16 = .ok (.ifCond .eq 19, 3) := by decide +kernel
theorem dX8_kind_19 : decode cX8_kind 19 = .ok (.aload_n 0, 1) := by decide +kernel
theorem dX8_kind_20 : decode cX8_kind 20 = .ok (.bipush 11, 2) := by decide +kernel
theorem dX8_kind_22 : decode cX8_kind 22 = .ok (.iconst 4, 1) := by decide +kernel
theorem dX8_kind_23 : decode cX8_kind 23 = .ok (.iload_n 1, 1) := by decide +kernel
theorem dX8_kind_24 : decode cX8_kind 24 = .ok (.imul, 1) := by decide +kernel
theorem dX8_kind_25 : decode cX8_kind 25 = .ok (.iadd, 1) := by decide +kernel
theorem dX8_kind_26 : decode cX8_kind 26 = .ok (.bipush 6, 2) := by decide +kernel
theorem dX8_kind_28 : decode cX8_kind 28 = .ok (.iload_n 2, 1) := by decide +kernel
theorem dX8_kind_29 : decode cX8_kind 29 = .ok (.invokevirtual 142, 3) := by decide +kernel
theorem dX8_kind_32 : decode cX8_kind 32 = .ok (.goto 9, 3) := by decide +kernel
theorem dX8_kind_35 : decode cX8_kind 35 = .ok (.aload_n 0, 1) := by decide +kernel
theorem dX8_kind_36 : decode cX8_kind 36 = .ok (.ldc 41, 2) := by decide +kernel
theorem dX8_kind_38 : decode cX8_kind 38 = .ok (.invokevirtual 43, 3) := by decide +kernel
theorem dX8_kind_41 : decode cX8_kind 41 = .ok (.ireturn, 1) := by decide +kernel
theorem dX8_facing_0 : decode cX8_facing 0 = .ok (.aload_n 0, 1) := by decide +kernel
theorem dX8_facing_1 : decode cX8_facing 1 = .ok (.iload_n 1, 1) := by decide +kernel
theorem dX8_facing_2 : decode cX8_facing 2 = .ok (.invokevirtual 97, 3) := by decide +kernel
theorem dX8_facing_5 : decode cX8_facing 5 = .ok (.ifCond .eq 32, 3) := by decide +kernel
theorem dX8_facing_8 : decode cX8_facing 8 = .ok (.iload_n 2, 1) := by decide +kernel
theorem dX8_facing_9 : decode cX8_facing 9 = .ok (.i2l, 1) := by decide +kernel
theorem dX8_facing_10 : decode cX8_facing 10 = .ok (.iconst 1, 1) := by decide +kernel
theorem dX8_facing_11 : decode cX8_facing 11 = .ok (.bipush 30, 2) := by decide +kernel
theorem dX8_facing_13 : decode cX8_facing 13 = .ok (.invokestatic 47, 3) := by decide +kernel
theorem dX8_facing_16 : decode cX8_facing 16 = .ok (.ifCond .eq 21, 3) := by decide +kernel
theorem dX8_facing_19 : decode cX8_facing 19 = .ok (.aload_n 0, 1) := by decide +kernel
theorem dX8_facing_20 : decode cX8_facing 20 = .ok (.bipush 11, 2) := by decide +kernel
theorem dX8_facing_22 : decode cX8_facing 22 = .ok (.iconst 4, 1) := by decide +kernel
theorem dX8_facing_23 : decode cX8_facing 23 = .ok (.iload_n 1, 1) := by decide +kernel
theorem dX8_facing_24 : decode cX8_facing 24 = .ok (.imul, 1) := by decide +kernel
theorem dX8_facing_25 : decode cX8_facing 25 = .ok (.iadd, 1) := by decide +kernel
theorem dX8_facing_26 : decode cX8_facing 26 = .ok (.iconst 2, 1) := by decide +kernel
theorem dX8_facing_27 : decode cX8_facing 27 = .ok (.iadd, 1) := by decide +kernel
theorem dX8_facing_28 : decode cX8_facing 28 = .ok (.bipush 8, 2) := by decide +kernel
theorem dX8_facing_30 : decode cX8_facing 30 = .ok (.iload_n 2, 1) := by decide +kernel
theorem dX8_facing_31 : decode cX8_facing 31 = .ok (.invokevirtual 142, 3) := by decide +kernel
theorem dX8_facing_34 : decode cX8_facing 34 = .ok (.goto 9, 3) := by decide +kernel
theorem dX8_facing_37 : decode cX8_facing 37 = .ok (.aload_n 0, 1) := by decide +kernel
theorem dX8_facing_38 : decode cX8_facing 38 = .ok (.ldc 41, 2) := by decide +kernel
theorem dX8_facing_40 : decode cX8_facing 40 = .ok (.invokevirtual 43, 3) := by decide +kernel
theorem dX8_facing_43 : decode cX8_facing 43 = .ok (.ireturn, 1) := by decide +kernel
theorem dX8_best_0 : decode cX8_best 0 = .ok (.iload_n 1, 1) := by decide +kernel
theorem dX8_best_1 : decode cX8_best 1 = .ok (.i2l, 1) := by decide +kernel
theorem dX8_best_2 : decode cX8_best 2 = .ok (.iconst 0, 1) := by decide +kernel
theorem dX8_best_3 : decode cX8_best 3 = .ok (.bipush 6, 2) := by decide +kernel
theorem dX8_best_5 : decode cX8_best 5 = .ok (.invokestatic 47, 3) := by decide +kernel
theorem dX8_best_8 : decode cX8_best 8 = .ok (.ifCond .eq 27, 3) := by decide +kernel
theorem dX8_best_11 : decode cX8_best 11 = .ok (.iload_n 2, 1) := by decide +kernel
theorem dX8_best_12 : decode cX8_best 12 = .ok (.i2l, 1) := by decide +kernel
theorem dX8_best_13 : decode cX8_best 13 = .ok (.iconst 1, 1) := by decide +kernel
theorem dX8_best_14 : decode cX8_best 14 = .ok (.bipush 30, 2) := by decide +kernel
theorem dX8_best_16 : decode cX8_best 16 = .ok (.invokestatic 47, 3) := by decide +kernel
theorem dX8_best_19 : decode cX8_best 19 = .ok (.ifCond .eq 16, 3) := by decide +kernel
theorem dX8_best_22 : decode cX8_best 22 = .ok (.aload_n 0, 1) := by decide +kernel
theorem dX8_best_23 : decode cX8_best 23 = .ok (.iconst 4, 1) := by decide +kernel
theorem dX8_best_24 : decode cX8_best 24 = .ok (.iload_n 1, 1) := by decide +kernel
theorem dX8_best_25 : decode cX8_best 25 = .ok (.iadd, 1) := by decide +kernel
theorem dX8_best_26 : decode cX8_best 26 = .ok (.bipush 9, 2) := by decide +kernel
theorem dX8_best_28 : decode cX8_best 28 = .ok (.iload_n 2, 1) := by decide +kernel
theorem dX8_best_29 : decode cX8_best 29 = .ok (.invokevirtual 142, 3) := by decide +kernel
theorem dX8_best_32 : decode cX8_best 32 = .ok (.goto 9, 3) := by decide +kernel
theorem dX8_best_35 : decode cX8_best 35 = .ok (.aload_n 0, 1) := by decide +kernel
theorem dX8_best_36 : decode cX8_best 36 = .ok (.ldc 41, 2) := by decide +kernel
theorem dX8_best_38 : decode cX8_best 38 = .ok (.invokevirtual 43, 3) := by decide +kernel
theorem dX8_best_41 : decode cX8_best 41 = .ok (.ireturn, 1) := by decide +kernel
theorem dX8_feed_0 : decode cX8_feed 0 = .ok (.iload_n 2, 1) := by decide +kernel
theorem dX8_feed_1 : decode cX8_feed 1 = .ok (.i2l, 1) := by decide +kernel
theorem dX8_feed_2 : decode cX8_feed 2 = .ok (.iconst 1, 1) := by decide +kernel
theorem dX8_feed_3 : decode cX8_feed 3 = .ok (.iconst 4, 1) := by decide +kernel
theorem dX8_feed_4 : decode cX8_feed 4 = .ok (.invokestatic 47, 3) := by decide +kernel
theorem dX8_feed_7 : decode cX8_feed 7 = .ok (.ifCond .ne 10, 3) := by decide +kernel
theorem dX8_feed_10 : decode cX8_feed 10 = .ok (.aload_n 0, 1) := by decide +kernel
theorem dX8_feed_11 : decode cX8_feed 11 = .ok (.ldc 41, 2) := by decide +kernel
theorem dX8_feed_13 : decode cX8_feed 13 = .ok (.invokevirtual 43, 3) := by decide +kernel
theorem dX8_feed_16 : decode cX8_feed 16 = .ok (.ireturn, 1) := by decide +kernel
theorem dX8_feed_17 : decode cX8_feed 17 = .ok (.aload_n 0, 1) := by decide +kernel
theorem dX8_feed_18 : decode cX8_feed 18 = .ok (.getfield 145, 3) := by decide +kernel
theorem dX8_feed_21 : decode cX8_feed 21 = .ok (.iload_n 2, 1) := by decide +kernel
theorem dX8_feed_22 : decode cX8_feed 22 = .ok (.iadd, 1) := by decide +kernel
theorem dX8_feed_23 : decode cX8_feed 23 = .ok (.bipush 120, 2) := by decide +kernel
theorem dX8_feed_25 : decode cX8_feed 25 = .ok (.if_icmp .le 10, 3) := by decide +kernel
theorem dX8_feed_28 : decode cX8_feed 28 = .ok (.aload_n 0, 1) := by decide +kernel
theorem dX8_feed_29 : decode cX8_feed 29 = .ok (.ldc 93, 2) := by decide +kernel
theorem dX8_feed_31 : decode cX8_feed 31 = .ok (.invokevirtual 43, 3) := by decide +kernel
theorem dX8_feed_34 : decode cX8_feed 34 = .ok (.ireturn, 1) := by decide +kernel
theorem dX8_feed_35 : decode cX8_feed 35 = .ok (.iload_n 2, 1) := by decide +kernel
theorem dX8_feed_36 : decode cX8_feed 36 = .ok (.iconst 1, 1) := by decide +kernel
theorem dX8_feed_37 : decode cX8_feed 37 = .ok (.isub, 1) := by decide +kernel
theorem dX8_feed_38 : decode cX8_feed 38 = .ok (.istore_n 3, 1) := by decide +kernel
theorem dX8_feed_39 : decode cX8_feed 39 = .ok (.iload_n 3, 1) := by decide +kernel
theorem dX8_feed_40 : decode cX8_feed 40 = .ok (.ifCond .lt 38, 3) := by decide +kernel
theorem dX8_feed_43 : decode cX8_feed 43 = .ok (.aload_n 0, 1) := by decide +kernel
theorem dX8_feed_44 : decode cX8_feed 44 = .ok (.getfield 28, 3) := by decide +kernel
theorem dX8_feed_47 : decode cX8_feed 47 = .ok (.aload_n 0, 1) := by decide +kernel
theorem dX8_feed_48 : decode cX8_feed 48 = .ok (.getfield 145, 3) := by decide +kernel
theorem dX8_feed_51 : decode cX8_feed 51 = .ok (.iload_n 1, 1) := by decide +kernel
theorem dX8_feed_52 : decode cX8_feed 52 = .ok (.bipush 8, 2) := by decide +kernel
theorem dX8_feed_54 : decode cX8_feed 54 = .ok (.iload_n 3, 1) := by decide +kernel
theorem dX8_feed_55 : decode cX8_feed 55 = .ok (.imul, 1) := by decide +kernel
theorem dX8_feed_56 : decode cX8_feed 56 = .ok (.ishr, 1) := by decide +kernel
theorem dX8_feed_57 : decode cX8_feed 57 = .ok (.sipush 255, 3) := by decide +kernel
theorem dX8_feed_60 : decode cX8_feed 60 = .ok (.iand, 1) := by decide +kernel
theorem dX8_feed_61 : decode cX8_feed 61 = .ok (.iastore, 1) := by decide +kernel
theorem dX8_feed_62 : decode cX8_feed 62 = .ok (.aload_n 0, 1) := by decide +kernel
theorem dX8_feed_63 : decode cX8_feed 63 = .ok (.dup, 1) := by decide +kernel
theorem dX8_feed_64 : decode cX8_feed 64 = .ok (.getfield 145, 3) := by decide +kernel
theorem dX8_feed_67 : decode cX8_feed 67 = .ok (.iconst 1, 1) := by decide +kernel
theorem dX8_feed_68 : decode cX8_feed 68 = .ok (.iadd, 1) := by decide +kernel
theorem dX8_feed_69 : decode cX8_feed 69 = .ok (.putfield 145, 3) := by decide +kernel
theorem dX8_feed_72 : decode cX8_feed 72 = .ok (.iinc 3 (-1), 3) := by decide +kernel
theorem dX8_feed_75 : decode cX8_feed 75 = .ok (.goto (-36), 3) := by decide +kernel
theorem dX8_feed_78 : decode cX8_feed 78 = .ok (.aload_n 0, 1) := by decide +kernel
theorem dX8_feed_79 : decode cX8_feed 79 = .ok (.getfield 145, 3) := by decide +kernel
theorem dX8_feed_82 : decode cX8_feed 82 = .ok (.ireturn, 1) := by decide +kernel
theorem dX8_wipe_0 : decode cX8_wipe 0 = .ok (.aload_n 0, 1) := by decide +kernel
theorem dX8_wipe_1 : decode cX8_wipe 1 = .ok (.getfield 145, 3) := by decide +kernel
theorem dX8_wipe_4 : decode cX8_wipe 4 = .ok (.istore_n 1, 1) := by decide +kernel
theorem dX8_wipe_5 : decode cX8_wipe 5 = .ok (.aload_n 0, 1) := by decide +kernel
theorem dX8_wipe_6 : decode cX8_wipe 6 = .ok (.iconst 0, 1) := by decide +kernel
theorem dX8_wipe_7 : decode cX8_wipe 7 = .ok (.putfield 145, 3) := by decide +kernel
theorem dX8_wipe_10 : decode cX8_wipe 10 = .ok (.iload_n 1, 1) := by decide +kernel
theorem dX8_wipe_11 : decode cX8_wipe 11 = .ok (.ireturn, 1) := by decide +kernel
theorem dX8_isByte_0 : decode cX8_isByte 0 = .ok (.iload_n 1, 1) := by decide +kernel
theorem dX8_isByte_1 : decode cX8_isByte 1 = .ok (.aload_n 0, 1) := by decide +kernel
theorem dX8_isByte_2 : decode cX8_isByte 2 = .ok (.getfield 145, 3) := by decide +kernel
theorem dX8_isByte_5 : decode cX8_isByte 5 = .ok (.if_icmp .ge 22, 3) := by decide +kernel
theorem dX8_isByte_8 : decode cX8_isByte 8 = .ok (.aload_n 0, 1) := by decide +kernel
theorem dX8_isByte_9 : decode cX8_isByte 9 = .ok (.getfield 28, 3) := by decide +kernel
theorem dX8_isByte_12 : decode cX8_isByte 12 = .ok (.iload_n 1, 1) := by decide +kernel
theorem dX8_isByte_13 : decode cX8_isByte 13 = .ok (.iaload, 1) := by decide +kernel
theorem dX8_isByte_14 : decode cX8_isByte 14 = .ok (.i2l, 1) := by decide +kernel
theorem dX8_isByte_15 : decode cX8_isByte 15 = .ok (.iload_n 2, 1) := by decide +kernel
theorem dX8_isByte_16 : decode cX8_isByte 16 = .ok (.iload_n 3, 1) := by decide +kernel
theorem dX8_isByte_17 : decode cX8_isByte 17 = .ok (.invokestatic 47, 3) := by decide +kernel
theorem dX8_isByte_20 : decode cX8_isByte 20 = .ok (.ifCond .eq 7, 3) := by decide +kernel
theorem dX8_isByte_23 : decode cX8_isByte 23 = .ok (.iconst 1, 1) := by decide +kernel
theorem dX8_isByte_24 : decode cX8_isByte 24 = .ok (.goto 4, 3) := by decide +kernel
theorem dX8_isByte_27 : decode cX8_isByte 27 = .ok (.iconst 0, 1) := by decide +kernel
theorem dX8_isByte_28 : decode cX8_isByte 28 = .ok (.ireturn, 1) := by decide +kernel
theorem dX8_isName_0 : decode cX8_isName 0 = .ok (.iload_n 2, 1) := by decide +kernel
theorem dX8_isName_1 : decode cX8_isName 1 = .ok (.bipush 7, 2) := by decide +kernel
theorem dX8_isName_3 : decode cX8_isName 3 = .ok (.if_icmp .gt 26, 3) := by decide +kernel
theorem dX8_isName_6 : decode cX8_isName 6 = .ok (.iload_n 2, 1) := by decide +kernel
theorem dX8_isName_7 : decode cX8_isName 7 = .ok (.bipush 7, 2) := by decide +kernel
theorem dX8_isName_9 : decode cX8_isName 9 = .ok (.if_icmp .eq 16, 3) := by decide +kernel
theorem dX8_isName_12 : decode cX8_isName 12 = .ok (.getstatic 149, 3) := by decide +kernel
theorem dX8_isName_15 : decode cX8_isName 15 = .ok (.bipush 7, 2) := by decide +kernel
theorem dX8_isName_17 : decode cX8_isName 17 = .ok (.iload_n 1, 1) := by decide +kernel
theorem dX8_isName_18 : decode cX8_isName 18 = .ok (.imul, 1) := by decide +kernel
theorem dX8_isName_19 : decode cX8_isName 19 = .ok (.iload_n 2, 1) := by decide +kernel
theorem dX8_isName_20 : decode cX8_isName 20 = .ok (.iadd, 1) := by decide +kernel
theorem dX8_isName_21 : decode cX8_isName 21 = .ok (.iaload, 1) := by decide +kernel
theorem dX8_isName_22 : decode cX8_isName 22 = .ok (.ifCond .ne 7, 3) := by decide +kernel
theorem dX8_isName_25 : decode cX8_isName 25 = .ok (.iconst 1, 1) := by decide +kernel
theorem dX8_isName_26 : decode cX8_isName 26 = .ok (.goto 4, 3) := by decide +kernel
theorem dX8_isName_29 : decode cX8_isName 29 = .ok (.iconst 0, 1) := by decide +kernel
theorem dX8_isName_30 : decode cX8_isName 30 = .ok (.istore_n 3, 1) := by decide +kernel
theorem dX8_isName_31 : decode cX8_isName 31 = .ok (.iconst 0, 1) := by decide +kernel
theorem dX8_isName_32 : decode cX8_isName 32 = .ok (.istore 4, 2) := by decide +kernel
theorem dX8_isName_34 : decode cX8_isName 34 = .ok (.iload 4, 2) := by decide +kernel
theorem dX8_isName_36 : decode cX8_isName 36 = .ok (.iload_n 2, 1) := by decide +kernel
theorem dX8_isName_37 : decode cX8_isName 37 = .ok (.if_icmp .ge 45, 3) := by decide +kernel
theorem dX8_isName_40 : decode cX8_isName 40 = .ok (.iload_n 3, 1) := by decide +kernel
theorem dX8_isName_41 : decode cX8_isName 41 = .ok (.ifCond .eq 41, 3) := by decide +kernel
theorem dX8_isName_44 : decode cX8_isName 44 = .ok (.getstatic 149, 3) := by decide +kernel
theorem dX8_isName_47 : decode cX8_isName 47 = .ok (.bipush 7, 2) := by decide +kernel
theorem dX8_isName_49 : decode cX8_isName 49 = .ok (.iload_n 1, 1) := by decide +kernel
theorem dX8_isName_50 : decode cX8_isName 50 = .ok (.imul, 1) := by decide +kernel
theorem dX8_isName_51 : decode cX8_isName 51 = .ok (.iload 4, 2) := by decide +kernel
theorem dX8_isName_53 : decode cX8_isName 53 = .ok (.iadd, 1) := by decide +kernel
theorem dX8_isName_54 : decode cX8_isName 54 = .ok (.iaload, 1) := by decide +kernel
theorem dX8_isName_55 : decode cX8_isName 55 = .ok (.aload_n 0, 1) := by decide +kernel
theorem dX8_isName_56 : decode cX8_isName 56 = .ok (.getfield 28, 3) := by decide +kernel
theorem dX8_isName_59 : decode cX8_isName 59 = .ok (.aload_n 0, 1) := by decide +kernel
theorem dX8_isName_60 : decode cX8_isName 60 = .ok (.getfield 152, 3) := by decide +kernel
theorem dX8_isName_63 : decode cX8_isName 63 = .ok (.iload 4, 2) := by decide +kernel
theorem dX8_isName_65 : decode cX8_isName 65 = .ok (.iadd, 1) := by decide +kernel
theorem dX8_isName_66 : decode cX8_isName 66 = .ok (.iaload, 1) := by decide +kernel
theorem dX8_isName_67 : decode cX8_isName 67 = .ok (.if_icmp .ne 7, 3) := by decide +kernel
theorem dX8_isName_70 : decode cX8_isName 70 = .ok (.iconst 1, 1) := by decide +kernel
theorem dX8_isName_71 : decode cX8_isName 71 = .ok (.goto 4, 3) := by decide +kernel
theorem dX8_isName_74 : decode cX8_isName 74 = .ok (.iconst 0, 1) := by decide +kernel
theorem dX8_isName_75 : decode cX8_isName 75 = .ok (.istore_n 3, 1) := by decide +kernel
theorem dX8_isName_76 : decode cX8_isName 76 = .ok (.iinc 4 1, 3) := by decide +kernel
theorem dX8_isName_79 : decode cX8_isName 79 = .ok (.goto (-45), 3) := by decide +kernel
theorem dX8_isName_82 : decode cX8_isName 82 = .ok (.iload_n 3, 1) := by decide +kernel
theorem dX8_isName_83 : decode cX8_isName 83 = .ok (.ireturn, 1) := by decide +kernel
theorem dX8_wordHere_0 : decode cX8_wordHere 0 = .ok (.iconst 0, 1) := by decide +kernel
theorem dX8_wordHere_1 : decode cX8_wordHere 1 = .ok (.istore_n 1, 1) := by decide +kernel
theorem dX8_wordHere_2 : decode cX8_wordHere 2 = .ok (.iload_n 1, 1) := by decide +kernel
theorem dX8_wordHere_3 : decode cX8_wordHere 3 = .ok (.bipush 12, 2) := by decide +kernel
theorem dX8_wordHere_5 : decode cX8_wordHere 5 = .ok (.if_icmp .ge 26, 3) := by decide +kernel
theorem dX8_wordHere_8 : decode cX8_wordHere 8 = .ok (.aload_n 0, 1) := by decide +kernel
theorem dX8_wordHere_9 : decode cX8_wordHere 9 = .ok (.iload_n 1, 1) := by decide +kernel
theorem dX8_wordHere_10 : decode cX8_wordHere 10 = .ok (.aload_n 0, 1) := by decide +kernel
theorem dX8_wordHere_11 : decode cX8_wordHere 11 = .ok (.getfield 155, 3) := by decide +kernel
theorem dX8_wordHere_14 : decode cX8_wordHere 14 = .ok (.aload_n 0, 1) := by decide +kernel
theorem dX8_wordHere_15 : decode cX8_wordHere 15 = .ok (.getfield 152, 3) := by decide +kernel
theorem dX8_wordHere_18 : decode cX8_wordHere 18 = .ok (.isub, 1) := by decide +kernel
theorem dX8_wordHere_19 : decode cX8_wordHere 19 = .ok (.invokevirtual 158, 3) := by decide +kernel
theorem dX8_wordHere_22 : decode cX8_wordHere 22 = .ok (.ifCond .ne 9, 3) := by decide +kernel
theorem dX8_wordHere_25 : decode cX8_wordHere 25 = .ok (.iinc 1 1, 3) := by decide +kernel
theorem dX8_wordHere_28 : decode cX8_wordHere 28 = .ok (.goto (-26), 3) := by decide +kernel
theorem dX8_wordHere_31 : decode cX8_wordHere 31 = .ok (.iload_n 1, 1) := by decide +kernel
theorem dX8_wordHere_32 : decode cX8_wordHere 32 = .ok (.bipush 12, 2) := by decide +kernel
theorem dX8_wordHere_34 : decode cX8_wordHere 34 = .ok (.if_icmp .ge 7, 3) := by decide +kernel
theorem dX8_wordHere_37 : decode cX8_wordHere 37 = .ok (.iload_n 1, 1) := by decide +kernel
theorem dX8_wordHere_38 : decode cX8_wordHere 38 = .ok (.goto 5, 3) := by decide +kernel
theorem dX8_wordHere_41 : decode cX8_wordHere 41 = .ok (.bipush 23, 2) := by decide +kernel
theorem dX8_wordHere_43 : decode cX8_wordHere 43 = .ok (.ireturn, 1) := by decide +kernel
theorem dX8_reads_0 : decode cX8_reads 0 = .ok (.aload_n 0, 1) := by decide +kernel
theorem dX8_reads_1 : decode cX8_reads 1 = .ok (.aload_n 0, 1) := by decide +kernel
theorem dX8_reads_2 : decode cX8_reads 2 = .ok (.getfield 155, 3) := by decide +kernel
theorem dX8_reads_5 : decode cX8_reads 5 = .ok (.bipush 32, 2) := by decide +kernel
theorem dX8_reads_7 : decode cX8_reads 7 = .ok (.bipush 32, 2) := by decide +kernel
theorem dX8_reads_9 : decode cX8_reads 9 = .ok (.invokevirtual 161, 3) := by decide +kernel
theorem dX8_reads_12 : decode cX8_reads 12 = .ok (.ifCond .eq 16, 3) := by decide +kernel
theorem dX8_reads_15 : decode cX8_reads 15 = .ok (.aload_n 0, 1) := by decide +kernel
theorem dX8_reads_16 : decode cX8_reads 16 = .ok (.dup, 1) := by decide +kernel
theorem dX8_reads_17 : decode cX8_reads 17 = .ok (.getfield 155, 3) := by decide +kernel
theorem dX8_reads_20 : decode cX8_reads 20 = .ok (.iconst 1, 1) := by decide +kernel
theorem dX8_reads_21 : decode cX8_reads 21 = .ok (.iadd, 1) := by decide +kernel
theorem dX8_reads_22 : decode cX8_reads 22 = .ok (.putfield 155, 3) := by decide +kernel
theorem dX8_reads_25 : decode cX8_reads 25 = .ok (.goto (-25), 3) := by decide +kernel
theorem dX8_reads_28 : decode cX8_reads 28 = .ok (.aload_n 0, 1) := by decide +kernel
theorem dX8_reads_29 : decode cX8_reads 29 = .ok (.aload_n 0, 1) := by decide +kernel
theorem dX8_reads_30 : decode cX8_reads 30 = .ok (.getfield 155, 3) := by decide +kernel
theorem dX8_reads_33 : decode cX8_reads 33 = .ok (.putfield 152, 3) := by decide +kernel
theorem dX8_reads_36 : decode cX8_reads 36 = .ok (.aload_n 0, 1) := by decide +kernel
theorem dX8_reads_37 : decode cX8_reads 37 = .ok (.iconst 0, 1) := by decide +kernel
theorem dX8_reads_38 : decode cX8_reads 38 = .ok (.putfield 165, 3) := by decide +kernel
theorem dX8_reads_41 : decode cX8_reads 41 = .ok (.aload_n 0, 1) := by decide +kernel
theorem dX8_reads_42 : decode cX8_reads 42 = .ok (.getfield 155, 3) := by decide +kernel
theorem dX8_reads_45 : decode cX8_reads 45 = .ok (.aload_n 0, 1) := by decide +kernel
theorem dX8_reads_46 : decode cX8_reads 46 = .ok (.getfield 145, 3) := by decide +kernel
theorem dX8_reads_49 : decode cX8_reads 49 = .ok (.if_icmp .ne 12, 3) := by decide +kernel
theorem dX8_reads_52 : decode cX8_reads 52 = .ok (.aload_n 0, 1) := by decide +kernel
theorem dX8_reads_53 : decode cX8_reads 53 = .ok (.bipush 22, 2) := by decide +kernel
theorem dX8_reads_55 : decode cX8_reads 55 = .ok (.putfield 168, 3) := by decide +kernel
theorem dX8_reads_58 : decode cX8_reads 58 = .ok (.goto 186, 3) := by decide +kernel
theorem dX8_reads_61 : decode cX8_reads 61 = .ok (.aload_n 0, 1) := by decide +kernel
theorem dX8_reads_62 : decode cX8_reads 62 = .ok (.aload_n 0, 1) := by decide +kernel
theorem dX8_reads_63 : decode cX8_reads 63 = .ok (.getfield 155, 3) := by decide +kernel
theorem dX8_reads_66 : decode cX8_reads 66 = .ok (.bipush 97, 2) := by decide +kernel
theorem dX8_reads_68 : decode cX8_reads 68 = .ok (.bipush 122, 2) := by decide +kernel
theorem dX8_reads_70 : decode cX8_reads 70 = .ok (.invokevirtual 161, 3) := by decide +kernel
theorem dX8_reads_73 : decode cX8_reads 73 = .ok (.ifCond .eq 42, 3) := by decide +kernel
theorem dX8_reads_76 : decode cX8_reads 76 = .ok (.aload_n 0, 1) := by decide +kernel
theorem dX8_reads_77 : decode cX8_reads 77 = .ok (.aload_n 0, 1) := by decide +kernel
theorem dX8_reads_78 : decode cX8_reads 78 = .ok (.getfield 155, 3) := by decide +kernel
theorem dX8_reads_81 : decode cX8_reads 81 = .ok (.bipush 97, 2) := by decide +kernel
theorem dX8_reads_83 : decode cX8_reads 83 = .ok (.bipush 122, 2) := by decide +kernel
theorem dX8_reads_85 : decode cX8_reads 85 = .ok (.invokevirtual 161, 3) := by decide +kernel
theorem dX8_reads_88 : decode cX8_reads 88 = .ok (.ifCond .eq 16, 3) := by decide +kernel
theorem dX8_reads_91 : decode cX8_reads 91 = .ok (.aload_n 0, 1) := by decide +kernel
theorem dX8_reads_92 : decode cX8_reads 92 = .ok (.dup, 1) := by decide +kernel
theorem dX8_reads_93 : decode cX8_reads 93 = .ok (.getfield 155, 3) := by decide +kernel
theorem dX8_reads_96 : decode cX8_reads 96 = .ok (.iconst 1, 1) := by decide +kernel
theorem dX8_reads_97 : decode cX8_reads 97 = .ok (.iadd, 1) := by decide +kernel
theorem dX8_reads_98 : decode cX8_reads 98 = .ok (.putfield 155, 3) := by decide +kernel
theorem dX8_reads_101 : decode cX8_reads 101 = .ok (.goto (-25), 3) := by decide +kernel
theorem dX8_reads_104 : decode cX8_reads 104 = .ok (.aload_n 0, 1) := by decide +kernel
theorem dX8_reads_105 : decode cX8_reads 105 = .ok (.aload_n 0, 1) := by decide +kernel
theorem dX8_reads_106 : decode cX8_reads 106 = .ok (.invokevirtual 171, 3) := by decide +kernel
theorem dX8_reads_109 : decode cX8_reads 109 = .ok (.putfield 168, 3) := by decide +kernel
theorem dX8_reads_112 : decode cX8_reads 112 = .ok (.goto 132, 3) := by decide +kernel
theorem dX8_reads_115 : decode cX8_reads 115 = .ok (.aload_n 0, 1) := by decide +kernel
theorem dX8_reads_116 : decode cX8_reads 116 = .ok (.aload_n 0, 1) := by decide +kernel
theorem dX8_reads_117 : decode cX8_reads 117 = .ok (.getfield 155, 3) := by decide +kernel
theorem dX8_reads_120 : decode cX8_reads 120 = .ok (.bipush 48, 2) := by decide +kernel
theorem dX8_reads_122 : decode cX8_reads 122 = .ok (.bipush 57, 2) := by decide +kernel
theorem dX8_reads_124 : decode cX8_reads 124 = .ok (.invokevirtual 161, 3) := by decide +kernel
theorem dX8_reads_127 : decode cX8_reads 127 = .ok (.ifCond .eq 81, 3) := by decide +kernel
theorem dX8_reads_130 : decode cX8_reads 130 = .ok (.aload_n 0, 1) := by decide +kernel
theorem dX8_reads_131 : decode cX8_reads 131 = .ok (.aload_n 0, 1) := by decide +kernel
theorem dX8_reads_132 : decode cX8_reads 132 = .ok (.getfield 155, 3) := by decide +kernel
theorem dX8_reads_135 : decode cX8_reads 135 = .ok (.bipush 48, 2) := by decide +kernel
theorem dX8_reads_137 : decode cX8_reads 137 = .ok (.bipush 57, 2) := by decide +kernel
theorem dX8_reads_139 : decode cX8_reads 139 = .ok (.invokevirtual 161, 3) := by decide +kernel
theorem dX8_reads_142 : decode cX8_reads 142 = .ok (.ifCond .eq 57, 3) := by decide +kernel
theorem dX8_reads_145 : decode cX8_reads 145 = .ok (.aload_n 0, 1) := by decide +kernel
theorem dX8_reads_146 : decode cX8_reads 146 = .ok (.aload_n 0, 1) := by decide +kernel
theorem dX8_reads_147 : decode cX8_reads 147 = .ok (.getfield 165, 3) := by decide +kernel
theorem dX8_reads_150 : decode cX8_reads 150 = .ok (.sipush 999, 3) := by decide +kernel
theorem dX8_reads_153 : decode cX8_reads 153 = .ok (.if_icmp .le 10, 3) := by decide +kernel
theorem dX8_reads_156 : decode cX8_reads 156 = .ok (.aload_n 0, 1) := by decide +kernel
theorem dX8_reads_157 : decode cX8_reads 157 = .ok (.getfield 165, 3) := by decide +kernel
theorem dX8_reads_160 : decode cX8_reads 160 = .ok (.goto 23, 3) := by decide +kernel
theorem dX8_reads_163 : decode cX8_reads 163 = .ok (.bipush 10, 2) := by decide +kernel
theorem dX8_reads_165 : decode cX8_reads 165 = .ok (.aload_n 0, 1) := by decide +kernel
theorem dX8_reads_166 : decode cX8_reads 166 = .ok (.getfield 165, 3) := by decide +kernel
theorem dX8_reads_169 : decode cX8_reads 169 = .ok (.imul, 1) := by decide +kernel
theorem dX8_reads_170 : decode cX8_reads 170 = .ok (.aload_n 0, 1) := by decide +kernel
theorem dX8_reads_171 : decode cX8_reads 171 = .ok (.getfield 28, 3) := by decide +kernel
theorem dX8_reads_174 : decode cX8_reads 174 = .ok (.aload_n 0, 1) := by decide +kernel
theorem dX8_reads_175 : decode cX8_reads 175 = .ok (.getfield 155, 3) := by decide +kernel
theorem dX8_reads_178 : decode cX8_reads 178 = .ok (.iaload, 1) := by decide +kernel
theorem dX8_reads_179 : decode cX8_reads 179 = .ok (.iadd, 1) := by decide +kernel
theorem dX8_reads_180 : decode cX8_reads 180 = .ok (.bipush 48, 2) := by decide +kernel
theorem dX8_reads_182 : decode cX8_reads 182 = .ok (.isub, 1) := by decide +kernel
theorem dX8_reads_183 : decode cX8_reads 183 = .ok (.putfield 165, 3) := by decide +kernel
theorem dX8_reads_186 : decode cX8_reads 186 = .ok (.aload_n 0, 1) := by decide +kernel
theorem dX8_reads_187 : decode cX8_reads 187 = .ok (.dup, 1) := by decide +kernel
theorem dX8_reads_188 : decode cX8_reads 188 = .ok (.getfield 155, 3) := by decide +kernel
theorem dX8_reads_191 : decode cX8_reads 191 = .ok (.iconst 1, 1) := by decide +kernel
theorem dX8_reads_192 : decode cX8_reads 192 = .ok (.iadd, 1) := by decide +kernel
theorem dX8_reads_193 : decode cX8_reads 193 = .ok (.putfield 155, 3) := by decide +kernel
theorem dX8_reads_196 : decode cX8_reads 196 = .ok (.goto (-66), 3) := by decide +kernel
theorem dX8_reads_199 : decode cX8_reads 199 = .ok (.aload_n 0, 1) := by decide +kernel
theorem dX8_reads_200 : decode cX8_reads 200 = .ok (.bipush 20, 2) := by decide +kernel
theorem dX8_reads_202 : decode cX8_reads 202 = .ok (.putfield 168, 3) := by decide +kernel
theorem dX8_reads_205 : decode cX8_reads 205 = .ok (.goto 39, 3) := by decide +kernel
theorem dX8_reads_208 : decode cX8_reads 208 = .ok (.aload_n 0, 1) := by decide +kernel
theorem dX8_reads_209 : decode cX8_reads 209 = .ok (.aload_n 0, 1) := by decide +kernel
theorem dX8_reads_210 : decode cX8_reads 210 = .ok (.aload_n 0, 1) := by decide +kernel
theorem dX8_reads_211 : decode cX8_reads 211 = .ok (.getfield 155, 3) := by decide +kernel
theorem dX8_reads_214 : decode cX8_reads 214 = .ok (.bipush 59, 2) := by decide +kernel
theorem dX8_reads_216 : decode cX8_reads 216 = .ok (.bipush 59, 2) := by decide +kernel
theorem dX8_reads_218 : decode cX8_reads 218 = .ok (.invokevirtual 161, 3) := by decide +kernel
theorem dX8_reads_221 : decode cX8_reads 221 = .ok (.ifCond .eq 8, 3) := by decide +kernel
theorem dX8_reads_224 : decode cX8_reads 224 = .ok (.bipush 21, 2) := by decide +kernel
theorem dX8_reads_226 : decode cX8_reads 226 = .ok (.goto 5, 3) := by decide +kernel
theorem dX8_reads_229 : decode cX8_reads 229 = .ok (.bipush 23, 2) := by decide +kernel
theorem dX8_reads_231 : decode cX8_reads 231 = .ok (.putfield 168, 3) := by decide +kernel
theorem dX8_reads_234 : decode cX8_reads 234 = .ok (.aload_n 0, 1) := by decide +kernel
theorem dX8_reads_235 : decode cX8_reads 235 = .ok (.dup, 1) := by decide +kernel
theorem dX8_reads_236 : decode cX8_reads 236 = .ok (.getfield 155, 3) := by decide +kernel
theorem dX8_reads_239 : decode cX8_reads 239 = .ok (.iconst 1, 1) := by decide +kernel
theorem dX8_reads_240 : decode cX8_reads 240 = .ok (.iadd, 1) := by decide +kernel
theorem dX8_reads_241 : decode cX8_reads 241 = .ok (.putfield 155, 3) := by decide +kernel
theorem dX8_reads_244 : decode cX8_reads 244 = .ok (.return_, 1) := by decide +kernel
theorem dX8_passes_0 : decode cX8_passes 0 = .ok (.aload_n 0, 1) := by decide +kernel
theorem dX8_passes_1 : decode cX8_passes 1 = .ok (.getfield 174, 3) := by decide +kernel
theorem dX8_passes_4 : decode cX8_passes 4 = .ok (.ifCond .ne 11, 3) := by decide +kernel
theorem dX8_passes_7 : decode cX8_passes 7 = .ok (.aload_n 0, 1) := by decide +kernel
theorem dX8_passes_8 : decode cX8_passes 8 = .ok (.getfield 168, 3) := by decide +kernel
theorem dX8_passes_11 : decode cX8_passes 11 = .ok (.iload_n 1, 1) := by decide +kernel
theorem dX8_passes_12 : decode cX8_passes 12 = .ok (.if_icmp .eq 5, 3) := by decide +kernel
theorem dX8_passes_15 : decode cX8_passes 15 = .ok (.iconst 0, 1) := by decide +kernel
theorem dX8_passes_16 : decode cX8_passes 16 = .ok (.ireturn, 1) := by decide +kernel
theorem dX8_passes_17 : decode cX8_passes 17 = .ok (.aload_n 0, 1) := by decide +kernel
theorem dX8_passes_18 : decode cX8_passes 18 = .ok (.invokevirtual 178, 3) := by decide +kernel
theorem dX8_passes_21 : decode cX8_passes 21 = .ok (.iconst 1, 1) := by decide +kernel
theorem dX8_passes_22 : decode cX8_passes 22 = .ok (.ireturn, 1) := by decide +kernel
theorem dX8_number_0 : decode cX8_number 0 = .ok (.aload_n 0, 1) := by decide +kernel
theorem dX8_number_1 : decode cX8_number 1 = .ok (.getfield 165, 3) := by decide +kernel
theorem dX8_number_4 : decode cX8_number 4 = .ok (.istore_n 3, 1) := by decide +kernel
theorem dX8_number_5 : decode cX8_number 5 = .ok (.aload_n 0, 1) := by decide +kernel
theorem dX8_number_6 : decode cX8_number 6 = .ok (.aload_n 0, 1) := by decide +kernel
theorem dX8_number_7 : decode cX8_number 7 = .ok (.getfield 174, 3) := by decide +kernel
theorem dX8_number_10 : decode cX8_number 10 = .ok (.ifCond .ne 22, 3) := by decide +kernel
theorem dX8_number_13 : decode cX8_number 13 = .ok (.aload_n 0, 1) := by decide +kernel
theorem dX8_number_14 : decode cX8_number 14 = .ok (.getfield 168, 3) := by decide +kernel
theorem dX8_number_17 : decode cX8_number 17 = .ok (.bipush 20, 2) := by decide +kernel
theorem dX8_number_19 : decode cX8_number 19 = .ok (.if_icmp .ne 13, 3) := by decide +kernel
theorem dX8_number_22 : decode cX8_number 22 = .ok (.iload_n 3, 1) := by decide +kernel
theorem dX8_number_23 : decode cX8_number 23 = .ok (.i2l, 1) := by decide +kernel
theorem dX8_number_24 : decode cX8_number 24 = .ok (.iload_n 1, 1) := by decide +kernel
theorem dX8_number_25 : decode cX8_number 25 = .ok (.iload_n 2, 1) := by decide +kernel
theorem dX8_number_26 : decode cX8_number 26 = .ok (.invokestatic 47, 3) := by decide +kernel
theorem dX8_number_29 : decode cX8_number 29 = .ok (.ifCond .ne 7, 3) := by decide +kernel
theorem dX8_number_32 : decode cX8_number 32 = .ok (.iconst 1, 1) := by decide +kernel
theorem dX8_number_33 : decode cX8_number 33 = .ok (.goto 4, 3) := by decide +kernel
theorem dX8_number_36 : decode cX8_number 36 = .ok (.iconst 0, 1) := by decide +kernel
theorem dX8_number_37 : decode cX8_number 37 = .ok (.putfield 174, 3) := by decide +kernel
theorem dX8_number_40 : decode cX8_number 40 = .ok (.aload_n 0, 1) := by decide +kernel
theorem dX8_number_41 : decode cX8_number 41 = .ok (.getfield 174, 3) := by decide +kernel
theorem dX8_number_44 : decode cX8_number 44 = .ok (.ifCond .ne 7, 3) := by decide +kernel
theorem dX8_number_47 : decode cX8_number 47 = .ok (.aload_n 0, 1) := by decide +kernel
theorem dX8_number_48 : decode cX8_number 48 = .ok (.invokevirtual 178, 3) := by decide +kernel
theorem dX8_number_51 : decode cX8_number 51 = .ok (.iload_n 3, 1) := by decide +kernel
theorem dX8_number_52 : decode cX8_number 52 = .ok (.ireturn, 1) := by decide +kernel
theorem dX8_perhaps_0 : decode cX8_perhaps 0 = .ok (.aload_n 0, 1) := by decide +kernel
theorem dX8_perhaps_1 : decode cX8_perhaps 1 = .ok (.iload_n 1, 1) := by decide +kernel
theorem dX8_perhaps_2 : decode cX8_perhaps 2 = .ok (.invokevirtual 181, 3) := by decide +kernel
theorem dX8_perhaps_5 : decode cX8_perhaps 5 = .ok (.ifCond .eq 12, 3) := by decide +kernel
theorem dX8_perhaps_8 : decode cX8_perhaps 8 = .ok (.aload_n 0, 1) := by decide +kernel
theorem dX8_perhaps_9 : decode cX8_perhaps 9 = .ok (.iload_n 2, 1) := by decide +kernel
theorem dX8_perhaps_10 : decode cX8_perhaps 10 = .ok (.iload_n 3, 1) := by decide +kernel
theorem dX8_perhaps_11 : decode cX8_perhaps 11 = .ok (.invokevirtual 184, 3) := by decide +kernel
theorem dX8_perhaps_14 : decode cX8_perhaps 14 = .ok (.goto 5, 3) := by decide +kernel
theorem dX8_perhaps_17 : decode cX8_perhaps 17 = .ok (.iload 4, 2) := by decide +kernel
theorem dX8_perhaps_19 : decode cX8_perhaps 19 = .ok (.ireturn, 1) := by decide +kernel
theorem dX8_thingItem_0 : decode cX8_thingItem 0 = .ok (.aload_n 0, 1) := by decide +kernel
theorem dX8_thingItem_1 : decode cX8_thingItem 1 = .ok (.getfield 168, 3) := by decide +kernel
theorem dX8_thingItem_4 : decode cX8_thingItem 4 = .ok (.istore_n 1, 1) := by decide +kernel
theorem dX8_thingItem_5 : decode cX8_thingItem 5 = .ok (.aload_n 0, 1) := by decide +kernel
theorem dX8_thingItem_6 : decode cX8_thingItem 6 = .ok (.aload_n 0, 1) := by decide +kernel
theorem dX8_thingItem_7 : decode cX8_thingItem 7 = .ok (.getfield 9, 3) := by decide +kernel
theorem dX8_thingItem_10 : decode cX8_thingItem 10 = .ok (.iconst 3, 1) := by decide +kernel
theorem dX8_thingItem_11 : decode cX8_thingItem 11 = .ok (.iaload, 1) := by decide +kernel
theorem dX8_thingItem_12 : decode cX8_thingItem 12 = .ok (.bipush 8, 2) := by decide +kernel
theorem dX8_thingItem_14 : decode cX8_thingItem 14 = .ok (.if_icmp .ne 7, 3) := by decide +kernel
theorem dX8_thingItem_17 : decode cX8_thingItem 17 = .ok (.iconst 1, 1) := by decide +kernel
theorem dX8_thingItem_18 : decode cX8_thingItem 18 = .ok (.goto 4, 3) := by decide +kernel
theorem dX8_thingItem_21 : decode cX8_thingItem 21 = .ok (.iconst 0, 1) := by decide +kernel
theorem dX8_thingItem_22 : decode cX8_thingItem 22 = .ok (.putfield 174, 3) := by decide +kernel
theorem dX8_thingItem_25 : decode cX8_thingItem 25 = .ok (.aload_n 0, 1) := by decide +kernel
theorem dX8_thingItem_26 : decode cX8_thingItem 26 = .ok (.getfield 174, 3) := by decide +kernel
theorem dX8_thingItem_29 : decode cX8_thingItem 29 = .ok (.ifCond .eq 4, 3) := by decide +kernel
theorem dX8_thingItem_32 : decode cX8_thingItem 32 = .ok (.return_, 1) := by decide +kernel
theorem dX8_thingItem_33 : decode cX8_thingItem 33 = .ok (.aload_n 0, 1) := by decide +kernel
theorem dX8_thingItem_34 : decode cX8_thingItem 34 = .ok (.invokevirtual 178, 3) := by decide +kernel
theorem dX8_thingItem_37 : decode cX8_thingItem 37 = .ok (.aload_n 0, 1) := by decide +kernel
theorem dX8_thingItem_38 : decode cX8_thingItem 38 = .ok (.aload_n 0, 1) := by decide +kernel
theorem dX8_thingItem_39 : decode cX8_thingItem 39 = .ok (.bipush 6, 2) := by decide +kernel
theorem dX8_thingItem_41 : decode cX8_thingItem 41 = .ok (.invokevirtual 181, 3) := by decide +kernel
theorem dX8_thingItem_44 : decode cX8_thingItem 44 = .ok (.ifCond .ne 7, 3) := by decide +kernel
theorem dX8_thingItem_47 : decode cX8_thingItem 47 = .ok (.iconst 1, 1) := by decide +kernel
theorem dX8_thingItem_48 : decode cX8_thingItem 48 = .ok (.goto 4, 3) := by decide +kernel
theorem dX8_thingItem_51 : decode cX8_thingItem 51 = .ok (.iconst 0, 1) := by decide +kernel
theorem dX8_thingItem_52 : decode cX8_thingItem 52 = .ok (.putfield 174, 3) := by decide +kernel
theorem dX8_thingItem_55 : decode cX8_thingItem 55 = .ok (.aload_n 0, 1) := by decide +kernel
theorem dX8_thingItem_56 : decode cX8_thingItem 56 = .ok (.iconst 0, 1) := by decide +kernel
theorem dX8_thingItem_57 : decode cX8_thingItem 57 = .ok (.bipush 35, 2) := by decide +kernel
theorem dX8_thingItem_59 : decode cX8_thingItem 59 = .ok (.invokevirtual 184, 3) := by decide +kernel
theorem dX8_thingItem_62 : decode cX8_thingItem 62 = .ok (.istore_n 2, 1) := by decide +kernel
theorem dX8_thingItem_63 : decode cX8_thingItem 63 = .ok (.aload_n 0, 1) := by decide +kernel
theorem dX8_thingItem_64 : decode cX8_thingItem 64 = .ok (.bipush 7, 2) := by decide +kernel
theorem dX8_thingItem_66 : decode cX8_thingItem 66 = .ok (.iconst 0, 1) := by decide +kernel
theorem dX8_thingItem_67 : decode cX8_thingItem 67 = .ok (.bipush 7, 2) := by decide +kernel
theorem dX8_thingItem_69 : decode cX8_thingItem 69 = .ok (.iconst 0, 1) := by decide +kernel
theorem dX8_thingItem_70 : decode cX8_thingItem 70 = .ok (.invokevirtual 187, 3) := by decide +kernel
theorem dX8_thingItem_73 : decode cX8_thingItem 73 = .ok (.istore_n 3, 1) := by decide +kernel
theorem dX8_thingItem_74 : decode cX8_thingItem 74 = .ok (.aload_n 0, 1) := by decide +kernel
theorem dX8_thingItem_75 : decode cX8_thingItem 75 = .ok (.getfield 174, 3) := by decide +kernel
theorem dX8_thingItem_78 : decode cX8_thingItem 78 = .ok (.ifCond .ne 11, 3) := by decide +kernel
theorem dX8_thingItem_81 : decode cX8_thingItem 81 = .ok (.aload_n 0, 1) := by decide +kernel
theorem dX8_thingItem_82 : decode cX8_thingItem 82 = .ok (.iload_n 1, 1) := by decide +kernel
theorem dX8_thingItem_83 : decode cX8_thingItem 83 = .ok (.iload_n 2, 1) := by decide +kernel
theorem dX8_thingItem_84 : decode cX8_thingItem 84 = .ok (.iload_n 3, 1) := by decide +kernel
theorem dX8_thingItem_85 : decode cX8_thingItem 85 = .ok (.invokevirtual 94, 3) := by decide +kernel
theorem dX8_thingItem_88 : decode cX8_thingItem 88 = .ok (.pop, 1) := by decide +kernel
theorem dX8_thingItem_89 : decode cX8_thingItem 89 = .ok (.return_, 1) := by decide +kernel
theorem dX8_rotaItem_0 : decode cX8_rotaItem 0 = .ok (.iconst 0, 1) := by decide +kernel
theorem dX8_rotaItem_1 : decode cX8_rotaItem 1 = .ok (.istore_n 1, 1) := by decide +kernel
theorem dX8_rotaItem_2 : decode cX8_rotaItem 2 = .ok (.aload_n 0, 1) := by decide +kernel
theorem dX8_rotaItem_3 : decode cX8_rotaItem 3 = .ok (.getfield 174, 3) := by decide +kernel
theorem dX8_rotaItem_6 : decode cX8_rotaItem 6 = .ok (.ifCond .ne 45, 3) := by decide +kernel
theorem dX8_rotaItem_9 : decode cX8_rotaItem 9 = .ok (.iload_n 1, 1) := by decide +kernel
theorem dX8_rotaItem_10 : decode cX8_rotaItem 10 = .ok (.bipush 7, 2) := by decide +kernel
theorem dX8_rotaItem_12 : decode cX8_rotaItem 12 = .ok (.if_icmp .ge 39, 3) := by decide +kernel
theorem dX8_rotaItem_15 : decode cX8_rotaItem 15 = .ok (.iload_n 1, 1) := by decide +kernel
theorem dX8_rotaItem_16 : decode cX8_rotaItem 16 = .ok (.ifCond .eq 12, 3) := by decide +kernel
theorem dX8_rotaItem_19 : decode cX8_rotaItem 19 = .ok (.aload_n 0, 1) := by decide +kernel
theorem dX8_rotaItem_20 : decode cX8_rotaItem 20 = .ok (.getfield 168, 3) := by decide +kernel
theorem dX8_rotaItem_23 : decode cX8_rotaItem 23 = .ok (.bipush 20, 2) := by decide +kernel
theorem dX8_rotaItem_25 : decode cX8_rotaItem 25 = .ok (.if_icmp .ne 26, 3) := by decide +kernel
theorem dX8_rotaItem_28 : decode cX8_rotaItem 28 = .ok (.aload_n 0, 1) := by decide +kernel
theorem dX8_rotaItem_29 : decode cX8_rotaItem 29 = .ok (.iconst 0, 1) := by decide +kernel
theorem dX8_rotaItem_30 : decode cX8_rotaItem 30 = .ok (.bipush 8, 2) := by decide +kernel
theorem dX8_rotaItem_32 : decode cX8_rotaItem 32 = .ok (.invokevirtual 184, 3) := by decide +kernel
theorem dX8_rotaItem_35 : decode cX8_rotaItem 35 = .ok (.istore_n 2, 1) := by decide +kernel
theorem dX8_rotaItem_36 : decode cX8_rotaItem 36 = .ok (.aload_n 0, 1) := by decide +kernel
theorem dX8_rotaItem_37 : decode cX8_rotaItem 37 = .ok (.getfield 9, 3) := by decide +kernel
theorem dX8_rotaItem_40 : decode cX8_rotaItem 40 = .ok (.iconst 4, 1) := by decide +kernel
theorem dX8_rotaItem_41 : decode cX8_rotaItem 41 = .ok (.iload_n 1, 1) := by decide +kernel
theorem dX8_rotaItem_42 : decode cX8_rotaItem 42 = .ok (.iadd, 1) := by decide +kernel
theorem dX8_rotaItem_43 : decode cX8_rotaItem 43 = .ok (.iload_n 2, 1) := by decide +kernel
theorem dX8_rotaItem_44 : decode cX8_rotaItem 44 = .ok (.iastore, 1) := by decide +kernel
theorem dX8_rotaItem_45 : decode cX8_rotaItem 45 = .ok (.iinc 1 1, 3) := by decide +kernel
theorem dX8_rotaItem_48 : decode cX8_rotaItem 48 = .ok (.goto (-46), 3) := by decide +kernel
theorem dX8_rotaItem_51 : decode cX8_rotaItem 51 = .ok (.return_, 1) := by decide +kernel
theorem dX8_item_0 : decode cX8_item 0 = .ok (.aload_n 0, 1) := by decide +kernel
theorem dX8_item_1 : decode cX8_item 1 = .ok (.getfield 168, 3) := by decide +kernel
theorem dX8_item_4 : decode cX8_item 4 = .ok (.iconst 5, 1) := by decide +kernel
theorem dX8_item_5 : decode cX8_item 5 = .ok (.if_icmp .gt 10, 3) := by decide +kernel
theorem dX8_item_8 : decode cX8_item 8 = .ok (.aload_n 0, 1) := by decide +kernel
theorem dX8_item_9 : decode cX8_item 9 = .ok (.invokevirtual 191, 3) := by decide +kernel
theorem dX8_item_12 : decode cX8_item 12 = .ok (.goto 110, 3) := by decide +kernel
theorem dX8_item_15 : decode cX8_item 15 = .ok (.aload_n 0, 1) := by decide +kernel
theorem dX8_item_16 : decode cX8_item 16 = .ok (.bipush 8, 2) := by decide +kernel
theorem dX8_item_18 : decode cX8_item 18 = .ok (.invokevirtual 181, 3) := by decide +kernel
theorem dX8_item_21 : decode cX8_item 21 = .ok (.ifCond .eq 10, 3) := by decide +kernel
theorem dX8_item_24 : decode cX8_item 24 = .ok (.aload_n 0, 1) := by decide +kernel
theorem dX8_item_25 : decode cX8_item 25 = .ok (.invokevirtual 194, 3) := by decide +kernel
theorem dX8_item_28 : decode cX8_item 28 = .ok (.goto 94, 3) := by decide +kernel
theorem dX8_item_31 : decode cX8_item 31 = .ok (.aload_n 0, 1) := by decide +kernel
theorem dX8_item_32 : decode cX8_item 32 = .ok (.getfield 168, 3) := by decide +kernel
theorem dX8_item_35 : decode cX8_item 35 = .ok (.bipush 9, 2) := by decide +kernel
theorem dX8_item_37 : decode cX8_item 37 = .ok (.if_icmp .eq 12, 3) := by decide +kernel
theorem dX8_item_40 : decode cX8_item 40 = .ok (.aload_n 0, 1) := by decide +kernel
theorem dX8_item_41 : decode cX8_item 41 = .ok (.getfield 168, 3) := by decide +kernel
theorem dX8_item_44 : decode cX8_item 44 = .ok (.bipush 10, 2) := by decide +kernel
theorem dX8_item_46 : decode cX8_item 46 = .ok (.if_icmp .ne 46, 3) := by decide +kernel
theorem dX8_item_49 : decode cX8_item 49 = .ok (.aload_n 0, 1) := by decide +kernel
theorem dX8_item_50 : decode cX8_item 50 = .ok (.getfield 168, 3) := by decide +kernel
theorem dX8_item_53 : decode cX8_item 53 = .ok (.bipush 9, 2) := by decide +kernel
theorem dX8_item_55 : decode cX8_item 55 = .ok (.if_icmp .ne 7, 3) := by decide +kernel
theorem dX8_item_58 : decode cX8_item 58 = .ok (.iconst 1, 1) := by decide +kernel
theorem dX8_item_59 : decode cX8_item 59 = .ok (.goto 4, 3) := by decide +kernel
theorem dX8_item_62 : decode cX8_item 62 = .ok (.iconst 0, 1) := by decide +kernel
theorem dX8_item_63 : decode cX8_item 63 = .ok (.istore_n 1, 1) := by decide +kernel
theorem dX8_item_64 : decode cX8_item 64 = .ok (.aload_n 0, 1) := by decide +kernel
theorem dX8_item_65 : decode cX8_item 65 = .ok (.invokevirtual 178, 3) := by decide +kernel
theorem dX8_item_68 : decode cX8_item 68 = .ok (.aload_n 0, 1) := by decide +kernel
theorem dX8_item_69 : decode cX8_item 69 = .ok (.iconst 0, 1) := by decide +kernel
theorem dX8_item_70 : decode cX8_item 70 = .ok (.bipush 7, 2) := by decide +kernel
theorem dX8_item_72 : decode cX8_item 72 = .ok (.invokevirtual 184, 3) := by decide +kernel
theorem dX8_item_75 : decode cX8_item 75 = .ok (.istore_n 2, 1) := by decide +kernel
theorem dX8_item_76 : decode cX8_item 76 = .ok (.aload_n 0, 1) := by decide +kernel
theorem dX8_item_77 : decode cX8_item 77 = .ok (.getfield 174, 3) := by decide +kernel
theorem dX8_item_80 : decode cX8_item 80 = .ok (.ifCond .ne 9, 3) := by decide +kernel
theorem dX8_item_83 : decode cX8_item 83 = .ok (.aload_n 0, 1) := by decide +kernel
theorem dX8_item_84 : decode cX8_item 84 = .ok (.iload_n 2, 1) := by decide +kernel
theorem dX8_item_85 : decode cX8_item 85 = .ok (.iload_n 1, 1) := by decide +kernel
theorem dX8_item_86 : decode cX8_item 86 = .ok (.invokevirtual 59, 3) := by decide +kernel
theorem dX8_item_89 : decode cX8_item 89 = .ok (.goto 33, 3) := by decide +kernel
theorem dX8_item_92 : decode cX8_item 92 = .ok (.aload_n 0, 1) := by decide +kernel
theorem dX8_item_93 : decode cX8_item 93 = .ok (.bipush 11, 2) := by decide +kernel
theorem dX8_item_95 : decode cX8_item 95 = .ok (.invokevirtual 181, 3) := by decide +kernel
theorem dX8_item_98 : decode cX8_item 98 = .ok (.ifCond .eq 19, 3) := by decide +kernel
theorem dX8_item_101 : decode cX8_item 101 = .ok (.aload_n 0, 1) := by decide +kernel
theorem dX8_item_102 : decode cX8_item 102 = .ok (.getfield 9, 3) := by decide +kernel
theorem dX8_item_105 : decode cX8_item 105 = .ok (.iconst 1, 1) := by decide +kernel
theorem dX8_item_106 : decode cX8_item 106 = .ok (.aload_n 0, 1) := by decide +kernel
theorem dX8_item_107 : decode cX8_item 107 = .ok (.iconst 0, 1) := by decide +kernel
theorem dX8_item_108 : decode cX8_item 108 = .ok (.bipush 9, 2) := by decide +kernel
theorem dX8_item_110 : decode cX8_item 110 = .ok (.invokevirtual 184, 3) := by decide +kernel
theorem dX8_item_113 : decode cX8_item 113 = .ok (.iastore, 1) := by decide +kernel
theorem dX8_item_114 : decode cX8_item 114 = .ok (.goto 8, 3) := by decide +kernel
theorem dX8_item_117 : decode cX8_item 117 = .ok (.aload_n 0, 1) := by decide +kernel
theorem dX8_item_118 : decode cX8_item 118 = .ok (.iconst 1, 1) := by decide +kernel
theorem dX8_item_119 : decode cX8_item 119 = .ok (.putfield 174, 3) := by decide +kernel
theorem dX8_item_122 : decode cX8_item 122 = .ok (.return_, 1) := by decide +kernel
theorem dX8_sea_0 : decode cX8_sea 0 = .ok (.aload_n 0, 1) := by decide +kernel
theorem dX8_sea_1 : decode cX8_sea 1 = .ok (.invokevirtual 124, 3) := by decide +kernel
theorem dX8_sea_4 : decode cX8_sea 4 = .ok (.aload_n 0, 1) := by decide +kernel
theorem dX8_sea_5 : decode cX8_sea 5 = .ok (.iconst 0, 1) := by decide +kernel
theorem dX8_sea_6 : decode cX8_sea 6 = .ok (.putfield 155, 3) := by decide +kernel
theorem dX8_sea_9 : decode cX8_sea 9 = .ok (.aload_n 0, 1) := by decide +kernel
theorem dX8_sea_10 : decode cX8_sea 10 = .ok (.iconst 0, 1) := by decide +kernel
theorem dX8_sea_11 : decode cX8_sea 11 = .ok (.putfield 174, 3) := by decide +kernel
theorem dX8_sea_14 : decode cX8_sea 14 = .ok (.aload_n 0, 1) := by decide +kernel
theorem dX8_sea_15 : decode cX8_sea 15 = .ok (.invokevirtual 178, 3) := by decide +kernel
theorem dX8_sea_18 : decode cX8_sea 18 = .ok (.aload_n 0, 1) := by decide +kernel
theorem dX8_sea_19 : decode cX8_sea 19 = .ok (.invokevirtual 197, 3) := by decide +kernel
theorem dX8_sea_22 : decode cX8_sea 22 = .ok (.iconst 1, 1) := by decide +kernel
theorem dX8_sea_23 : decode cX8_sea 23 = .ok (.istore_n 1, 1) := by decide +kernel
theorem dX8_sea_24 : decode cX8_sea 24 = .ok (.aload_n 0, 1) := by decide +kernel
theorem dX8_sea_25 : decode cX8_sea 25 = .ok (.bipush 21, 2) := by decide +kernel
theorem dX8_sea_27 : decode cX8_sea 27 = .ok (.invokevirtual 181, 3) := by decide +kernel
theorem dX8_sea_30 : decode cX8_sea 30 = .ok (.ifCond .eq 13, 3) := by decide +kernel
theorem dX8_sea_33 : decode cX8_sea 33 = .ok (.aload_n 0, 1) := by decide +kernel
theorem dX8_sea_34 : decode cX8_sea 34 = .ok (.invokevirtual 197, 3) := by decide +kernel
theorem dX8_sea_37 : decode cX8_sea 37 = .ok (.iinc 1 1, 3) := by decide +kernel
theorem dX8_sea_40 : decode cX8_sea 40 = .ok (.goto (-16), 3) := by decide +kernel
theorem dX8_sea_43 : decode cX8_sea 43 = .ok (.aload_n 0, 1) := by decide +kernel
theorem dX8_sea_44 : decode cX8_sea 44 = .ok (.aload_n 0, 1) := by decide +kernel
theorem dX8_sea_45 : decode cX8_sea 45 = .ok (.getfield 174, 3) := by decide +kernel
theorem dX8_sea_48 : decode cX8_sea 48 = .ok (.ifCond .ne 12, 3) := by decide +kernel
theorem dX8_sea_51 : decode cX8_sea 51 = .ok (.aload_n 0, 1) := by decide +kernel
theorem dX8_sea_52 : decode cX8_sea 52 = .ok (.getfield 168, 3) := by decide +kernel
theorem dX8_sea_55 : decode cX8_sea 55 = .ok (.bipush 22, 2) := by decide +kernel
theorem dX8_sea_57 : decode cX8_sea 57 = .ok (.if_icmp .eq 7, 3) := by decide +kernel
theorem dX8_sea_60 : decode cX8_sea 60 = .ok (.iconst 1, 1) := by decide +kernel
theorem dX8_sea_61 : decode cX8_sea 61 = .ok (.goto 4, 3) := by decide +kernel
theorem dX8_sea_64 : decode cX8_sea 64 = .ok (.iconst 0, 1) := by decide +kernel
theorem dX8_sea_65 : decode cX8_sea 65 = .ok (.putfield 174, 3) := by decide +kernel
theorem dX8_sea_68 : decode cX8_sea 68 = .ok (.aload_n 0, 1) := by decide +kernel
theorem dX8_sea_69 : decode cX8_sea 69 = .ok (.iconst 0, 1) := by decide +kernel
theorem dX8_sea_70 : decode cX8_sea 70 = .ok (.putfield 145, 3) := by decide +kernel
theorem dX8_sea_73 : decode cX8_sea 73 = .ok (.aload_n 0, 1) := by decide +kernel
theorem dX8_sea_74 : decode cX8_sea 74 = .ok (.getfield 174, 3) := by decide +kernel
theorem dX8_sea_77 : decode cX8_sea 77 = .ok (.ifCond .ne 5, 3) := by decide +kernel
theorem dX8_sea_80 : decode cX8_sea 80 = .ok (.iload_n 1, 1) := by decide +kernel
theorem dX8_sea_81 : decode cX8_sea 81 = .ok (.ireturn, 1) := by decide +kernel
theorem dX8_sea_82 : decode cX8_sea 82 = .ok (.aload_n 0, 1) := by decide +kernel
theorem dX8_sea_83 : decode cX8_sea 83 = .ok (.invokevirtual 127, 3) := by decide +kernel
theorem dX8_sea_86 : decode cX8_sea 86 = .ok (.iconst (-1), 1) := by decide +kernel
theorem dX8_sea_87 : decode cX8_sea 87 = .ok (.aload_n 0, 1) := by decide +kernel
theorem dX8_sea_88 : decode cX8_sea 88 = .ok (.getfield 152, 3) := by decide +kernel
theorem dX8_sea_91 : decode cX8_sea 91 = .ok (.isub, 1) := by decide +kernel
theorem dX8_sea_92 : decode cX8_sea 92 = .ok (.ireturn, 1) := by decide +kernel
theorem dX8_isSheet_0 : decode cX8_isSheet 0 = .ok (.iload_n 0, 1) := by decide +kernel
theorem dX8_isSheet_1 : decode cX8_isSheet 1 = .ok (.i2l, 1) := by decide +kernel
theorem dX8_isSheet_2 : decode cX8_isSheet 2 = .ok (.iconst 0, 1) := by decide +kernel
theorem dX8_isSheet_3 : decode cX8_isSheet 3 = .ok (.iconst 3, 1) := by decide +kernel
theorem dX8_isSheet_4 : decode cX8_isSheet 4 = .ok (.invokestatic 47, 3) := by decide +kernel
theorem dX8_isSheet_7 : decode cX8_isSheet 7 = .ok (.ireturn, 1) := by decide +kernel
theorem dX8_sheet_0 : decode cX8_sheet 0 = .ok (.iload_n 1, 1) := by decide +kernel
theorem dX8_sheet_1 : decode cX8_sheet 1 = .ok (.invokestatic 200, 3) := by decide +kernel
theorem dX8_sheet_4 : decode cX8_sheet 4 = .ok (.ifCond .eq 25, 3) := by decide +kernel
theorem dX8_sheet_7 : decode cX8_sheet 7 = .ok (.iload_n 2, 1) := by decide +kernel
theorem dX8_sheet_8 : decode cX8_sheet 8 = .ok (.ifCond .eq 28, 3) := by decide +kernel
theorem dX8_sheet_11 : decode cX8_sheet 11 = .ok (.iload_n 2, 1) := by decide +kernel
theorem dX8_sheet_12 : decode cX8_sheet 12 = .ok (.bipush 8, 2) := by decide +kernel
theorem dX8_sheet_14 : decode cX8_sheet 14 = .ok (.if_icmp .eq 22, 3) := by decide +kernel
theorem dX8_sheet_17 : decode cX8_sheet 17 = .ok (.iload_n 2, 1) := by decide +kernel
theorem dX8_sheet_18 : decode cX8_sheet 18 = .ok (.bipush 16, 2) := by decide +kernel
theorem dX8_sheet_20 : decode cX8_sheet 20 = .ok (.if_icmp .eq 16, 3) := by decide +kernel
theorem dX8_sheet_23 : decode cX8_sheet 23 = .ok (.iload_n 2, 1) := by decide +kernel
theorem dX8_sheet_24 : decode cX8_sheet 24 = .ok (.bipush 64, 2) := by decide +kernel
theorem dX8_sheet_26 : decode cX8_sheet 26 = .ok (.if_icmp .eq 10, 3) := by decide +kernel
theorem dX8_sheet_29 : decode cX8_sheet 29 = .ok (.aload_n 0, 1) := by decide +kernel
theorem dX8_sheet_30 : decode cX8_sheet 30 = .ok (.ldc 41, 2) := by decide +kernel
theorem dX8_sheet_32 : decode cX8_sheet 32 = .ok (.invokevirtual 43, 3) := by decide +kernel
theorem dX8_sheet_35 : decode cX8_sheet 35 = .ok (.ireturn, 1) := by decide +kernel
theorem dX8_sheet_36 : decode cX8_sheet 36 = .ok (.iload_n 3, 1) := by decide +kernel
theorem dX8_sheet_37 : decode cX8_sheet 37 = .ok (.ifCond .ge 10, 3) := by decide +kernel
theorem dX8_sheet_40 : decode cX8_sheet 40 = .ok (.aload_n 0, 1) := by decide +kernel
theorem dX8_sheet_41 : decode cX8_sheet 41 = .ok (.ldc 203, 2) := by decide +kernel
theorem dX8_sheet_43 : decode cX8_sheet 43 = .ok (.invokevirtual 43, 3) := by decide +kernel
theorem dX8_sheet_46 : decode cX8_sheet 46 = .ok (.ireturn, 1) := by decide +kernel
theorem dX8_sheet_47 : decode cX8_sheet 47 = .ok (.iload_n 3, 1) := by decide +kernel
theorem dX8_sheet_48 : decode cX8_sheet 48 = .ok (.bipush 40, 2) := by decide +kernel
theorem dX8_sheet_50 : decode cX8_sheet 50 = .ok (.if_icmp .le 10, 3) := by decide +kernel
theorem dX8_sheet_53 : decode cX8_sheet 53 = .ok (.aload_n 0, 1) := by decide +kernel
theorem dX8_sheet_54 : decode cX8_sheet 54 = .ok (.ldc 41, 2) := by decide +kernel
theorem dX8_sheet_56 : decode cX8_sheet 56 = .ok (.invokevirtual 43, 3) := by decide +kernel
theorem dX8_sheet_59 : decode cX8_sheet 59 = .ok (.ireturn, 1) := by decide +kernel
theorem dX8_sheet_60 : decode cX8_sheet 60 = .ok (.aload_n 0, 1) := by decide +kernel
theorem dX8_sheet_61 : decode cX8_sheet 61 = .ok (.getfield 31, 3) := by decide +kernel
theorem dX8_sheet_64 : decode cX8_sheet 64 = .ok (.iload_n 1, 1) := by decide +kernel
theorem dX8_sheet_65 : decode cX8_sheet 65 = .ok (.iload_n 2, 1) := by decide +kernel
theorem dX8_sheet_66 : decode cX8_sheet 66 = .ok (.iastore, 1) := by decide +kernel
theorem dX8_sheet_67 : decode cX8_sheet 67 = .ok (.aload_n 0, 1) := by decide +kernel
theorem dX8_sheet_68 : decode cX8_sheet 68 = .ok (.getfield 34, 3) := by decide +kernel
theorem dX8_sheet_71 : decode cX8_sheet 71 = .ok (.iload_n 1, 1) := by decide +kernel
theorem dX8_sheet_72 : decode cX8_sheet 72 = .ok (.iload_n 2, 1) := by decide +kernel
theorem dX8_sheet_73 : decode cX8_sheet 73 = .ok (.ifCond .ne 7, 3) := by decide +kernel
theorem dX8_sheet_76 : decode cX8_sheet 76 = .ok (.iconst 0, 1) := by decide +kernel
theorem dX8_sheet_77 : decode cX8_sheet 77 = .ok (.goto 4, 3) := by decide +kernel
theorem dX8_sheet_80 : decode cX8_sheet 80 = .ok (.iload_n 3, 1) := by decide +kernel
theorem dX8_sheet_81 : decode cX8_sheet 81 = .ok (.iastore, 1) := by decide +kernel
theorem dX8_sheet_82 : decode cX8_sheet 82 = .ok (.iconst 0, 1) := by decide +kernel
theorem dX8_sheet_83 : decode cX8_sheet 83 = .ok (.istore 4, 2) := by decide +kernel
theorem dX8_sheet_85 : decode cX8_sheet 85 = .ok (.iload 4, 2) := by decide +kernel
theorem dX8_sheet_87 : decode cX8_sheet 87 = .ok (.bipush 40, 2) := by decide +kernel
theorem dX8_sheet_89 : decode cX8_sheet 89 = .ok (.if_icmp .ge 22, 3) := by decide +kernel
theorem dX8_sheet_92 : decode cX8_sheet 92 = .ok (.aload_n 0, 1) := by decide +kernel
theorem dX8_sheet_93 : decode cX8_sheet 93 = .ok (.getfield 37, 3) := by decide +kernel
theorem dX8_sheet_96 : decode cX8_sheet 96 = .ok (.bipush 40, 2) := by decide +kernel
theorem dX8_sheet_98 : decode cX8_sheet 98 = .ok (.iload_n 1, 1) := by decide +kernel
theorem dX8_sheet_99 : decode cX8_sheet 99 = .ok (.imul, 1) := by decide +kernel
theorem dX8_sheet_100 : decode cX8_sheet 100 = .ok (.iload 4, 2) := by decide +kernel
theorem dX8_sheet_102 : decode cX8_sheet 102 = .ok (.iadd, 1) := by decide +kernel
theorem dX8_sheet_103 : decode cX8_sheet 103 = .ok (.lconst 0, 1) := by decide +kernel
theorem dX8_sheet_104 : decode cX8_sheet 104 = .ok (.lastore, 1) := by decide +kernel
theorem dX8_sheet_105 : decode cX8_sheet 105 = .ok (.iinc 4 1, 3) := by decide +kernel
theorem dX8_sheet_108 : decode cX8_sheet 108 = .ok (.goto (-23), 3) := by decide +kernel
theorem dX8_sheet_111 : decode cX8_sheet 111 = .ok (.aload_n 0, 1) := by decide +kernel
theorem dX8_sheet_112 : decode cX8_sheet 112 = .ok (.getfield 34, 3) := by decide +kernel
theorem dX8_sheet_115 : decode cX8_sheet 115 = .ok (.iload_n 1, 1) := by decide +kernel
theorem dX8_sheet_116 : decode cX8_sheet 116 = .ok (.iaload, 1) := by decide +kernel
theorem dX8_sheet_117 : decode cX8_sheet 117 = .ok (.ireturn, 1) := by decide +kernel
theorem dX8_notThere_0 : decode cX8_notThere 0 = .ok (.iload_n 1, 1) := by decide +kernel
theorem dX8_notThere_1 : decode cX8_notThere 1 = .ok (.invokestatic 200, 3) := by decide +kernel
theorem dX8_notThere_4 : decode cX8_notThere 4 = .ok (.ifCond .ne 8, 3) := by decide +kernel
theorem dX8_notThere_7 : decode cX8_notThere 7 = .ok (.ldc 41, 2) := by decide +kernel
theorem dX8_notThere_9 : decode cX8_notThere 9 = .ok (.goto 18, 3) := by decide +kernel
theorem dX8_notThere_12 : decode cX8_notThere 12 = .ok (.aload_n 0, 1) := by decide +kernel
theorem dX8_notThere_13 : decode cX8_notThere 13 = .ok (.getfield 31, 3) := by decide +kernel
theorem dX8_notThere_16 : decode cX8_notThere 16 = .ok (.iload_n 1, 1) := by decide +kernel
theorem dX8_notThere_17 : decode cX8_notThere 17 = .ok (.iaload, 1) := by decide +kernel
theorem dX8_notThere_18 : decode cX8_notThere 18 = .ok (.ifCond .ne 8, 3) := by decide +kernel
theorem dX8_notThere_21 : decode cX8_notThere 21 = .ok (.ldc 204, 2) := by decide +kernel
theorem dX8_notThere_23 : decode cX8_notThere 23 = .ok (.goto 4, 3) := by decide +kernel
theorem dX8_notThere_26 : decode cX8_notThere 26 = .ok (.iconst 0, 1) := by decide +kernel
theorem dX8_notThere_27 : decode cX8_notThere 27 = .ok (.ireturn, 1) := by decide +kernel
theorem dX8_cutTo_0 : decode cX8_cutTo 0 = .ok (.iload_n 0, 1) := by decide +kernel
theorem dX8_cutTo_1 : decode cX8_cutTo 1 = .ok (.bipush 8, 2) := by decide +kernel
theorem dX8_cutTo_3 : decode cX8_cutTo 3 = .ok (.if_icmp .ne 10, 3) := by decide +kernel
theorem dX8_cutTo_6 : decode cX8_cutTo 6 = .ok (.lload_n 1, 1) := by decide +kernel
theorem dX8_cutTo_7 : decode cX8_cutTo 7 = .ok (.l2i, 1) := by decide +kernel
theorem dX8_cutTo_8 : decode cX8_cutTo 8 = .ok (.i2b, 1) := by decide +kernel
theorem dX8_cutTo_9 : decode cX8_cutTo 9 = .ok (.i2l, 1) := by decide +kernel
theorem dX8_cutTo_10 : decode cX8_cutTo 10 = .ok (.goto 17, 3) := by decide +kernel
theorem dX8_cutTo_13 : decode cX8_cutTo 13 = .ok (.iload_n 0, 1) := by decide +kernel
theorem dX8_cutTo_14 : decode cX8_cutTo 14 = .ok (.bipush 16, 2) := by decide +kernel
theorem dX8_cutTo_16 : decode cX8_cutTo 16 = .ok (.if_icmp .ne 10, 3) := by decide +kernel
theorem dX8_cutTo_19 : decode cX8_cutTo 19 = .ok (.lload_n 1, 1) := by decide +kernel
theorem dX8_cutTo_20 : decode cX8_cutTo 20 = .ok (.l2i, 1) := by decide +kernel
theorem dX8_cutTo_21 : decode cX8_cutTo 21 = .ok (.i2s, 1) := by decide +kernel
theorem dX8_cutTo_22 : decode cX8_cutTo 22 = .ok (.i2l, 1) := by decide +kernel
theorem dX8_cutTo_23 : decode cX8_cutTo 23 = .ok (.goto 4, 3) := by decide +kernel
theorem dX8_cutTo_26 : decode cX8_cutTo 26 = .ok (.lload_n 1, 1) := by decide +kernel
theorem dX8_cutTo_27 : decode cX8_cutTo 27 = .ok (.lreturn, 1) := by decide +kernel
theorem dX8_write_0 : decode cX8_write 0 = .ok (.aload_n 0, 1) := by decide +kernel
theorem dX8_write_1 : decode cX8_write 1 = .ok (.iload_n 1, 1) := by decide +kernel
theorem dX8_write_2 : decode cX8_write 2 = .ok (.invokevirtual 205, 3) := by decide +kernel
theorem dX8_write_5 : decode cX8_write 5 = .ok (.istore 5, 2) := by decide +kernel
theorem dX8_write_7 : decode cX8_write 7 = .ok (.iload 5, 2) := by decide +kernel
theorem dX8_write_9 : decode cX8_write 9 = .ok (.ifCond .ne 24, 3) := by decide +kernel
theorem dX8_write_12 : decode cX8_write 12 = .ok (.iload_n 2, 1) := by decide +kernel
theorem dX8_write_13 : decode cX8_write 13 = .ok (.i2l, 1) := by decide +kernel
theorem dX8_write_14 : decode cX8_write 14 = .ok (.iconst 0, 1) := by decide +kernel
theorem dX8_write_15 : decode cX8_write 15 = .ok (.aload_n 0, 1) := by decide +kernel
theorem dX8_write_16 : decode cX8_write 16 = .ok (.getfield 34, 3) := by decide +kernel
theorem dX8_write_19 : decode cX8_write 19 = .ok (.iload_n 1, 1) := by decide +kernel
theorem dX8_write_20 : decode cX8_write 20 = .ok (.iaload, 1) := by decide +kernel
theorem dX8_write_21 : decode cX8_write 21 = .ok (.iconst 1, 1) := by decide +kernel
theorem dX8_write_22 : decode cX8_write 22 = .ok (.isub, 1) := by decide +kernel
theorem dX8_write_23 : decode cX8_write 23 = .ok (.invokestatic 47, 3) := by decide +kernel
theorem dX8_write_26 : decode cX8_write 26 = .ok (.ifCond .ne 7, 3) := by decide +kernel
theorem dX8_write_29 : decode cX8_write 29 = .ok (.ldc 41, 2) := by decide +kernel
theorem dX8_write_31 : decode cX8_write 31 = .ok (.istore 5, 2) := by decide +kernel
theorem dX8_write_33 : decode cX8_write 33 = .ok (.iload 5, 2) := by decide +kernel
theorem dX8_write_35 : decode cX8_write 35 = .ok (.ifCond .eq 11, 3) := by decide +kernel
theorem dX8_write_38 : decode cX8_write 38 = .ok (.aload_n 0, 1) := by decide +kernel
theorem dX8_write_39 : decode cX8_write 39 = .ok (.iload 5, 2) := by decide +kernel
theorem dX8_write_41 : decode cX8_write 41 = .ok (.invokevirtual 43, 3) := by decide +kernel
theorem dX8_write_44 : decode cX8_write 44 = .ok (.i2l, 1) := by decide +kernel
theorem dX8_write_45 : decode cX8_write 45 = .ok (.lreturn, 1) := by decide +kernel
theorem dX8_write_46 : decode cX8_write 46 = .ok (.aload_n 0, 1) := by decide +kernel
theorem dX8_write_47 : decode cX8_write 47 = .ok (.getfield 37, 3) := by decide +kernel
theorem dX8_write_50 : decode cX8_write 50 = .ok (.bipush 40, 2) := by decide +kernel
theorem dX8_write_52 : decode cX8_write 52 = .ok (.iload_n 1, 1) := by decide +kernel
theorem dX8_write_53 : decode cX8_write 53 = .ok (.imul, 1) := by decide +kernel
theorem dX8_write_54 : decode cX8_write 54 = .ok (.iload_n 2, 1) := by decide +kernel
theorem dX8_write_55 : decode cX8_write 55 = .ok (.iadd, 1) := by decide +kernel
theorem dX8_write_56 : decode cX8_write 56 = .ok (.laload, 1) := by decide +kernel
theorem dX8_write_57 : decode cX8_write 57 = .ok (.lstore 6, 2) := by decide +kernel
theorem dX8_write_59 : decode cX8_write 59 = .ok (.aload_n 0, 1) := by decide +kernel
theorem dX8_write_60 : decode cX8_write 60 = .ok (.getfield 37, 3) := by decide +kernel
theorem dX8_write_63 : decode cX8_write 63 = .ok (.bipush 40, 2) := by decide +kernel
theorem dX8_write_65 : decode cX8_write 65 = .ok (.iload_n 1, 1) := by decide +kernel
theorem dX8_write_66 : decode cX8_write 66 = .ok (.imul, 1) := by decide +kernel
theorem dX8_write_67 : decode cX8_write 67 = .ok (.iload_n 2, 1) := by decide +kernel
theorem dX8_write_68 : decode cX8_write 68 = .ok (.iadd, 1) := by decide +kernel
theorem dX8_write_69 : decode cX8_write 69 = .ok (.aload_n 0, 1) := by decide +kernel
theorem dX8_write_70 : decode cX8_write 70 = .ok (.getfield 31, 3) := by decide +kernel
theorem dX8_write_73 : decode cX8_write 73 = .ok (.iload_n 1, 1) := by decide +kernel
theorem dX8_write_74 : decode cX8_write 74 = .ok (.iaload, 1) := by decide +kernel
theorem dX8_write_75 : decode cX8_write 75 = .ok (.lload_n 3, 1) := by decide +kernel
theorem dX8_write_76 : decode cX8_write 76 = .ok (.invokestatic 208, 3) := by decide +kernel
theorem dX8_write_79 : decode cX8_write 79 = .ok (.lastore, 1) := by decide +kernel
theorem dX8_write_80 : decode cX8_write 80 = .ok (.lload 6, 2) := by decide +kernel
theorem dX8_write_82 : decode cX8_write 82 = .ok (.lreturn, 1) := by decide +kernel
theorem dX8_notCopied_0 : decode cX8_notCopied 0 = .ok (.iload_n 1, 1) := by decide +kernel
theorem dX8_notCopied_1 : decode cX8_notCopied 1 = .ok (.invokestatic 200, 3) := by decide +kernel
theorem dX8_notCopied_4 : decode cX8_notCopied 4 = .ok (.ifCond .eq 10, 3) := by decide +kernel
theorem dX8_notCopied_7 : decode cX8_notCopied 7 = .ok (.iload_n 3, 1) := by decide +kernel
theorem dX8_notCopied_8 : decode cX8_notCopied 8 = .ok (.invokestatic 200, 3) := by decide +kernel
theorem dX8_notCopied_11 : decode cX8_notCopied 11 = .ok (.ifCond .ne 6, 3) := by decide +kernel
theorem dX8_notCopied_14 : decode cX8_notCopied 14 = .ok (.ldc 41, 2) := by decide +kernel
theorem dX8_notCopied_16 : decode cX8_notCopied 16 = .ok (.ireturn, 1) := by decide +kernel
theorem dX8_notCopied_17 : decode cX8_notCopied 17 = .ok (.aload_n 0, 1) := by decide +kernel
theorem dX8_notCopied_18 : decode cX8_notCopied 18 = .ok (.getfield 31, 3) := by decide +kernel
theorem dX8_notCopied_21 : decode cX8_notCopied 21 = .ok (.iload_n 1, 1) := by decide +kernel
theorem dX8_notCopied_22 : decode cX8_notCopied 22 = .ok (.iaload, 1) := by decide +kernel
theorem dX8_notCopied_23 : decode cX8_notCopied 23 = .ok (.ifCond .eq 12, 3) := by decide +kernel
theorem dX8_notCopied_26 : decode cX8_notCopied 26 = .ok (.aload_n 0, 1) := by decide +kernel
theorem dX8_notCopied_27 : decode cX8_notCopied 27 = .ok (.getfield 31, 3) := by decide +kernel
theorem dX8_notCopied_30 : decode cX8_notCopied 30 = .ok (.iload_n 3, 1) := by decide +kernel
theorem dX8_notCopied_31 : decode cX8_notCopied 31 = .ok (.iaload, 1) := by decide +kernel
theorem dX8_notCopied_32 : decode cX8_notCopied 32 = .ok (.ifCond .ne 6, 3) := by decide +kernel
theorem dX8_notCopied_35 : decode cX8_notCopied 35 = .ok (.ldc 204, 2) := by decide +kernel
theorem dX8_notCopied_37 : decode cX8_notCopied 37 = .ok (.ireturn, 1) := by decide +kernel
theorem dX8_notCopied_38 : decode cX8_notCopied 38 = .ok (.aload_n 0, 1) := by decide +kernel
theorem dX8_notCopied_39 : decode cX8_notCopied 39 = .ok (.getfield 31, 3) := by decide +kernel
theorem dX8_notCopied_42 : decode cX8_notCopied 42 = .ok (.iload_n 1, 1) := by decide +kernel
theorem dX8_notCopied_43 : decode cX8_notCopied 43 = .ok (.iaload, 1) := by decide +kernel
theorem dX8_notCopied_44 : decode cX8_notCopied 44 = .ok (.aload_n 0, 1) := by decide +kernel
theorem dX8_notCopied_45 : decode cX8_notCopied 45 = .ok (.getfield 31, 3) := by decide +kernel
theorem dX8_notCopied_48 : decode cX8_notCopied 48 = .ok (.iload_n 3, 1) := by decide +kernel
theorem dX8_notCopied_49 : decode cX8_notCopied 49 = .ok (.iaload, 1) := by decide +kernel
theorem dX8_notCopied_50 : decode cX8_notCopied 50 = .ok (.if_icmp .eq 6, 3) := by decide +kernel
theorem dX8_notCopied_53 : decode cX8_notCopied 53 = .ok (.ldc 104, 2) := by decide +kernel
theorem dX8_notCopied_55 : decode cX8_notCopied 55 = .ok (.ireturn, 1) := by decide +kernel
theorem dX8_notCopied_56 : decode cX8_notCopied 56 = .ok (.iload 5, 2) := by decide +kernel
theorem dX8_notCopied_58 : decode cX8_notCopied 58 = .ok (.ifCond .lt 43, 3) := by decide +kernel
theorem dX8_notCopied_61 : decode cX8_notCopied 61 = .ok (.iload_n 2, 1) := by decide +kernel
theorem dX8_notCopied_62 : decode cX8_notCopied 62 = .ok (.ifCond .lt 39, 3) := by decide +kernel
theorem dX8_notCopied_65 : decode cX8_notCopied 65 = .ok (.iload 4, 2) := by decide +kernel
theorem dX8_notCopied_67 : decode cX8_notCopied 67 = .ok (.ifCond .lt 34, 3) := by decide +kernel
theorem dX8_notCopied_70 : decode cX8_notCopied 70 = .ok (.iload 5, 2) := by decide +kernel
theorem dX8_notCopied_72 : decode cX8_notCopied 72 = .ok (.aload_n 0, 1) := by decide +kernel
theorem dX8_notCopied_73 : decode cX8_notCopied 73 = .ok (.getfield 34, 3) := by decide +kernel
theorem dX8_notCopied_76 : decode cX8_notCopied 76 = .ok (.iload_n 1, 1) := by decide +kernel
theorem dX8_notCopied_77 : decode cX8_notCopied 77 = .ok (.iaload, 1) := by decide +kernel
theorem dX8_notCopied_78 : decode cX8_notCopied 78 = .ok (.iload_n 2, 1) := by decide +kernel
theorem dX8_notCopied_79 : decode cX8_notCopied 79 = .ok (.isub, 1) := by decide +kernel
theorem dX8_notCopied_80 : decode cX8_notCopied 80 = .ok (.if_icmp .gt 21, 3) := by decide +kernel
theorem dX8_notCopied_83 : decode cX8_notCopied 83 = .ok (.iload 5, 2) := by decide +kernel
theorem dX8_notCopied_85 : decode cX8_notCopied 85 = .ok (.aload_n 0, 1) := by decide +kernel
theorem dX8_notCopied_86 : decode cX8_notCopied 86 = .ok (.getfield 34, 3) := by decide +kernel
theorem dX8_notCopied_89 : decode cX8_notCopied 89 = .ok (.iload_n 3, 1) := by decide +kernel
theorem dX8_notCopied_90 : decode cX8_notCopied 90 = .ok (.iaload, 1) := by decide +kernel
theorem dX8_notCopied_91 : decode cX8_notCopied 91 = .ok (.iload 4, 2) := by decide +kernel
theorem dX8_notCopied_93 : decode cX8_notCopied 93 = .ok (.isub, 1) := by decide +kernel
theorem dX8_notCopied_94 : decode cX8_notCopied 94 = .ok (.if_icmp .gt 7, 3) := by decide +kernel
theorem dX8_notCopied_97 : decode cX8_notCopied 97 = .ok (.iconst 1, 1) := by decide +kernel
theorem dX8_notCopied_98 : decode cX8_notCopied 98 = .ok (.goto 4, 3) := by decide +kernel
theorem dX8_notCopied_101 : decode cX8_notCopied 101 = .ok (.iconst 0, 1) := by decide +kernel
theorem dX8_notCopied_102 : decode cX8_notCopied 102 = .ok (.istore 6, 2) := by decide +kernel
theorem dX8_notCopied_104 : decode cX8_notCopied 104 = .ok (.iload 6, 2) := by decide +kernel
theorem dX8_notCopied_106 : decode cX8_notCopied 106 = .ok (.ifCond .eq 7, 3) := by decide +kernel
theorem dX8_notCopied_109 : decode cX8_notCopied 109 = .ok (.iconst 0, 1) := by decide +kernel
theorem dX8_notCopied_110 : decode cX8_notCopied 110 = .ok (.goto 5, 3) := by decide +kernel
theorem dX8_notCopied_113 : decode cX8_notCopied 113 = .ok (.ldc 41, 2) := by decide +kernel
theorem dX8_notCopied_115 : decode cX8_notCopied 115 = .ok (.ireturn, 1) := by decide +kernel
theorem dX8_copy_0 : decode cX8_copy 0 = .ok (.aload_n 0, 1) := by decide +kernel
theorem dX8_copy_1 : decode cX8_copy 1 = .ok (.iload_n 1, 1) := by decide +kernel
theorem dX8_copy_2 : decode cX8_copy 2 = .ok (.iload_n 2, 1) := by decide +kernel
theorem dX8_copy_3 : decode cX8_copy 3 = .ok (.iload_n 3, 1) := by decide +kernel
theorem dX8_copy_4 : decode cX8_copy 4 = .ok (.iload 4, 2) := by decide +kernel
theorem dX8_copy_6 : decode cX8_copy 6 = .ok (.iload 5, 2) := by decide +kernel
theorem dX8_copy_8 : decode cX8_copy 8 = .ok (.invokevirtual 212, 3) := by decide +kernel
theorem dX8_copy_11 : decode cX8_copy 11 = .ok (.istore 6, 2) := by decide +kernel
theorem dX8_copy_13 : decode cX8_copy 13 = .ok (.iload 6, 2) := by decide +kernel
theorem dX8_copy_15 : decode cX8_copy 15 = .ok (.ifCond .eq 10, 3) := by decide +kernel
theorem dX8_copy_18 : decode cX8_copy 18 = .ok (.aload_n 0, 1) := by decide +kernel
theorem dX8_copy_19 : decode cX8_copy 19 = .ok (.iload 6, 2) := by decide +kernel
theorem dX8_copy_21 : decode cX8_copy 21 = .ok (.invokevirtual 43, 3) := by decide +kernel
theorem dX8_copy_24 : decode cX8_copy 24 = .ok (.ireturn, 1) := by decide +kernel
theorem dX8_copy_25 : decode cX8_copy 25 = .ok (.iconst 0, 1) := by decide +kernel
theorem dX8_copy_26 : decode cX8_copy 26 = .ok (.istore 7, 2) := by decide +kernel
theorem dX8_copy_28 : decode cX8_copy 28 = .ok (.iload 7, 2) := by decide +kernel
theorem dX8_copy_30 : decode cX8_copy 30 = .ok (.iload 5, 2) := by decide +kernel
theorem dX8_copy_32 : decode cX8_copy 32 = .ok (.if_icmp .ge 58, 3) := by decide +kernel
theorem dX8_copy_35 : decode cX8_copy 35 = .ok (.iload_n 2, 1) := by decide +kernel
theorem dX8_copy_36 : decode cX8_copy 36 = .ok (.iload 4, 2) := by decide +kernel
theorem dX8_copy_38 : decode cX8_copy 38 = .ok (.if_icmp .ge 13, 3) := by decide +kernel
theorem dX8_copy_41 : decode cX8_copy 41 = .ok (.iload 5, 2) := by decide +kernel
theorem dX8_copy_43 : decode cX8_copy 43 = .ok (.iconst 1, 1) := by decide +kernel
theorem dX8_copy_44 : decode cX8_copy 44 = .ok (.isub, 1) := by decide +kernel
theorem dX8_copy_45 : decode cX8_copy 45 = .ok (.iload 7, 2) := by decide +kernel
theorem dX8_copy_47 : decode cX8_copy 47 = .ok (.isub, 1) := by decide +kernel
theorem dX8_copy_48 : decode cX8_copy 48 = .ok (.goto 5, 3) := by decide +kernel
theorem dX8_copy_51 : decode cX8_copy 51 = .ok (.iload 7, 2) := by decide +kernel
theorem dX8_copy_53 : decode cX8_copy 53 = .ok (.istore 8, 2) := by decide +kernel
theorem dX8_copy_55 : decode cX8_copy 55 = .ok (.aload_n 0, 1) := by decide +kernel
theorem dX8_copy_56 : decode cX8_copy 56 = .ok (.getfield 37, 3) := by decide +kernel
theorem dX8_copy_59 : decode cX8_copy 59 = .ok (.bipush 40, 2) := by decide +kernel
theorem dX8_copy_61 : decode cX8_copy 61 = .ok (.iload_n 3, 1) := by decide +kernel
theorem dX8_copy_62 : decode cX8_copy 62 = .ok (.imul, 1) := by decide +kernel
theorem dX8_copy_63 : decode cX8_copy 63 = .ok (.iload 4, 2) := by decide +kernel
theorem dX8_copy_65 : decode cX8_copy 65 = .ok (.iadd, 1) := by decide +kernel
theorem dX8_copy_66 : decode cX8_copy 66 = .ok (.iload 8, 2) := by decide +kernel
theorem dX8_copy_68 : decode cX8_copy 68 = .ok (.iadd, 1) := by decide +kernel
theorem dX8_copy_69 : decode cX8_copy 69 = .ok (.aload_n 0, 1) := by decide +kernel
theorem dX8_copy_70 : decode cX8_copy 70 = .ok (.getfield 37, 3) := by decide +kernel
theorem dX8_copy_73 : decode cX8_copy 73 = .ok (.bipush 40, 2) := by decide +kernel
theorem dX8_copy_75 : decode cX8_copy 75 = .ok (.iload_n 1, 1) := by decide +kernel
theorem dX8_copy_76 : decode cX8_copy 76 = .ok (.imul, 1) := by decide +kernel
theorem dX8_copy_77 : decode cX8_copy 77 = .ok (.iload_n 2, 1) := by decide +kernel
theorem dX8_copy_78 : decode cX8_copy 78 = .ok (.iadd, 1) := by decide +kernel
theorem dX8_copy_79 : decode cX8_copy 79 = .ok (.iload 8, 2) := by decide +kernel
theorem dX8_copy_81 : decode cX8_copy 81 = .ok (.iadd, 1) := by decide +kernel
theorem dX8_copy_82 : decode cX8_copy 82 = .ok (.laload, 1) := by decide +kernel
theorem dX8_copy_83 : decode cX8_copy 83 = .ok (.lastore, 1) := by decide +kernel
theorem dX8_copy_84 : decode cX8_copy 84 = .ok (.iinc 7 1, 3) := by decide +kernel
theorem dX8_copy_87 : decode cX8_copy 87 = .ok (.goto (-59), 3) := by decide +kernel
theorem dX8_copy_90 : decode cX8_copy 90 = .ok (.iload 5, 2) := by decide +kernel
theorem dX8_copy_92 : decode cX8_copy 92 = .ok (.ireturn, 1) := by decide +kernel
theorem dX8_lays_0 : decode cX8_lays 0 = .ok (.aload_n 0, 1) := by decide +kernel
theorem dX8_lays_1 : decode cX8_lays 1 = .ok (.iload_n 1, 1) := by decide +kernel
theorem dX8_lays_2 : decode cX8_lays 2 = .ok (.invokevirtual 205, 3) := by decide +kernel
theorem dX8_lays_5 : decode cX8_lays 5 = .ok (.istore_n 2, 1) := by decide +kernel
theorem dX8_lays_6 : decode cX8_lays 6 = .ok (.iload_n 2, 1) := by decide +kernel
theorem dX8_lays_7 : decode cX8_lays 7 = .ok (.ifCond .eq 9, 3) := by decide +kernel
theorem dX8_lays_10 : decode cX8_lays 10 = .ok (.aload_n 0, 1) := by decide +kernel
theorem dX8_lays_11 : decode cX8_lays 11 = .ok (.iload_n 2, 1) := by decide +kernel
theorem dX8_lays_12 : decode cX8_lays 12 = .ok (.invokevirtual 43, 3) := by decide +kernel
theorem dX8_lays_15 : decode cX8_lays 15 = .ok (.ireturn, 1) := by decide +kernel
theorem dX8_lays_16 : decode cX8_lays 16 = .ok (.iconst 0, 1) := by decide +kernel
theorem dX8_lays_17 : decode cX8_lays 17 = .ok (.istore_n 3, 1) := by decide +kernel
theorem dX8_lays_18 : decode cX8_lays 18 = .ok (.iconst 0, 1) := by decide +kernel
theorem dX8_lays_19 : decode cX8_lays 19 = .ok (.istore 4, 2) := by decide +kernel
theorem dX8_lays_21 : decode cX8_lays 21 = .ok (.iload 4, 2) := by decide +kernel
theorem dX8_lays_23 : decode cX8_lays 23 = .ok (.aload_n 0, 1) := by decide +kernel
theorem dX8_lays_24 : decode cX8_lays 24 = .ok (.getfield 34, 3) := by decide +kernel
theorem dX8_lays_27 : decode cX8_lays 27 = .ok (.iload_n 1, 1) := by decide +kernel
theorem dX8_lays_28 : decode cX8_lays 28 = .ok (.iaload, 1) := by decide +kernel
theorem dX8_lays_29 : decode cX8_lays 29 = .ok (.if_icmp .ge 62, 3) := by decide +kernel
theorem dX8_lays_32 : decode cX8_lays 32 = .ok (.iload 4, 2) := by decide +kernel
theorem dX8_lays_34 : decode cX8_lays 34 = .ok (.bipush 7, 2) := by decide +kernel
theorem dX8_lays_36 : decode cX8_lays 36 = .ok (.if_icmp .ge 55, 3) := by decide +kernel
theorem dX8_lays_39 : decode cX8_lays 39 = .ok (.aload_n 0, 1) := by decide +kernel
theorem dX8_lays_40 : decode cX8_lays 40 = .ok (.getfield 37, 3) := by decide +kernel
theorem dX8_lays_43 : decode cX8_lays 43 = .ok (.bipush 40, 2) := by decide +kernel
theorem dX8_lays_45 : decode cX8_lays 45 = .ok (.iload_n 1, 1) := by decide +kernel
theorem dX8_lays_46 : decode cX8_lays 46 = .ok (.imul, 1) := by decide +kernel
theorem dX8_lays_47 : decode cX8_lays 47 = .ok (.iload 4, 2) := by decide +kernel
theorem dX8_lays_49 : decode cX8_lays 49 = .ok (.iadd, 1) := by decide +kernel
theorem dX8_lays_50 : decode cX8_lays 50 = .ok (.laload, 1) := by decide +kernel
theorem dX8_lays_51 : decode cX8_lays 51 = .ok (.iconst 0, 1) := by decide +kernel
theorem dX8_lays_52 : decode cX8_lays 52 = .ok (.bipush 8, 2) := by decide +kernel
theorem dX8_lays_54 : decode cX8_lays 54 = .ok (.invokestatic 47, 3) := by decide +kernel
theorem dX8_lays_57 : decode cX8_lays 57 = .ok (.ifCond .eq 28, 3) := by decide +kernel
theorem dX8_lays_60 : decode cX8_lays 60 = .ok (.aload_n 0, 1) := by decide +kernel
theorem dX8_lays_61 : decode cX8_lays 61 = .ok (.getfield 9, 3) := by decide +kernel
theorem dX8_lays_64 : decode cX8_lays 64 = .ok (.iconst 4, 1) := by decide +kernel
theorem dX8_lays_65 : decode cX8_lays 65 = .ok (.iload 4, 2) := by decide +kernel
theorem dX8_lays_67 : decode cX8_lays 67 = .ok (.iadd, 1) := by decide +kernel
theorem dX8_lays_68 : decode cX8_lays 68 = .ok (.aload_n 0, 1) := by decide +kernel
theorem dX8_lays_69 : decode cX8_lays 69 = .ok (.getfield 37, 3) := by decide +kernel
theorem dX8_lays_72 : decode cX8_lays 72 = .ok (.bipush 40, 2) := by decide +kernel
theorem dX8_lays_74 : decode cX8_lays 74 = .ok (.iload_n 1, 1) := by decide +kernel
theorem dX8_lays_75 : decode cX8_lays 75 = .ok (.imul, 1) := by decide +kernel
theorem dX8_lays_76 : decode cX8_lays 76 = .ok (.iload 4, 2) := by decide +kernel
theorem dX8_lays_78 : decode cX8_lays 78 = .ok (.iadd, 1) := by decide +kernel
theorem dX8_lays_79 : decode cX8_lays 79 = .ok (.laload, 1) := by decide +kernel
theorem dX8_lays_80 : decode cX8_lays 80 = .ok (.l2i, 1) := by decide +kernel
theorem dX8_lays_81 : decode cX8_lays 81 = .ok (.iastore, 1) := by decide +kernel
theorem dX8_lays_82 : decode cX8_lays 82 = .ok (.iinc 3 1, 3) := by decide +kernel
theorem dX8_lays_85 : decode cX8_lays 85 = .ok (.iinc 4 1, 3) := by decide +kernel
theorem dX8_lays_88 : decode cX8_lays 88 = .ok (.goto (-67), 3) := by decide +kernel
theorem dX8_lays_91 : decode cX8_lays 91 = .ok (.iload_n 3, 1) := by decide +kernel
theorem dX8_lays_92 : decode cX8_lays 92 = .ok (.ireturn, 1) := by decide +kernel
theorem dX8_notAsked_0 : decode cX8_notAsked 0 = .ok (.aload_n 0, 1) := by decide +kernel
theorem dX8_notAsked_1 : decode cX8_notAsked 1 = .ok (.iload_n 1, 1) := by decide +kernel
theorem dX8_notAsked_2 : decode cX8_notAsked 2 = .ok (.invokevirtual 205, 3) := by decide +kernel
theorem dX8_notAsked_5 : decode cX8_notAsked 5 = .ok (.istore_n 3, 1) := by decide +kernel
theorem dX8_notAsked_6 : decode cX8_notAsked 6 = .ok (.iload_n 3, 1) := by decide +kernel
theorem dX8_notAsked_7 : decode cX8_notAsked 7 = .ok (.ifCond .ne 16, 3) := by decide +kernel
theorem dX8_notAsked_10 : decode cX8_notAsked 10 = .ok (.aload_n 0, 1) := by decide +kernel
theorem dX8_notAsked_11 : decode cX8_notAsked 11 = .ok (.iload_n 2, 1) := by decide +kernel
theorem dX8_notAsked_12 : decode cX8_notAsked 12 = .ok (.invokevirtual 97, 3) := by decide +kernel
theorem dX8_notAsked_15 : decode cX8_notAsked 15 = .ok (.ifCond .ne 8, 3) := by decide +kernel
theorem dX8_notAsked_18 : decode cX8_notAsked 18 = .ok (.ldc 41, 2) := by decide +kernel
theorem dX8_notAsked_20 : decode cX8_notAsked 20 = .ok (.goto 4, 3) := by decide +kernel
theorem dX8_notAsked_23 : decode cX8_notAsked 23 = .ok (.iload_n 3, 1) := by decide +kernel
theorem dX8_notAsked_24 : decode cX8_notAsked 24 = .ok (.ireturn, 1) := by decide +kernel
theorem dX8_book_0 : decode cX8_book 0 = .ok (.aload_n 0, 1) := by decide +kernel
theorem dX8_book_1 : decode cX8_book 1 = .ok (.iload_n 1, 1) := by decide +kernel
theorem dX8_book_2 : decode cX8_book 2 = .ok (.iload_n 2, 1) := by decide +kernel
theorem dX8_book_3 : decode cX8_book 3 = .ok (.invokevirtual 216, 3) := by decide +kernel
theorem dX8_book_6 : decode cX8_book 6 = .ok (.istore_n 3, 1) := by decide +kernel
theorem dX8_book_7 : decode cX8_book 7 = .ok (.iload_n 3, 1) := by decide +kernel
theorem dX8_book_8 : decode cX8_book 8 = .ok (.ifCond .eq 9, 3) := by decide +kernel
theorem dX8_book_11 : decode cX8_book 11 = .ok (.aload_n 0, 1) := by decide +kernel
theorem dX8_book_12 : decode cX8_book 12 = .ok (.iload_n 3, 1) := by decide +kernel
theorem dX8_book_13 : decode cX8_book 13 = .ok (.invokevirtual 43, 3) := by decide +kernel
theorem dX8_book_16 : decode cX8_book 16 = .ok (.ireturn, 1) := by decide +kernel
theorem dX8_book_17 : decode cX8_book 17 = .ok (.aload_n 0, 1) := by decide +kernel
theorem dX8_book_18 : decode cX8_book 18 = .ok (.invokevirtual 124, 3) := by decide +kernel
theorem dX8_book_21 : decode cX8_book 21 = .ok (.iconst 0, 1) := by decide +kernel
theorem dX8_book_22 : decode cX8_book 22 = .ok (.istore 4, 2) := by decide +kernel
theorem dX8_book_24 : decode cX8_book 24 = .ok (.iload 4, 2) := by decide +kernel
theorem dX8_book_26 : decode cX8_book 26 = .ok (.aload_n 0, 1) := by decide +kernel
theorem dX8_book_27 : decode cX8_book 27 = .ok (.getfield 34, 3) := by decide +kernel
theorem dX8_book_30 : decode cX8_book 30 = .ok (.iload_n 1, 1) := by decide +kernel
theorem dX8_book_31 : decode cX8_book 31 = .ok (.iaload, 1) := by decide +kernel
theorem dX8_book_32 : decode cX8_book 32 = .ok (.if_icmp .ge 41, 3) := by decide +kernel
theorem dX8_book_35 : decode cX8_book 35 = .ok (.aload_n 0, 1) := by decide +kernel
theorem dX8_book_36 : decode cX8_book 36 = .ok (.getfield 37, 3) := by decide +kernel
theorem dX8_book_39 : decode cX8_book 39 = .ok (.bipush 40, 2) := by decide +kernel
theorem dX8_book_41 : decode cX8_book 41 = .ok (.iload_n 1, 1) := by decide +kernel
theorem dX8_book_42 : decode cX8_book 42 = .ok (.imul, 1) := by decide +kernel
theorem dX8_book_43 : decode cX8_book 43 = .ok (.iload 4, 2) := by decide +kernel
theorem dX8_book_45 : decode cX8_book 45 = .ok (.iadd, 1) := by decide +kernel
theorem dX8_book_46 : decode cX8_book 46 = .ok (.aload_n 0, 1) := by decide +kernel
theorem dX8_book_47 : decode cX8_book 47 = .ok (.getfield 31, 3) := by decide +kernel
theorem dX8_book_50 : decode cX8_book 50 = .ok (.iload_n 1, 1) := by decide +kernel
theorem dX8_book_51 : decode cX8_book 51 = .ok (.iaload, 1) := by decide +kernel
theorem dX8_book_52 : decode cX8_book 52 = .ok (.aload_n 0, 1) := by decide +kernel
theorem dX8_book_53 : decode cX8_book 53 = .ok (.iload_n 2, 1) := by decide +kernel
theorem dX8_book_54 : decode cX8_book 54 = .ok (.iconst 3, 1) := by decide +kernel
theorem dX8_book_55 : decode cX8_book 55 = .ok (.invokevirtual 75, 3) := by decide +kernel
theorem dX8_book_58 : decode cX8_book 58 = .ok (.i2l, 1) := by decide +kernel
theorem dX8_book_59 : decode cX8_book 59 = .ok (.invokestatic 208, 3) := by decide +kernel
theorem dX8_book_62 : decode cX8_book 62 = .ok (.lastore, 1) := by decide +kernel
theorem dX8_book_63 : decode cX8_book 63 = .ok (.aload_n 0, 1) := by decide +kernel
theorem dX8_book_64 : decode cX8_book 64 = .ok (.invokevirtual 113, 3) := by decide +kernel
theorem dX8_book_67 : decode cX8_book 67 = .ok (.iinc 4 1, 3) := by decide +kernel
theorem dX8_book_70 : decode cX8_book 70 = .ok (.goto (-46), 3) := by decide +kernel
theorem dX8_book_73 : decode cX8_book 73 = .ok (.aload_n 0, 1) := by decide +kernel
theorem dX8_book_74 : decode cX8_book 74 = .ok (.invokevirtual 127, 3) := by decide +kernel
theorem dX8_book_77 : decode cX8_book 77 = .ok (.aload_n 0, 1) := by decide +kernel
theorem dX8_book_78 : decode cX8_book 78 = .ok (.getfield 34, 3) := by decide +kernel
theorem dX8_book_81 : decode cX8_book 81 = .ok (.iload_n 1, 1) := by decide +kernel
theorem dX8_book_82 : decode cX8_book 82 = .ok (.iaload, 1) := by decide +kernel
theorem dX8_book_83 : decode cX8_book 83 = .ok (.ireturn, 1) := by decide +kernel
theorem dX8_isBook_0 : decode cX8_isBook 0 = .ok (.iconst 1, 1) := by decide +kernel
theorem dX8_isBook_1 : decode cX8_isBook 1 = .ok (.istore_n 3, 1) := by decide +kernel
theorem dX8_isBook_2 : decode cX8_isBook 2 = .ok (.iconst 0, 1) := by decide +kernel
theorem dX8_isBook_3 : decode cX8_isBook 3 = .ok (.istore 4, 2) := by decide +kernel
theorem dX8_isBook_5 : decode cX8_isBook 5 = .ok (.iload 4, 2) := by decide +kernel
theorem dX8_isBook_7 : decode cX8_isBook 7 = .ok (.aload_n 0, 1) := by decide +kernel
theorem dX8_isBook_8 : decode cX8_isBook 8 = .ok (.getfield 34, 3) := by decide +kernel
theorem dX8_isBook_11 : decode cX8_isBook 11 = .ok (.iload_n 1, 1) := by decide +kernel
theorem dX8_isBook_12 : decode cX8_isBook 12 = .ok (.iaload, 1) := by decide +kernel
theorem dX8_isBook_13 : decode cX8_isBook 13 = .ok (.if_icmp .ge 46, 3) := by decide +kernel
theorem dX8_isBook_16 : decode cX8_isBook 16 = .ok (.iload_n 3, 1) := by decide +kernel
theorem dX8_isBook_17 : decode cX8_isBook 17 = .ok (.ifCond .eq 42, 3) := by decide +kernel
theorem dX8_isBook_20 : decode cX8_isBook 20 = .ok (.aload_n 0, 1) := by decide +kernel
theorem dX8_isBook_21 : decode cX8_isBook 21 = .ok (.getfield 37, 3) := by decide +kernel
theorem dX8_isBook_24 : decode cX8_isBook 24 = .ok (.bipush 40, 2) := by decide +kernel
theorem dX8_isBook_26 : decode cX8_isBook 26 = .ok (.iload_n 1, 1) := by decide +kernel
theorem dX8_isBook_27 : decode cX8_isBook 27 = .ok (.imul, 1) := by decide +kernel
theorem dX8_isBook_28 : decode cX8_isBook 28 = .ok (.iload 4, 2) := by decide +kernel
theorem dX8_isBook_30 : decode cX8_isBook 30 = .ok (.iadd, 1) := by decide +kernel
theorem dX8_isBook_31 : decode cX8_isBook 31 = .ok (.laload, 1) := by decide +kernel
theorem dX8_isBook_32 : decode cX8_isBook 32 = .ok (.aload_n 0, 1) := by decide +kernel
theorem dX8_isBook_33 : decode cX8_isBook 33 = .ok (.iload_n 2, 1) := by decide +kernel
theorem dX8_isBook_34 : decode cX8_isBook 34 = .ok (.iconst 3, 1) := by decide +kernel
theorem dX8_isBook_35 : decode cX8_isBook 35 = .ok (.invokevirtual 75, 3) := by decide +kernel
theorem dX8_isBook_38 : decode cX8_isBook 38 = .ok (.i2l, 1) := by decide +kernel
theorem dX8_isBook_39 : decode cX8_isBook 39 = .ok (.lcmp, 1) := by decide +kernel
theorem dX8_isBook_40 : decode cX8_isBook 40 = .ok (.ifCond .ne 7, 3) := by decide +kernel
theorem dX8_isBook_43 : decode cX8_isBook 43 = .ok (.iconst 1, 1) := by decide +kernel
theorem dX8_isBook_44 : decode cX8_isBook 44 = .ok (.goto 4, 3) := by decide +kernel
theorem dX8_isBook_47 : decode cX8_isBook 47 = .ok (.iconst 0, 1) := by decide +kernel
theorem dX8_isBook_48 : decode cX8_isBook 48 = .ok (.istore_n 3, 1) := by decide +kernel
theorem dX8_isBook_49 : decode cX8_isBook 49 = .ok (.aload_n 0, 1) := by decide +kernel
theorem dX8_isBook_50 : decode cX8_isBook 50 = .ok (.invokevirtual 113, 3) := by decide +kernel
theorem dX8_isBook_53 : decode cX8_isBook 53 = .ok (.iinc 4 1, 3) := by decide +kernel
theorem dX8_isBook_56 : decode cX8_isBook 56 = .ok (.goto (-51), 3) := by decide +kernel
theorem dX8_isBook_59 : decode cX8_isBook 59 = .ok (.aload_n 0, 1) := by decide +kernel
theorem dX8_isBook_60 : decode cX8_isBook 60 = .ok (.invokevirtual 127, 3) := by decide +kernel
theorem dX8_isBook_63 : decode cX8_isBook 63 = .ok (.iload_n 3, 1) := by decide +kernel
theorem dX8_isBook_64 : decode cX8_isBook 64 = .ok (.ireturn, 1) := by decide +kernel
theorem dX8_read_0 : decode cX8_read 0 = .ok (.aload_n 0, 1) := by decide +kernel
theorem dX8_read_1 : decode cX8_read 1 = .ok (.iload_n 1, 1) := by decide +kernel
theorem dX8_read_2 : decode cX8_read 2 = .ok (.iload_n 2, 1) := by decide +kernel
theorem dX8_read_3 : decode cX8_read 3 = .ok (.invokevirtual 216, 3) := by decide +kernel
theorem dX8_read_6 : decode cX8_read 6 = .ok (.istore_n 3, 1) := by decide +kernel
theorem dX8_read_7 : decode cX8_read 7 = .ok (.iload_n 3, 1) := by decide +kernel
theorem dX8_read_8 : decode cX8_read 8 = .ok (.ifCond .eq 9, 3) := by decide +kernel
theorem dX8_read_11 : decode cX8_read 11 = .ok (.aload_n 0, 1) := by decide +kernel
theorem dX8_read_12 : decode cX8_read 12 = .ok (.iload_n 3, 1) := by decide +kernel
theorem dX8_read_13 : decode cX8_read 13 = .ok (.invokevirtual 43, 3) := by decide +kernel
theorem dX8_read_16 : decode cX8_read 16 = .ok (.ireturn, 1) := by decide +kernel
theorem dX8_read_17 : decode cX8_read 17 = .ok (.aload_n 0, 1) := by decide +kernel
theorem dX8_read_18 : decode cX8_read 18 = .ok (.invokevirtual 124, 3) := by decide +kernel
theorem dX8_read_21 : decode cX8_read 21 = .ok (.iconst 0, 1) := by decide +kernel
theorem dX8_read_22 : decode cX8_read 22 = .ok (.istore 4, 2) := by decide +kernel
theorem dX8_read_24 : decode cX8_read 24 = .ok (.iconst 0, 1) := by decide +kernel
theorem dX8_read_25 : decode cX8_read 25 = .ok (.istore 5, 2) := by decide +kernel
theorem dX8_read_27 : decode cX8_read 27 = .ok (.iload 5, 2) := by decide +kernel
theorem dX8_read_29 : decode cX8_read 29 = .ok (.bipush 48, 2) := by decide +kernel
theorem dX8_read_31 : decode cX8_read 31 = .ok (.if_icmp .ge 50, 3) := by decide +kernel
theorem dX8_read_34 : decode cX8_read 34 = .ok (.aload_n 0, 1) := by decide +kernel
theorem dX8_read_35 : decode cX8_read 35 = .ok (.iload_n 2, 1) := by decide +kernel
theorem dX8_read_36 : decode cX8_read 36 = .ok (.iconst 0, 1) := by decide +kernel
theorem dX8_read_37 : decode cX8_read 37 = .ok (.iload 5, 2) := by decide +kernel
theorem dX8_read_39 : decode cX8_read 39 = .ok (.bipush 8, 2) := by decide +kernel
theorem dX8_read_41 : decode cX8_read 41 = .ok (.idiv, 1) := by decide +kernel
theorem dX8_read_42 : decode cX8_read 42 = .ok (.invokevirtual 89, 3) := by decide +kernel
theorem dX8_read_45 : decode cX8_read 45 = .ok (.aload_n 0, 1) := by decide +kernel
theorem dX8_read_46 : decode cX8_read 46 = .ok (.iload_n 2, 1) := by decide +kernel
theorem dX8_read_47 : decode cX8_read 47 = .ok (.iconst 2, 1) := by decide +kernel
theorem dX8_read_48 : decode cX8_read 48 = .ok (.iload 5, 2) := by decide +kernel
theorem dX8_read_50 : decode cX8_read 50 = .ok (.bipush 8, 2) := by decide +kernel
theorem dX8_read_52 : decode cX8_read 52 = .ok (.irem, 1) := by decide +kernel
theorem dX8_read_53 : decode cX8_read 53 = .ok (.invokevirtual 89, 3) := by decide +kernel
theorem dX8_read_56 : decode cX8_read 56 = .ok (.iload 4, 2) := by decide +kernel
theorem dX8_read_58 : decode cX8_read 58 = .ok (.aload_n 0, 1) := by decide +kernel
theorem dX8_read_59 : decode cX8_read 59 = .ok (.iload_n 1, 1) := by decide +kernel
theorem dX8_read_60 : decode cX8_read 60 = .ok (.iload_n 2, 1) := by decide +kernel
theorem dX8_read_61 : decode cX8_read 61 = .ok (.invokevirtual 219, 3) := by decide +kernel
theorem dX8_read_64 : decode cX8_read 64 = .ok (.ifCond .eq 7, 3) := by decide +kernel
theorem dX8_read_67 : decode cX8_read 67 = .ok (.iconst 1, 1) := by decide +kernel
theorem dX8_read_68 : decode cX8_read 68 = .ok (.goto 4, 3) := by decide +kernel
theorem dX8_read_71 : decode cX8_read 71 = .ok (.iconst 0, 1) := by decide +kernel
theorem dX8_read_72 : decode cX8_read 72 = .ok (.iadd, 1) := by decide +kernel
theorem dX8_read_73 : decode cX8_read 73 = .ok (.istore 4, 2) := by decide +kernel
theorem dX8_read_75 : decode cX8_read 75 = .ok (.iinc 5 1, 3) := by decide +kernel
theorem dX8_read_78 : decode cX8_read 78 = .ok (.goto (-51), 3) := by decide +kernel
theorem dX8_read_81 : decode cX8_read 81 = .ok (.iload 4, 2) := by decide +kernel
theorem dX8_read_83 : decode cX8_read 83 = .ok (.ireturn, 1) := by decide +kernel
theorem dX8_image_0 : decode cX8_image 0 = .ok (.aload_n 0, 1) := by decide +kernel
theorem dX8_image_1 : decode cX8_image 1 = .ok (.getfield 9, 3) := by decide +kernel
theorem dX8_image_4 : decode cX8_image 4 = .ok (.aload_n 0, 1) := by decide +kernel
theorem dX8_image_5 : decode cX8_image 5 = .ok (.getfield 13, 3) := by decide +kernel
theorem dX8_image_8 : decode cX8_image 8 = .ok (.invokestatic 120, 3) := by decide +kernel
theorem dX8_image_11 : decode cX8_image 11 = .ok (.aload_n 0, 1) := by decide +kernel
theorem dX8_image_12 : decode cX8_image 12 = .ok (.iconst 1, 1) := by decide +kernel
theorem dX8_image_13 : decode cX8_image 13 = .ok (.putfield 222, 3) := by decide +kernel
theorem dX8_image_16 : decode cX8_image 16 = .ok (.iconst 1, 1) := by decide +kernel
theorem dX8_image_17 : decode cX8_image 17 = .ok (.ireturn, 1) := by decide +kernel
theorem dX8_undo_0 : decode cX8_undo 0 = .ok (.aload_n 0, 1) := by decide +kernel
theorem dX8_undo_1 : decode cX8_undo 1 = .ok (.getfield 222, 3) := by decide +kernel
theorem dX8_undo_4 : decode cX8_undo 4 = .ok (.ifCond .ne 10, 3) := by decide +kernel
theorem dX8_undo_7 : decode cX8_undo 7 = .ok (.aload_n 0, 1) := by decide +kernel
theorem dX8_undo_8 : decode cX8_undo 8 = .ok (.ldc 42, 2) := by decide +kernel
theorem dX8_undo_10 : decode cX8_undo 10 = .ok (.invokevirtual 43, 3) := by decide +kernel
theorem dX8_undo_13 : decode cX8_undo 13 = .ok (.ireturn, 1) := by decide +kernel
theorem dX8_undo_14 : decode cX8_undo 14 = .ok (.aload_n 0, 1) := by decide +kernel
theorem dX8_undo_15 : decode cX8_undo 15 = .ok (.getfield 13, 3) := by decide +kernel
theorem dX8_undo_18 : decode cX8_undo 18 = .ok (.aload_n 0, 1) := by decide +kernel
theorem dX8_undo_19 : decode cX8_undo 19 = .ok (.getfield 9, 3) := by decide +kernel
theorem dX8_undo_22 : decode cX8_undo 22 = .ok (.invokestatic 120, 3) := by decide +kernel
theorem dX8_undo_25 : decode cX8_undo 25 = .ok (.aload_n 0, 1) := by decide +kernel
theorem dX8_undo_26 : decode cX8_undo 26 = .ok (.getfield 9, 3) := by decide +kernel
theorem dX8_undo_29 : decode cX8_undo 29 = .ok (.iconst 3, 1) := by decide +kernel
theorem dX8_undo_30 : decode cX8_undo 30 = .ok (.iaload, 1) := by decide +kernel
theorem dX8_undo_31 : decode cX8_undo 31 = .ok (.ireturn, 1) := by decide +kernel
theorem dX8_tear_0 : decode cX8_tear 0 = .ok (.aload_n 0, 1) := by decide +kernel
theorem dX8_tear_1 : decode cX8_tear 1 = .ok (.getfield 222, 3) := by decide +kernel
theorem dX8_tear_4 : decode cX8_tear 4 = .ok (.ifCond .eq 7, 3) := by decide +kernel
theorem dX8_tear_7 : decode cX8_tear 7 = .ok (.iconst 1, 1) := by decide +kernel
theorem dX8_tear_8 : decode cX8_tear 8 = .ok (.goto 4, 3) := by decide +kernel
theorem dX8_tear_11 : decode cX8_tear 11 = .ok (.iconst 0, 1) := by decide +kernel
theorem dX8_tear_12 : decode cX8_tear 12 = .ok (.istore_n 1, 1) := by decide +kernel
theorem dX8_tear_13 : decode cX8_tear 13 = .ok (.aload_n 0, 1) := by decide +kernel
theorem dX8_tear_14 : decode cX8_tear 14 = .ok (.iconst 0, 1) := by decide +kernel
theorem dX8_tear_15 : decode cX8_tear 15 = .ok (.putfield 222, 3) := by decide +kernel
theorem dX8_tear_18 : decode cX8_tear 18 = .ok (.iload_n 1, 1) := by decide +kernel
theorem dX8_tear_19 : decode cX8_tear 19 = .ok (.ireturn, 1) := by decide +kernel
theorem dX8_sickOnes_0 : decode cX8_sickOnes 0 = .ok (.iconst 0, 1) := by decide +kernel
theorem dX8_sickOnes_1 : decode cX8_sickOnes 1 = .ok (.istore_n 1, 1) := by decide +kernel
theorem dX8_sickOnes_2 : decode cX8_sickOnes 2 = .ok (.iconst 0, 1) := by decide +kernel
theorem dX8_sickOnes_3 : decode cX8_sickOnes 3 = .ok (.istore_n 2, 1) := by decide +kernel
theorem dX8_sickOnes_4 : decode cX8_sickOnes 4 = .ok (.iload_n 2, 1) := by decide +kernel
theorem dX8_sickOnes_5 : decode cX8_sickOnes 5 = .ok (.bipush 8, 2) := by decide +kernel
theorem dX8_sickOnes_7 : decode cX8_sickOnes 7 = .ok (.if_icmp .ge 22, 3) := by decide +kernel
theorem dX8_sickOnes_10 : decode cX8_sickOnes 10 = .ok (.iload_n 1, 1) := by decide +kernel
theorem dX8_sickOnes_11 : decode cX8_sickOnes 11 = .ok (.aload_n 0, 1) := by decide +kernel
theorem dX8_sickOnes_12 : decode cX8_sickOnes 12 = .ok (.getfield 9, 3) := by decide +kernel
theorem dX8_sickOnes_15 : decode cX8_sickOnes 15 = .ok (.iconst 2, 1) := by decide +kernel
theorem dX8_sickOnes_16 : decode cX8_sickOnes 16 = .ok (.iaload, 1) := by decide +kernel
theorem dX8_sickOnes_17 : decode cX8_sickOnes 17 = .ok (.iload_n 2, 1) := by decide +kernel
theorem dX8_sickOnes_18 : decode cX8_sickOnes 18 = .ok (.ishr, 1) := by decide +kernel
theorem dX8_sickOnes_19 : decode cX8_sickOnes 19 = .ok (.iconst 1, 1) := by decide +kernel
theorem dX8_sickOnes_20 : decode cX8_sickOnes 20 = .ok (.iand, 1) := by decide +kernel
theorem dX8_sickOnes_21 : decode cX8_sickOnes 21 = .ok (.iadd, 1) := by decide +kernel
theorem dX8_sickOnes_22 : decode cX8_sickOnes 22 = .ok (.istore_n 1, 1) := by decide +kernel
theorem dX8_sickOnes_23 : decode cX8_sickOnes 23 = .ok (.iinc 2 1, 3) := by decide +kernel
theorem dX8_sickOnes_26 : decode cX8_sickOnes 26 = .ok (.goto (-22), 3) := by decide +kernel
theorem dX8_sickOnes_29 : decode cX8_sickOnes 29 = .ok (.iload_n 1, 1) := by decide +kernel
theorem dX8_sickOnes_30 : decode cX8_sickOnes 30 = .ok (.ireturn, 1) := by decide +kernel
theorem dX8_calms_0 : decode cX8_calms 0 = .ok (.iconst 0, 1) := by decide +kernel
theorem dX8_calms_1 : decode cX8_calms 1 = .ok (.istore_n 1, 1) := by decide +kernel
theorem dX8_calms_2 : decode cX8_calms 2 = .ok (.iconst 0, 1) := by decide +kernel
theorem dX8_calms_3 : decode cX8_calms 3 = .ok (.istore_n 2, 1) := by decide +kernel
theorem dX8_calms_4 : decode cX8_calms 4 = .ok (.iload_n 2, 1) := by decide +kernel
theorem dX8_calms_5 : decode cX8_calms 5 = .ok (.bipush 7, 2) := by decide +kernel
theorem dX8_calms_7 : decode cX8_calms 7 = .ok (.if_icmp .ge 30, 3) := by decide +kernel
theorem dX8_calms_10 : decode cX8_calms 10 = .ok (.iload_n 1, 1) := by decide +kernel
theorem dX8_calms_11 : decode cX8_calms 11 = .ok (.aload_n 0, 1) := by decide +kernel
theorem dX8_calms_12 : decode cX8_calms 12 = .ok (.getfield 9, 3) := by decide +kernel
theorem dX8_calms_15 : decode cX8_calms 15 = .ok (.iconst 4, 1) := by decide +kernel
theorem dX8_calms_16 : decode cX8_calms 16 = .ok (.iload_n 2, 1) := by decide +kernel
theorem dX8_calms_17 : decode cX8_calms 17 = .ok (.iadd, 1) := by decide +kernel
theorem dX8_calms_18 : decode cX8_calms 18 = .ok (.iaload, 1) := by decide +kernel
theorem dX8_calms_19 : decode cX8_calms 19 = .ok (.bipush 8, 2) := by decide +kernel
theorem dX8_calms_21 : decode cX8_calms 21 = .ok (.if_icmp .ne 7, 3) := by decide +kernel
theorem dX8_calms_24 : decode cX8_calms 24 = .ok (.iconst 1, 1) := by decide +kernel
theorem dX8_calms_25 : decode cX8_calms 25 = .ok (.goto 4, 3) := by decide +kernel
theorem dX8_calms_28 : decode cX8_calms 28 = .ok (.iconst 0, 1) := by decide +kernel
theorem dX8_calms_29 : decode cX8_calms 29 = .ok (.iadd, 1) := by decide +kernel
theorem dX8_calms_30 : decode cX8_calms 30 = .ok (.istore_n 1, 1) := by decide +kernel
theorem dX8_calms_31 : decode cX8_calms 31 = .ok (.iinc 2 1, 3) := by decide +kernel
theorem dX8_calms_34 : decode cX8_calms 34 = .ok (.goto (-30), 3) := by decide +kernel
theorem dX8_calms_37 : decode cX8_calms 37 = .ok (.iload_n 1, 1) := by decide +kernel
theorem dX8_calms_38 : decode cX8_calms 38 = .ok (.ireturn, 1) := by decide +kernel
theorem dX8_count_0 : decode cX8_count 0 = .ok (.iload_n 1, 1) := by decide +kernel
theorem dX8_count_1 : decode cX8_count 1 = .ok (.tableswitch 53 0 3 #[31, 38, 43, 48], 31) := by decide +kernel
theorem dX8_count_32 : decode cX8_count 32 = .ok (.aload_n 0, 1) := by decide +kernel
theorem dX8_count_33 : decode cX8_count 33 = .ok (.getfield 9, 3) := by decide +kernel
theorem dX8_count_36 : decode cX8_count 36 = .ok (.iconst 3, 1) := by decide +kernel
theorem dX8_count_37 : decode cX8_count 37 = .ok (.iaload, 1) := by decide +kernel
theorem dX8_count_38 : decode cX8_count 38 = .ok (.ireturn, 1) := by decide +kernel
theorem dX8_count_39 : decode cX8_count 39 = .ok (.aload_n 0, 1) := by decide +kernel
theorem dX8_count_40 : decode cX8_count 40 = .ok (.getfield 145, 3) := by decide +kernel
theorem dX8_count_43 : decode cX8_count 43 = .ok (.ireturn, 1) := by decide +kernel
theorem dX8_count_44 : decode cX8_count 44 = .ok (.aload_n 0, 1) := by decide +kernel
theorem dX8_count_45 : decode cX8_count 45 = .ok (.invokevirtual 225, 3) := by decide +kernel
theorem dX8_count_48 : decode cX8_count 48 = .ok (.ireturn, 1) := by decide +kernel
theorem dX8_count_49 : decode cX8_count 49 = .ok (.aload_n 0, 1) := by decide +kernel
theorem dX8_count_50 : decode cX8_count 50 = .ok (.invokevirtual 228, 3) := by decide +kernel
theorem dX8_count_53 : decode cX8_count 53 = .ok (.ireturn, 1) := by decide +kernel
theorem dX8_count_54 : decode cX8_count 54 = .ok (.aload_n 0, 1) := by decide +kernel
theorem dX8_count_55 : decode cX8_count 55 = .ok (.ldc 41, 2) := by decide +kernel
theorem dX8_count_57 : decode cX8_count 57 = .ok (.invokevirtual 43, 3) := by decide +kernel
theorem dX8_count_60 : decode cX8_count 60 = .ok (.ireturn, 1) := by decide +kernel
theorem dX8_status_0 : decode cX8_status 0 = .ok (.iload_n 1, 1) := by decide +kernel
theorem dX8_status_1 : decode cX8_status 1 = .ok (.i2l, 1) := by decide +kernel
theorem dX8_status_2 : decode cX8_status 2 = .ok (.iconst (-1), 1) := by decide +kernel
theorem dX8_status_3 : decode cX8_status 3 = .ok (.bipush 6, 2) := by decide +kernel
theorem dX8_status_5 : decode cX8_status 5 = .ok (.invokestatic 47, 3) := by decide +kernel
theorem dX8_status_8 : decode cX8_status 8 = .ok (.ifCond .ne 10, 3) := by decide +kernel
theorem dX8_status_11 : decode cX8_status 11 = .ok (.aload_n 0, 1) := by decide +kernel
theorem dX8_status_12 : decode cX8_status 12 = .ok (.ldc 41, 2) := by decide +kernel
theorem dX8_status_14 : decode cX8_status 14 = .ok (.invokevirtual 43, 3) := by decide +kernel
theorem dX8_status_17 : decode cX8_status 17 = .ok (.ireturn, 1) := by decide +kernel
theorem dX8_status_18 : decode cX8_status 18 = .ok (.iconst 0, 1) := by decide +kernel
theorem dX8_status_19 : decode cX8_status 19 = .ok (.istore_n 2, 1) := by decide +kernel
theorem dX8_status_20 : decode cX8_status 20 = .ok (.iconst 0, 1) := by decide +kernel
theorem dX8_status_21 : decode cX8_status 21 = .ok (.istore_n 3, 1) := by decide +kernel
theorem dX8_status_22 : decode cX8_status 22 = .ok (.iload_n 3, 1) := by decide +kernel
theorem dX8_status_23 : decode cX8_status 23 = .ok (.bipush 7, 2) := by decide +kernel
theorem dX8_status_25 : decode cX8_status 25 = .ok (.if_icmp .ge 31, 3) := by decide +kernel
theorem dX8_status_28 : decode cX8_status 28 = .ok (.iload_n 2, 1) := by decide +kernel
theorem dX8_status_29 : decode cX8_status 29 = .ok (.iload_n 1, 1) := by decide +kernel
theorem dX8_status_30 : decode cX8_status 30 = .ok (.ifCond .lt 8, 3) := by decide +kernel
theorem dX8_status_33 : decode cX8_status 33 = .ok (.iload_n 1, 1) := by decide +kernel
theorem dX8_status_34 : decode cX8_status 34 = .ok (.iload_n 3, 1) := by decide +kernel
theorem dX8_status_35 : decode cX8_status 35 = .ok (.if_icmp .ne 12, 3) := by decide +kernel
theorem dX8_status_38 : decode cX8_status 38 = .ok (.aload_n 0, 1) := by decide +kernel
theorem dX8_status_39 : decode cX8_status 39 = .ok (.getfield 19, 3) := by decide +kernel
theorem dX8_status_42 : decode cX8_status 42 = .ok (.iload_n 3, 1) := by decide +kernel
theorem dX8_status_43 : decode cX8_status 43 = .ok (.iaload, 1) := by decide +kernel
theorem dX8_status_44 : decode cX8_status 44 = .ok (.goto 4, 3) := by decide +kernel
end
section
theorem dX8_status_47 : decode cX8_status 47 = .ok (.iconst 0, 1) := by decide +kernel
theorem dX8_status_48 : decode cX8_status 48 = .ok (.iadd, 1) := by decide +kernel
theorem dX8_status_49 : decode cX8_status 49 = .ok (.istore_n 2, 1) := by decide +kernel
theorem dX8_status_50 : decode cX8_status 50 = .ok (.iinc 3 1, 3) := by decide +kernel
theorem dX8_status_53 : decode cX8_status 53 = .ok (.goto (-31), 3) := by decide +kernel
theorem dX8_status_56 : decode cX8_status 56 = .ok (.iload_n 2, 1) := by decide +kernel
theorem dX8_status_57 : decode cX8_status 57 = .ok (.ireturn, 1) := by decide +kernel
theorem dJ6_bitCount_0f7a4_0 : decode cJ6_bitCount_0f7a4 0 = .ok (.iload_n 0, 1) := by decide +kernel
theorem dJ6_bitCount_0f7a4_1 : decode cJ6_bitCount_0f7a4 1 = .ok (.iload_n 0, 1) := by decide +kernel
theorem dJ6_bitCount_0f7a4_2 : decode cJ6_bitCount_0f7a4 2 = .ok (.iconst 1, 1) := by decide +kernel
theorem dJ6_bitCount_0f7a4_3 : decode cJ6_bitCount_0f7a4 3 = .ok (.iushr, 1) := by decide +kernel
theorem dJ6_bitCount_0f7a4_4 : decode cJ6_bitCount_0f7a4 4 = .ok (.ldc_w 265, 3) := by decide +kernel
theorem dJ6_bitCount_0f7a4_7 : decode cJ6_bitCount_0f7a4 7 = .ok (.iand, 1) := by decide +kernel
theorem dJ6_bitCount_0f7a4_8 : decode cJ6_bitCount_0f7a4 8 = .ok (.isub, 1) := by decide +kernel
theorem dJ6_bitCount_0f7a4_9 : decode cJ6_bitCount_0f7a4 9 = .ok (.istore_n 0, 1) := by decide +kernel
theorem dJ6_bitCount_0f7a4_10 : decode cJ6_bitCount_0f7a4 10 = .ok (.iload_n 0, 1) := by decide +kernel
theorem dJ6_bitCount_0f7a4_11 : decode cJ6_bitCount_0f7a4 11 = .ok (.ldc_w 266, 3) := by decide +kernel
theorem dJ6_bitCount_0f7a4_14 : decode cJ6_bitCount_0f7a4 14 = .ok (.iand, 1) := by decide +kernel
theorem dJ6_bitCount_0f7a4_15 : decode cJ6_bitCount_0f7a4 15 = .ok (.iload_n 0, 1) := by decide +kernel
theorem dJ6_bitCount_0f7a4_16 : decode cJ6_bitCount_0f7a4 16 = .ok (.iconst 2, 1) := by decide +kernel
theorem dJ6_bitCount_0f7a4_17 : decode cJ6_bitCount_0f7a4 17 = .ok (.iushr, 1) := by decide +kernel
theorem dJ6_bitCount_0f7a4_18 : decode cJ6_bitCount_0f7a4 18 = .ok (.ldc_w 266, 3) := by decide +kernel
theorem dJ6_bitCount_0f7a4_21 : decode cJ6_bitCount_0f7a4 21 = .ok (.iand, 1) := by decide +kernel
theorem dJ6_bitCount_0f7a4_22 : decode cJ6_bitCount_0f7a4 22 = .ok (.iadd, 1) := by decide +kernel
theorem dJ6_bitCount_0f7a4_23 : decode cJ6_bitCount_0f7a4 23 = .ok (.istore_n 0, 1) := by decide +kernel
theorem dJ6_bitCount_0f7a4_24 : decode cJ6_bitCount_0f7a4 24 = .ok (.iload_n 0, 1) := by decide +kernel
theorem dJ6_bitCount_0f7a4_25 : decode cJ6_bitCount_0f7a4 25 = .ok (.iload_n 0, 1) := by decide +kernel
theorem dJ6_bitCount_0f7a4_26 : decode cJ6_bitCount_0f7a4 26 = .ok (.iconst 4, 1) := by decide +kernel
theorem dJ6_bitCount_0f7a4_27 : decode cJ6_bitCount_0f7a4 27 = .ok (.iushr, 1) := by decide +kernel
theorem dJ6_bitCount_0f7a4_28 : decode cJ6_bitCount_0f7a4 28 = .ok (.iadd, 1) := by decide +kernel
theorem dJ6_bitCount_0f7a4_29 : decode cJ6_bitCount_0f7a4 29 = .ok (.ldc_w 267, 3) := by decide +kernel
theorem dJ6_bitCount_0f7a4_32 : decode cJ6_bitCount_0f7a4 32 = .ok (.iand, 1) := by decide +kernel
theorem dJ6_bitCount_0f7a4_33 : decode cJ6_bitCount_0f7a4 33 = .ok (.istore_n 0, 1) := by decide +kernel
theorem dJ6_bitCount_0f7a4_34 : decode cJ6_bitCount_0f7a4 34 = .ok (.iload_n 0, 1) := by decide +kernel
theorem dJ6_bitCount_0f7a4_35 : decode cJ6_bitCount_0f7a4 35 = .ok (.iload_n 0, 1) := by decide +kernel
theorem dJ6_bitCount_0f7a4_36 : decode cJ6_bitCount_0f7a4 36 = .ok (.bipush 8, 2) := by decide +kernel
theorem dJ6_bitCount_0f7a4_38 : decode cJ6_bitCount_0f7a4 38 = .ok (.iushr, 1) := by decide +kernel
theorem dJ6_bitCount_0f7a4_39 : decode cJ6_bitCount_0f7a4 39 = .ok (.iadd, 1) := by decide +kernel
theorem dJ6_bitCount_0f7a4_40 : decode cJ6_bitCount_0f7a4 40 = .ok (.istore_n 0, 1) := by decide +kernel
theorem dJ6_bitCount_0f7a4_41 : decode cJ6_bitCount_0f7a4 41 = .ok (.iload_n 0, 1) := by decide +kernel
theorem dJ6_bitCount_0f7a4_42 : decode cJ6_bitCount_0f7a4 42 = .ok (.iload_n 0, 1) := by decide +kernel
theorem dJ6_bitCount_0f7a4_43 : decode cJ6_bitCount_0f7a4 43 = .ok (.bipush 16, 2) := by decide +kernel
theorem dJ6_bitCount_0f7a4_45 : decode cJ6_bitCount_0f7a4 45 = .ok (.iushr, 1) := by decide +kernel
theorem dJ6_bitCount_0f7a4_46 : decode cJ6_bitCount_0f7a4 46 = .ok (.iadd, 1) := by decide +kernel
theorem dJ6_bitCount_0f7a4_47 : decode cJ6_bitCount_0f7a4 47 = .ok (.istore_n 0, 1) := by decide +kernel
theorem dJ6_bitCount_0f7a4_48 : decode cJ6_bitCount_0f7a4 48 = .ok (.iload_n 0, 1) := by decide +kernel
theorem dJ6_bitCount_0f7a4_49 : decode cJ6_bitCount_0f7a4 49 = .ok (.bipush 63, 2) := by decide +kernel
theorem dJ6_bitCount_0f7a4_51 : decode cJ6_bitCount_0f7a4 51 = .ok (.iand, 1) := by decide +kernel
theorem dJ6_bitCount_0f7a4_52 : decode cJ6_bitCount_0f7a4 52 = .ok (.ireturn, 1) := by decide +kernel
theorem dJ9_floorMod_7cf53_0 : decode cJ9_floorMod_7cf53 0 = .ok (.iload_n 0, 1) := by decide +kernel
theorem dJ9_floorMod_7cf53_1 : decode cJ9_floorMod_7cf53 1 = .ok (.iload_n 1, 1) := by decide +kernel
theorem dJ9_floorMod_7cf53_2 : decode cJ9_floorMod_7cf53 2 = .ok (.irem, 1) := by decide +kernel
theorem dJ9_floorMod_7cf53_3 : decode cJ9_floorMod_7cf53 3 = .ok (.istore_n 2, 1) := by decide +kernel
theorem dJ9_floorMod_7cf53_4 : decode cJ9_floorMod_7cf53 4 = .ok (.iload_n 0, 1) := by decide +kernel
theorem dJ9_floorMod_7cf53_5 : decode cJ9_floorMod_7cf53 5 = .ok (.iload_n 1, 1) := by decide +kernel
theorem dJ9_floorMod_7cf53_6 : decode cJ9_floorMod_7cf53 6 = .ok (.ixor, 1) := by decide +kernel
theorem dJ9_floorMod_7cf53_7 : decode cJ9_floorMod_7cf53 7 = .ok (.ifCond .ge 11, 3) := by decide +kernel
theorem dJ9_floorMod_7cf53_10 : decode cJ9_floorMod_7cf53 10 = .ok (.iload_n 2, 1) := by decide +kernel
theorem dJ9_floorMod_7cf53_11 : decode cJ9_floorMod_7cf53 11 = .ok (.ifCond .eq 7, 3) := by decide +kernel
theorem dJ9_floorMod_7cf53_14 : decode cJ9_floorMod_7cf53 14 = .ok (.iload_n 2, 1) := by decide +kernel
theorem dJ9_floorMod_7cf53_15 : decode cJ9_floorMod_7cf53 15 = .ok (.iload_n 1, 1) := by decide +kernel
theorem dJ9_floorMod_7cf53_16 : decode cJ9_floorMod_7cf53 16 = .ok (.iadd, 1) := by decide +kernel
theorem dJ9_floorMod_7cf53_17 : decode cJ9_floorMod_7cf53 17 = .ok (.ireturn, 1) := by decide +kernel
theorem dJ9_floorMod_7cf53_18 : decode cJ9_floorMod_7cf53 18 = .ok (.iload_n 2, 1) := by decide +kernel
theorem dJ9_floorMod_7cf53_19 : decode cJ9_floorMod_7cf53 19 = .ok (.ireturn, 1) := by decide +kernel
theorem dJ9_max_7cf53_0 : decode cJ9_max_7cf53 0 = .ok (.iload_n 0, 1) := by decide +kernel
theorem dJ9_max_7cf53_1 : decode cJ9_max_7cf53 1 = .ok (.iload_n 1, 1) := by decide +kernel
theorem dJ9_max_7cf53_2 : decode cJ9_max_7cf53 2 = .ok (.if_icmp .lt 7, 3) := by decide +kernel
theorem dJ9_max_7cf53_5 : decode cJ9_max_7cf53 5 = .ok (.iload_n 0, 1) := by decide +kernel
theorem dJ9_max_7cf53_6 : decode cJ9_max_7cf53 6 = .ok (.goto 4, 3) := by decide +kernel
theorem dJ9_max_7cf53_9 : decode cJ9_max_7cf53 9 = .ok (.iload_n 1, 1) := by decide +kernel
theorem dJ9_max_7cf53_10 : decode cJ9_max_7cf53 10 = .ok (.ireturn, 1) := by decide +kernel
theorem dJ9_min_7cf53_0 : decode cJ9_min_7cf53 0 = .ok (.iload_n 0, 1) := by decide +kernel
theorem dJ9_min_7cf53_1 : decode cJ9_min_7cf53 1 = .ok (.iload_n 1, 1) := by decide +kernel
theorem dJ9_min_7cf53_2 : decode cJ9_min_7cf53 2 = .ok (.if_icmp .gt 7, 3) := by decide +kernel
theorem dJ9_min_7cf53_5 : decode cJ9_min_7cf53 5 = .ok (.iload_n 0, 1) := by decide +kernel
theorem dJ9_min_7cf53_6 : decode cJ9_min_7cf53 6 = .ok (.goto 4, 3) := by decide +kernel
theorem dJ9_min_7cf53_9 : decode cJ9_min_7cf53 9 = .ok (.iload_n 1, 1) := by decide +kernel
theorem dJ9_min_7cf53_10 : decode cJ9_min_7cf53 10 = .ok (.ireturn, 1) := by decide +kernel
theorem dJ0_length_8abf5_0 : decode cJ0_length_8abf5 0 = .ok (.aload_n 0, 1) := by decide +kernel
theorem dJ0_length_8abf5_1 : decode cJ0_length_8abf5 1 = .ok (.getfield 9, 3) := by decide +kernel
theorem dJ0_length_8abf5_4 : decode cJ0_length_8abf5 4 = .ok (.arraylength, 1) := by decide +kernel
theorem dJ0_length_8abf5_5 : decode cJ0_length_8abf5 5 = .ok (.aload_n 0, 1) := by decide +kernel
theorem dJ0_length_8abf5_6 : decode cJ0_length_8abf5 6 = .ok (.invokevirtual 335, 3) := by decide +kernel
theorem dJ0_length_8abf5_9 : decode cJ0_length_8abf5 9 = .ok (.ishr, 1) := by decide +kernel
theorem dJ0_length_8abf5_10 : decode cJ0_length_8abf5 10 = .ok (.ireturn, 1) := by decide +kernel
theorem dJ0_charAt_5068e_0 : decode cJ0_charAt_5068e 0 = .ok (.aload_n 0, 1) := by decide +kernel
theorem dJ0_charAt_5068e_1 : decode cJ0_charAt_5068e 1 = .ok (.invokevirtual 492, 3) := by decide +kernel
theorem dJ0_charAt_5068e_4 : decode cJ0_charAt_5068e 4 = .ok (.ifCond .eq 12, 3) := by decide +kernel
theorem dJ0_charAt_5068e_7 : decode cJ0_charAt_5068e 7 = .ok (.aload_n 0, 1) := by decide +kernel
theorem dJ0_charAt_5068e_8 : decode cJ0_charAt_5068e 8 = .ok (.getfield 9, 3) := by decide +kernel
theorem dJ0_charAt_5068e_11 : decode cJ0_charAt_5068e 11 = .ok (.iload_n 1, 1) := by decide +kernel
theorem dJ0_charAt_5068e_12 : decode cJ0_charAt_5068e 12 = .ok (.invokestatic 495, 3) := by decide +kernel
theorem dJ0_charAt_5068e_15 : decode cJ0_charAt_5068e 15 = .ok (.ireturn, 1) := by decide +kernel
theorem dJ0_charAt_5068e_16 : decode cJ0_charAt_5068e 16 = .ok (.aload_n 0, 1) := by decide +kernel
theorem dJ0_charAt_5068e_17 : decode cJ0_charAt_5068e 17 = .ok (.getfield 9, 3) := by decide +kernel
theorem dJ0_charAt_5068e_20 : decode cJ0_charAt_5068e 20 = .ok (.iload_n 1, 1) := by decide +kernel
theorem dJ0_charAt_5068e_21 : decode cJ0_charAt_5068e 21 = .ok (.invokestatic 498, 3) := by decide +kernel
theorem dJ0_charAt_5068e_24 : decode cJ0_charAt_5068e 24 = .ok (.ireturn, 1) := by decide +kernel
theorem dJ0_coder_7d493_0 : decode cJ0_coder_7d493 0 = .ok (.getstatic 38, 3) := by decide +kernel
theorem dJ0_coder_7d493_3 : decode cJ0_coder_7d493 3 = .ok (.ifCond .eq 10, 3) := by decide +kernel
theorem dJ0_coder_7d493_6 : decode cJ0_coder_7d493 6 = .ok (.aload_n 0, 1) := by decide +kernel
theorem dJ0_coder_7d493_7 : decode cJ0_coder_7d493 7 = .ok (.getfield 15, 3) := by decide +kernel
theorem dJ0_coder_7d493_10 : decode cJ0_coder_7d493 10 = .ok (.goto 4, 3) := by decide +kernel
theorem dJ0_coder_7d493_13 : decode cJ0_coder_7d493 13 = .ok (.iconst 1, 1) := by decide +kernel
theorem dJ0_coder_7d493_14 : decode cJ0_coder_7d493 14 = .ok (.ireturn, 1) := by decide +kernel
theorem dJ0_isLatin1_aae02_0 : decode cJ0_isLatin1_aae02 0 = .ok (.getstatic 38, 3) := by decide +kernel
theorem dJ0_isLatin1_aae02_3 : decode cJ0_isLatin1_aae02 3 = .ok (.ifCond .eq 14, 3) := by decide +kernel
theorem dJ0_isLatin1_aae02_6 : decode cJ0_isLatin1_aae02 6 = .ok (.aload_n 0, 1) := by decide +kernel
theorem dJ0_isLatin1_aae02_7 : decode cJ0_isLatin1_aae02 7 = .ok (.getfield 15, 3) := by decide +kernel
theorem dJ0_isLatin1_aae02_10 : decode cJ0_isLatin1_aae02 10 = .ok (.ifCond .ne 7, 3) := by decide +kernel
theorem dJ0_isLatin1_aae02_13 : decode cJ0_isLatin1_aae02 13 = .ok (.iconst 1, 1) := by decide +kernel
theorem dJ0_isLatin1_aae02_14 : decode cJ0_isLatin1_aae02 14 = .ok (.goto 4, 3) := by decide +kernel
theorem dJ0_isLatin1_aae02_17 : decode cJ0_isLatin1_aae02 17 = .ok (.iconst 0, 1) := by decide +kernel
theorem dJ0_isLatin1_aae02_18 : decode cJ0_isLatin1_aae02 18 = .ok (.ireturn, 1) := by decide +kernel
theorem dJ0_checkIndex_df160_0 : decode cJ0_checkIndex_df160 0 = .ok (.iload_n 0, 1) := by decide +kernel
theorem dJ0_checkIndex_df160_1 : decode cJ0_checkIndex_df160 1 = .ok (.iload_n 1, 1) := by decide +kernel
theorem dJ0_checkIndex_df160_2 : decode cJ0_checkIndex_df160 2 = .ok (.getstatic 1053, 3) := by decide +kernel
theorem dJ0_checkIndex_df160_5 : decode cJ0_checkIndex_df160 5 = .ok (.invokestatic 1059, 3) := by decide +kernel
theorem dJ0_checkIndex_df160_8 : decode cJ0_checkIndex_df160 8 = .ok (.pop, 1) := by decide +kernel
theorem dJ0_checkIndex_df160_9 : decode cJ0_checkIndex_df160 9 = .ok (.return_, 1) := by decide +kernel
theorem dJ1_charAt_3b067_0 : decode cJ1_charAt_3b067 0 = .ok (.iload_n 1, 1) := by decide +kernel
theorem dJ1_charAt_3b067_1 : decode cJ1_charAt_3b067 1 = .ok (.aload_n 0, 1) := by decide +kernel
theorem dJ1_charAt_3b067_2 : decode cJ1_charAt_3b067 2 = .ok (.arraylength, 1) := by decide +kernel
theorem dJ1_charAt_3b067_3 : decode cJ1_charAt_3b067 3 = .ok (.invokestatic 9, 3) := by decide +kernel
theorem dJ1_charAt_3b067_6 : decode cJ1_charAt_3b067 6 = .ok (.aload_n 0, 1) := by decide +kernel
theorem dJ1_charAt_3b067_7 : decode cJ1_charAt_3b067 7 = .ok (.iload_n 1, 1) := by decide +kernel
theorem dJ1_charAt_3b067_8 : decode cJ1_charAt_3b067 8 = .ok (.baload, 1) := by decide +kernel
theorem dJ1_charAt_3b067_9 : decode cJ1_charAt_3b067 9 = .ok (.sipush 255, 3) := by decide +kernel
theorem dJ1_charAt_3b067_12 : decode cJ1_charAt_3b067 12 = .ok (.iand, 1) := by decide +kernel
theorem dJ1_charAt_3b067_13 : decode cJ1_charAt_3b067 13 = .ok (.i2c, 1) := by decide +kernel
theorem dJ1_charAt_3b067_14 : decode cJ1_charAt_3b067 14 = .ok (.ireturn, 1) := by decide +kernel
theorem dJ2_getChar_3b067_0 : decode cJ2_getChar_3b067 0 = .ok (.getstatic 44, 3) := by decide +kernel
theorem dJ2_getChar_3b067_3 : decode cJ2_getChar_3b067 3 = .ok (.ifCond .ne 25, 3) := by decide +kernel
theorem dJ2_getChar_3b067_6 : decode cJ2_getChar_3b067 6 = .ok (.iload_n 1, 1) := by decide +kernel
theorem dJ2_getChar_3b067_7 : decode cJ2_getChar_3b067 7 = .ok (.ifCond .lt 11, 3) := by decide +kernel
theorem dJ2_getChar_3b067_10 : decode cJ2_getChar_3b067 10 = .ok (.iload_n 1, 1) := by decide +kernel
theorem dJ2_getChar_3b067_11 : decode cJ2_getChar_3b067 11 = .ok (.aload_n 0, 1) := by decide +kernel
theorem dJ2_getChar_3b067_12 : decode cJ2_getChar_3b067 12 = .ok (.invokestatic 48, 3) := by decide +kernel
theorem dJ2_getChar_3b067_15 : decode cJ2_getChar_3b067 15 = .ok (.if_icmp .lt 13, 3) := by decide +kernel
theorem dJ2_getChar_3b067_18 : decode cJ2_getChar_3b067 18 = .ok (.new 52, 3) := by decide +kernel
theorem dJ2_getChar_3b067_21 : decode cJ2_getChar_3b067 21 = .ok (.dup, 1) := by decide +kernel
theorem dJ2_getChar_3b067_22 : decode cJ2_getChar_3b067 22 = .ok (.ldc 54, 2) := by decide +kernel
theorem dJ2_getChar_3b067_24 : decode cJ2_getChar_3b067 24 = .ok (.invokespecial 56, 3) := by decide +kernel
theorem dJ2_getChar_3b067_27 : decode cJ2_getChar_3b067 27 = .ok (.athrow, 1) := by decide +kernel
theorem dJ2_getChar_3b067_28 : decode cJ2_getChar_3b067 28 = .ok (.iload_n 1, 1) := by decide +kernel
theorem dJ2_getChar_3b067_29 : decode cJ2_getChar_3b067 29 = .ok (.iconst 1, 1) := by decide +kernel
theorem dJ2_getChar_3b067_30 : decode cJ2_getChar_3b067 30 = .ok (.ishl, 1) := by decide +kernel
theorem dJ2_getChar_3b067_31 : decode cJ2_getChar_3b067 31 = .ok (.istore_n 1, 1) := by decide +kernel
theorem dJ2_getChar_3b067_32 : decode cJ2_getChar_3b067 32 = .ok (.aload_n 0, 1) := by decide +kernel
theorem dJ2_getChar_3b067_33 : decode cJ2_getChar_3b067 33 = .ok (.iload_n 1, 1) := by decide +kernel
theorem dJ2_getChar_3b067_34 : decode cJ2_getChar_3b067 34 = .ok (.iinc 1 1, 3) := by decide +kernel
theorem dJ2_getChar_3b067_37 : decode cJ2_getChar_3b067 37 = .ok (.baload, 1) := by decide +kernel
theorem dJ2_getChar_3b067_38 : decode cJ2_getChar_3b067 38 = .ok (.sipush 255, 3) := by decide +kernel
theorem dJ2_getChar_3b067_41 : decode cJ2_getChar_3b067 41 = .ok (.iand, 1) := by decide +kernel
theorem dJ2_getChar_3b067_42 : decode cJ2_getChar_3b067 42 = .ok (.getstatic 59, 3) := by decide +kernel
theorem dJ2_getChar_3b067_45 : decode cJ2_getChar_3b067 45 = .ok (.ishl, 1) := by decide +kernel
theorem dJ2_getChar_3b067_46 : decode cJ2_getChar_3b067 46 = .ok (.aload_n 0, 1) := by decide +kernel
theorem dJ2_getChar_3b067_47 : decode cJ2_getChar_3b067 47 = .ok (.iload_n 1, 1) := by decide +kernel
theorem dJ2_getChar_3b067_48 : decode cJ2_getChar_3b067 48 = .ok (.baload, 1) := by decide +kernel
theorem dJ2_getChar_3b067_49 : decode cJ2_getChar_3b067 49 = .ok (.sipush 255, 3) := by decide +kernel
theorem dJ2_getChar_3b067_52 : decode cJ2_getChar_3b067 52 = .ok (.iand, 1) := by decide +kernel
theorem dJ2_getChar_3b067_53 : decode cJ2_getChar_3b067 53 = .ok (.getstatic 63, 3) := by decide +kernel
theorem dJ2_getChar_3b067_56 : decode cJ2_getChar_3b067 56 = .ok (.ishl, 1) := by decide +kernel
theorem dJ2_getChar_3b067_57 : decode cJ2_getChar_3b067 57 = .ok (.ior, 1) := by decide +kernel
theorem dJ2_getChar_3b067_58 : decode cJ2_getChar_3b067 58 = .ok (.i2c, 1) := by decide +kernel
theorem dJ2_getChar_3b067_59 : decode cJ2_getChar_3b067 59 = .ok (.ireturn, 1) := by decide +kernel
theorem dJ2_length_9d52b_0 : decode cJ2_length_9d52b 0 = .ok (.aload_n 0, 1) := by decide +kernel
theorem dJ2_length_9d52b_1 : decode cJ2_length_9d52b 1 = .ok (.arraylength, 1) := by decide +kernel
theorem dJ2_length_9d52b_2 : decode cJ2_length_9d52b 2 = .ok (.iconst 1, 1) := by decide +kernel
theorem dJ2_length_9d52b_3 : decode cJ2_length_9d52b 3 = .ok (.ishr, 1) := by decide +kernel
theorem dJ2_length_9d52b_4 : decode cJ2_length_9d52b 4 = .ok (.ireturn, 1) := by decide +kernel
theorem dJ2_charAt_3b067_0 : decode cJ2_charAt_3b067 0 = .ok (.iload_n 1, 1) := by decide +kernel
theorem dJ2_charAt_3b067_1 : decode cJ2_charAt_3b067 1 = .ok (.aload_n 0, 1) := by decide +kernel
theorem dJ2_charAt_3b067_2 : decode cJ2_charAt_3b067 2 = .ok (.invokestatic 67, 3) := by decide +kernel
theorem dJ2_charAt_3b067_5 : decode cJ2_charAt_3b067 5 = .ok (.aload_n 0, 1) := by decide +kernel
theorem dJ2_charAt_3b067_6 : decode cJ2_charAt_3b067 6 = .ok (.iload_n 1, 1) := by decide +kernel
theorem dJ2_charAt_3b067_7 : decode cJ2_charAt_3b067 7 = .ok (.invokestatic 71, 3) := by decide +kernel
theorem dJ2_charAt_3b067_10 : decode cJ2_charAt_3b067 10 = .ok (.ireturn, 1) := by decide +kernel
theorem dJ2_checkIndex_2214a_0 : decode cJ2_checkIndex_2214a 0 = .ok (.iload_n 0, 1) := by decide +kernel
theorem dJ2_checkIndex_2214a_1 : decode cJ2_checkIndex_2214a 1 = .ok (.aload_n 1, 1) := by decide +kernel
theorem dJ2_checkIndex_2214a_2 : decode cJ2_checkIndex_2214a 2 = .ok (.invokestatic 48, 3) := by decide +kernel
theorem dJ2_checkIndex_2214a_5 : decode cJ2_checkIndex_2214a 5 = .ok (.invokestatic 414, 3) := by decide +kernel
theorem dJ2_checkIndex_2214a_8 : decode cJ2_checkIndex_2214a 8 = .ok (.return_, 1) := by decide +kernel
theorem dJ3_checkIndex_8e157_0 : decode cJ3_checkIndex_8e157 0 = .ok (.iload_n 0, 1) := by decide +kernel
theorem dJ3_checkIndex_8e157_1 : decode cJ3_checkIndex_8e157 1 = .ok (.ifCond .lt 8, 3) := by decide +kernel
theorem dJ3_checkIndex_8e157_4 : decode cJ3_checkIndex_8e157 4 = .ok (.iload_n 0, 1) := by decide +kernel
theorem dJ3_checkIndex_8e157_5 : decode cJ3_checkIndex_8e157 5 = .ok (.iload_n 1, 1) := by decide +kernel
theorem dJ3_checkIndex_8e157_6 : decode cJ3_checkIndex_8e157 6 = .ok (.if_icmp .lt 10, 3) := by decide +kernel
theorem dJ3_checkIndex_8e157_9 : decode cJ3_checkIndex_8e157 9 = .ok (.aload_n 2, 1) := by decide +kernel
theorem dJ3_checkIndex_8e157_10 : decode cJ3_checkIndex_8e157 10 = .ok (.iload_n 0, 1) := by decide +kernel
theorem dJ3_checkIndex_8e157_11 : decode cJ3_checkIndex_8e157 11 = .ok (.iload_n 1, 1) := by decide +kernel
theorem dJ3_checkIndex_8e157_12 : decode cJ3_checkIndex_8e157 12 = .ok (.invokestatic 95, 3) := by decide +kernel
theorem dJ3_checkIndex_8e157_15 : decode cJ3_checkIndex_8e157 15 = .ok (.athrow, 1) := by decide +kernel
theorem dJ3_checkIndex_8e157_16 : decode cJ3_checkIndex_8e157 16 = .ok (.iload_n 0, 1) := by decide +kernel
theorem dJ3_checkIndex_8e157_17 : decode cJ3_checkIndex_8e157 17 = .ok (.ireturn, 1) := by decide +kernel
theorem dL_law_0 : decode cL_law 0 = .ok (.new 7, 3) := by decide +kernel
theorem dL_law_3 : decode cL_law 3 = .ok (.dup, 1) := by decide +kernel
theorem dL_law_4 : decode cL_law 4 = .ok (.invokespecial 9, 3) := by decide +kernel
theorem dL_law_7 : decode cL_law 7 = .ok (.astore_n 1, 1) := by decide +kernel
theorem dL_law_8 : decode cL_law 8 = .ok (.new 10, 3) := by decide +kernel
theorem dL_law_11 : decode cL_law 11 = .ok (.dup, 1) := by decide +kernel
theorem dL_law_12 : decode cL_law 12 = .ok (.invokespecial 12, 3) := by decide +kernel
theorem dL_law_15 : decode cL_law 15 = .ok (.astore_n 2, 1) := by decide +kernel
theorem dL_law_16 : decode cL_law 16 = .ok (.iconst 0, 1) := by decide +kernel
theorem dL_law_17 : decode cL_law 17 = .ok (.istore_n 3, 1) := by decide +kernel
theorem dL_law_18 : decode cL_law 18 = .ok (.iload_n 3, 1) := by decide +kernel
theorem dL_law_19 : decode cL_law 19 = .ok (.aload_n 0, 1) := by decide +kernel
theorem dL_law_20 : decode cL_law 20 = .ok (.arraylength, 1) := by decide +kernel
theorem dL_law_21 : decode cL_law 21 = .ok (.bipush 6, 2) := by decide +kernel
theorem dL_law_23 : decode cL_law 23 = .ok (.isub, 1) := by decide +kernel
theorem dL_law_24 : decode cL_law 24 = .ok (.if_icmp .gt 1422, 3) := by decide +kernel
theorem dL_law_27 : decode cL_law 27 = .ok (.aload_n 0, 1) := by decide +kernel
theorem dL_law_28 : decode cL_law 28 = .ok (.iload_n 3, 1) := by decide +kernel
theorem dL_law_29 : decode cL_law 29 = .ok (.iaload, 1) := by decide +kernel
theorem dL_law_30 : decode cL_law 30 = .ok (.bipush 63, 2) := by decide +kernel
theorem dL_law_32 : decode cL_law 32 = .ok (.iand, 1) := by decide +kernel
theorem dL_law_33 : decode cL_law 33 = .ok (.tableswitch 1407 0 39 #[175, 208, 231, 264, 287, 310, 343, 376, 409, 452, 485, 518, 541, 564, 587, 630, 663, 696, 739, 782, 816, 839, 862, 895, 928, 961, 994, 1027, 1040, 1053, 1096, 1170, 1233, 1256, 1289, 1322, 1335, 1348, 1361, 1384], 175) := by decide +kernel
theorem dL_law_208 : decode cL_law 208 = .ok (.aload_n 1, 1) := by decide +kernel
theorem dL_law_209 : decode cL_law 209 = .ok (.aload_n 0, 1) := by decide +kernel
theorem dL_law_210 : decode cL_law 210 = .ok (.iload_n 3, 1) := by decide +kernel
theorem dL_law_211 : decode cL_law 211 = .ok (.iconst 1, 1) := by decide +kernel
theorem dL_law_212 : decode cL_law 212 = .ok (.iadd, 1) := by decide +kernel
theorem dL_law_213 : decode cL_law 213 = .ok (.iaload, 1) := by decide +kernel
theorem dL_law_214 : decode cL_law 214 = .ok (.aload_n 0, 1) := by decide +kernel
theorem dL_law_215 : decode cL_law 215 = .ok (.iload_n 3, 1) := by decide +kernel
theorem dL_law_216 : decode cL_law 216 = .ok (.iconst 2, 1) := by decide +kernel
theorem dL_law_217 : decode cL_law 217 = .ok (.iadd, 1) := by decide +kernel
theorem dL_law_218 : decode cL_law 218 = .ok (.iaload, 1) := by decide +kernel
theorem dL_law_219 : decode cL_law 219 = .ok (.invokevirtual 13, 3) := by decide +kernel
theorem dL_law_222 : decode cL_law 222 = .ok (.aload_n 2, 1) := by decide +kernel
theorem dL_law_223 : decode cL_law 223 = .ok (.aload_n 0, 1) := by decide +kernel
theorem dL_law_224 : decode cL_law 224 = .ok (.iload_n 3, 1) := by decide +kernel
theorem dL_law_225 : decode cL_law 225 = .ok (.iconst 1, 1) := by decide +kernel
theorem dL_law_226 : decode cL_law 226 = .ok (.iadd, 1) := by decide +kernel
theorem dL_law_227 : decode cL_law 227 = .ok (.iaload, 1) := by decide +kernel
theorem dL_law_228 : decode cL_law 228 = .ok (.aload_n 0, 1) := by decide +kernel
theorem dL_law_229 : decode cL_law 229 = .ok (.iload_n 3, 1) := by decide +kernel
theorem dL_law_230 : decode cL_law 230 = .ok (.iconst 2, 1) := by decide +kernel
theorem dL_law_231 : decode cL_law 231 = .ok (.iadd, 1) := by decide +kernel
theorem dL_law_232 : decode cL_law 232 = .ok (.iaload, 1) := by decide +kernel
theorem dL_law_233 : decode cL_law 233 = .ok (.invokevirtual 17, 3) := by decide +kernel
theorem dL_law_236 : decode cL_law 236 = .ok (.if_icmp .eq 1204, 3) := by decide +kernel
theorem dL_law_239 : decode cL_law 239 = .ok (.iconst 0, 1) := by decide +kernel
theorem dL_law_240 : decode cL_law 240 = .ok (.ireturn, 1) := by decide +kernel
theorem dL_law_241 : decode cL_law 241 = .ok (.aload_n 1, 1) := by decide +kernel
theorem dL_law_242 : decode cL_law 242 = .ok (.aload_n 0, 1) := by decide +kernel
theorem dL_law_243 : decode cL_law 243 = .ok (.iload_n 3, 1) := by decide +kernel
theorem dL_law_244 : decode cL_law 244 = .ok (.iconst 1, 1) := by decide +kernel
theorem dL_law_245 : decode cL_law 245 = .ok (.iadd, 1) := by decide +kernel
theorem dL_law_246 : decode cL_law 246 = .ok (.iaload, 1) := by decide +kernel
theorem dL_law_247 : decode cL_law 247 = .ok (.invokevirtual 18, 3) := by decide +kernel
theorem dL_law_250 : decode cL_law 250 = .ok (.aload_n 2, 1) := by decide +kernel
theorem dL_law_251 : decode cL_law 251 = .ok (.aload_n 0, 1) := by decide +kernel
theorem dL_law_252 : decode cL_law 252 = .ok (.iload_n 3, 1) := by decide +kernel
theorem dL_law_253 : decode cL_law 253 = .ok (.iconst 1, 1) := by decide +kernel
theorem dL_law_254 : decode cL_law 254 = .ok (.iadd, 1) := by decide +kernel
theorem dL_law_255 : decode cL_law 255 = .ok (.iaload, 1) := by decide +kernel
theorem dL_law_256 : decode cL_law 256 = .ok (.invokevirtual 22, 3) := by decide +kernel
theorem dL_law_259 : decode cL_law 259 = .ok (.if_icmp .eq 1181, 3) := by decide +kernel
theorem dL_law_262 : decode cL_law 262 = .ok (.iconst 0, 1) := by decide +kernel
theorem dL_law_263 : decode cL_law 263 = .ok (.ireturn, 1) := by decide +kernel
theorem dL_law_264 : decode cL_law 264 = .ok (.aload_n 1, 1) := by decide +kernel
theorem dL_law_265 : decode cL_law 265 = .ok (.aload_n 0, 1) := by decide +kernel
theorem dL_law_266 : decode cL_law 266 = .ok (.iload_n 3, 1) := by decide +kernel
theorem dL_law_267 : decode cL_law 267 = .ok (.iconst 1, 1) := by decide +kernel
theorem dL_law_268 : decode cL_law 268 = .ok (.iadd, 1) := by decide +kernel
theorem dL_law_269 : decode cL_law 269 = .ok (.iaload, 1) := by decide +kernel
theorem dL_law_270 : decode cL_law 270 = .ok (.aload_n 0, 1) := by decide +kernel
theorem dL_law_271 : decode cL_law 271 = .ok (.iload_n 3, 1) := by decide +kernel
theorem dL_law_272 : decode cL_law 272 = .ok (.iconst 2, 1) := by decide +kernel
theorem dL_law_273 : decode cL_law 273 = .ok (.iadd, 1) := by decide +kernel
theorem dL_law_274 : decode cL_law 274 = .ok (.iaload, 1) := by decide +kernel
theorem dL_law_275 : decode cL_law 275 = .ok (.invokevirtual 23, 3) := by decide +kernel
theorem dL_law_278 : decode cL_law 278 = .ok (.aload_n 2, 1) := by decide +kernel
theorem dL_law_279 : decode cL_law 279 = .ok (.aload_n 0, 1) := by decide +kernel
theorem dL_law_280 : decode cL_law 280 = .ok (.iload_n 3, 1) := by decide +kernel
theorem dL_law_281 : decode cL_law 281 = .ok (.iconst 1, 1) := by decide +kernel
theorem dL_law_282 : decode cL_law 282 = .ok (.iadd, 1) := by decide +kernel
theorem dL_law_283 : decode cL_law 283 = .ok (.iaload, 1) := by decide +kernel
theorem dL_law_284 : decode cL_law 284 = .ok (.aload_n 0, 1) := by decide +kernel
theorem dL_law_285 : decode cL_law 285 = .ok (.iload_n 3, 1) := by decide +kernel
theorem dL_law_286 : decode cL_law 286 = .ok (.iconst 2, 1) := by decide +kernel
theorem dL_law_287 : decode cL_law 287 = .ok (.iadd, 1) := by decide +kernel
theorem dL_law_288 : decode cL_law 288 = .ok (.iaload, 1) := by decide +kernel
theorem dL_law_289 : decode cL_law 289 = .ok (.invokevirtual 26, 3) := by decide +kernel
theorem dL_law_292 : decode cL_law 292 = .ok (.if_icmp .eq 1148, 3) := by decide +kernel
theorem dL_law_295 : decode cL_law 295 = .ok (.iconst 0, 1) := by decide +kernel
theorem dL_law_296 : decode cL_law 296 = .ok (.ireturn, 1) := by decide +kernel
theorem dL_law_297 : decode cL_law 297 = .ok (.aload_n 1, 1) := by decide +kernel
theorem dL_law_298 : decode cL_law 298 = .ok (.aload_n 0, 1) := by decide +kernel
theorem dL_law_299 : decode cL_law 299 = .ok (.iload_n 3, 1) := by decide +kernel
theorem dL_law_300 : decode cL_law 300 = .ok (.iconst 1, 1) := by decide +kernel
theorem dL_law_301 : decode cL_law 301 = .ok (.iadd, 1) := by decide +kernel
theorem dL_law_302 : decode cL_law 302 = .ok (.iaload, 1) := by decide +kernel
theorem dL_law_303 : decode cL_law 303 = .ok (.invokevirtual 27, 3) := by decide +kernel
theorem dL_law_306 : decode cL_law 306 = .ok (.aload_n 2, 1) := by decide +kernel
theorem dL_law_307 : decode cL_law 307 = .ok (.aload_n 0, 1) := by decide +kernel
theorem dL_law_308 : decode cL_law 308 = .ok (.iload_n 3, 1) := by decide +kernel
theorem dL_law_309 : decode cL_law 309 = .ok (.iconst 1, 1) := by decide +kernel
theorem dL_law_310 : decode cL_law 310 = .ok (.iadd, 1) := by decide +kernel
theorem dL_law_311 : decode cL_law 311 = .ok (.iaload, 1) := by decide +kernel
theorem dL_law_312 : decode cL_law 312 = .ok (.invokevirtual 30, 3) := by decide +kernel
theorem dL_law_315 : decode cL_law 315 = .ok (.if_icmp .eq 1125, 3) := by decide +kernel
theorem dL_law_318 : decode cL_law 318 = .ok (.iconst 0, 1) := by decide +kernel
theorem dL_law_319 : decode cL_law 319 = .ok (.ireturn, 1) := by decide +kernel
theorem dL_law_320 : decode cL_law 320 = .ok (.aload_n 1, 1) := by decide +kernel
theorem dL_law_321 : decode cL_law 321 = .ok (.aload_n 0, 1) := by decide +kernel
theorem dL_law_322 : decode cL_law 322 = .ok (.iload_n 3, 1) := by decide +kernel
theorem dL_law_323 : decode cL_law 323 = .ok (.iconst 1, 1) := by decide +kernel
theorem dL_law_324 : decode cL_law 324 = .ok (.iadd, 1) := by decide +kernel
theorem dL_law_325 : decode cL_law 325 = .ok (.iaload, 1) := by decide +kernel
theorem dL_law_326 : decode cL_law 326 = .ok (.invokevirtual 31, 3) := by decide +kernel
theorem dL_law_329 : decode cL_law 329 = .ok (.aload_n 2, 1) := by decide +kernel
theorem dL_law_330 : decode cL_law 330 = .ok (.aload_n 0, 1) := by decide +kernel
theorem dL_law_331 : decode cL_law 331 = .ok (.iload_n 3, 1) := by decide +kernel
theorem dL_law_332 : decode cL_law 332 = .ok (.iconst 1, 1) := by decide +kernel
theorem dL_law_333 : decode cL_law 333 = .ok (.iadd, 1) := by decide +kernel
theorem dL_law_334 : decode cL_law 334 = .ok (.iaload, 1) := by decide +kernel
theorem dL_law_335 : decode cL_law 335 = .ok (.invokevirtual 34, 3) := by decide +kernel
theorem dL_law_338 : decode cL_law 338 = .ok (.if_icmp .eq 1102, 3) := by decide +kernel
theorem dL_law_341 : decode cL_law 341 = .ok (.iconst 0, 1) := by decide +kernel
theorem dL_law_342 : decode cL_law 342 = .ok (.ireturn, 1) := by decide +kernel
theorem dL_law_343 : decode cL_law 343 = .ok (.aload_n 1, 1) := by decide +kernel
theorem dL_law_344 : decode cL_law 344 = .ok (.aload_n 0, 1) := by decide +kernel
theorem dL_law_345 : decode cL_law 345 = .ok (.iload_n 3, 1) := by decide +kernel
theorem dL_law_346 : decode cL_law 346 = .ok (.iconst 1, 1) := by decide +kernel
theorem dL_law_347 : decode cL_law 347 = .ok (.iadd, 1) := by decide +kernel
theorem dL_law_348 : decode cL_law 348 = .ok (.iaload, 1) := by decide +kernel
theorem dL_law_349 : decode cL_law 349 = .ok (.aload_n 0, 1) := by decide +kernel
theorem dL_law_350 : decode cL_law 350 = .ok (.iload_n 3, 1) := by decide +kernel
theorem dL_law_351 : decode cL_law 351 = .ok (.iconst 2, 1) := by decide +kernel
theorem dL_law_352 : decode cL_law 352 = .ok (.iadd, 1) := by decide +kernel
theorem dL_law_353 : decode cL_law 353 = .ok (.iaload, 1) := by decide +kernel
theorem dL_law_354 : decode cL_law 354 = .ok (.invokevirtual 35, 3) := by decide +kernel
theorem dL_law_357 : decode cL_law 357 = .ok (.aload_n 2, 1) := by decide +kernel
theorem dL_law_358 : decode cL_law 358 = .ok (.aload_n 0, 1) := by decide +kernel
theorem dL_law_359 : decode cL_law 359 = .ok (.iload_n 3, 1) := by decide +kernel
theorem dL_law_360 : decode cL_law 360 = .ok (.iconst 1, 1) := by decide +kernel
theorem dL_law_361 : decode cL_law 361 = .ok (.iadd, 1) := by decide +kernel
theorem dL_law_362 : decode cL_law 362 = .ok (.iaload, 1) := by decide +kernel
theorem dL_law_363 : decode cL_law 363 = .ok (.aload_n 0, 1) := by decide +kernel
theorem dL_law_364 : decode cL_law 364 = .ok (.iload_n 3, 1) := by decide +kernel
theorem dL_law_365 : decode cL_law 365 = .ok (.iconst 2, 1) := by decide +kernel
theorem dL_law_366 : decode cL_law 366 = .ok (.iadd, 1) := by decide +kernel
theorem dL_law_367 : decode cL_law 367 = .ok (.iaload, 1) := by decide +kernel
theorem dL_law_368 : decode cL_law 368 = .ok (.invokevirtual 38, 3) := by decide +kernel
theorem dL_law_371 : decode cL_law 371 = .ok (.if_icmp .eq 1069, 3) := by decide +kernel
theorem dL_law_374 : decode cL_law 374 = .ok (.iconst 0, 1) := by decide +kernel
theorem dL_law_375 : decode cL_law 375 = .ok (.ireturn, 1) := by decide +kernel
theorem dL_law_376 : decode cL_law 376 = .ok (.aload_n 1, 1) := by decide +kernel
theorem dL_law_377 : decode cL_law 377 = .ok (.aload_n 0, 1) := by decide +kernel
theorem dL_law_378 : decode cL_law 378 = .ok (.iload_n 3, 1) := by decide +kernel
theorem dL_law_379 : decode cL_law 379 = .ok (.iconst 1, 1) := by decide +kernel
theorem dL_law_380 : decode cL_law 380 = .ok (.iadd, 1) := by decide +kernel
theorem dL_law_381 : decode cL_law 381 = .ok (.iaload, 1) := by decide +kernel
theorem dL_law_382 : decode cL_law 382 = .ok (.aload_n 0, 1) := by decide +kernel
theorem dL_law_383 : decode cL_law 383 = .ok (.iload_n 3, 1) := by decide +kernel
theorem dL_law_384 : decode cL_law 384 = .ok (.iconst 2, 1) := by decide +kernel
theorem dL_law_385 : decode cL_law 385 = .ok (.iadd, 1) := by decide +kernel
theorem dL_law_386 : decode cL_law 386 = .ok (.iaload, 1) := by decide +kernel
theorem dL_law_387 : decode cL_law 387 = .ok (.invokevirtual 39, 3) := by decide +kernel
theorem dL_law_390 : decode cL_law 390 = .ok (.aload_n 2, 1) := by decide +kernel
theorem dL_law_391 : decode cL_law 391 = .ok (.aload_n 0, 1) := by decide +kernel
theorem dL_law_392 : decode cL_law 392 = .ok (.iload_n 3, 1) := by decide +kernel
theorem dL_law_393 : decode cL_law 393 = .ok (.iconst 1, 1) := by decide +kernel
theorem dL_law_394 : decode cL_law 394 = .ok (.iadd, 1) := by decide +kernel
theorem dL_law_395 : decode cL_law 395 = .ok (.iaload, 1) := by decide +kernel
theorem dL_law_396 : decode cL_law 396 = .ok (.aload_n 0, 1) := by decide +kernel
theorem dL_law_397 : decode cL_law 397 = .ok (.iload_n 3, 1) := by decide +kernel
theorem dL_law_398 : decode cL_law 398 = .ok (.iconst 2, 1) := by decide +kernel
theorem dL_law_399 : decode cL_law 399 = .ok (.iadd, 1) := by decide +kernel
theorem dL_law_400 : decode cL_law 400 = .ok (.iaload, 1) := by decide +kernel
theorem dL_law_401 : decode cL_law 401 = .ok (.invokevirtual 42, 3) := by decide +kernel
theorem dL_law_404 : decode cL_law 404 = .ok (.if_icmp .eq 1036, 3) := by decide +kernel
theorem dL_law_407 : decode cL_law 407 = .ok (.iconst 0, 1) := by decide +kernel
theorem dL_law_408 : decode cL_law 408 = .ok (.ireturn, 1) := by decide +kernel
theorem dL_law_409 : decode cL_law 409 = .ok (.aload_n 1, 1) := by decide +kernel
theorem dL_law_410 : decode cL_law 410 = .ok (.aload_n 0, 1) := by decide +kernel
theorem dL_law_411 : decode cL_law 411 = .ok (.iload_n 3, 1) := by decide +kernel
theorem dL_law_412 : decode cL_law 412 = .ok (.iconst 1, 1) := by decide +kernel
theorem dL_law_413 : decode cL_law 413 = .ok (.iadd, 1) := by decide +kernel
theorem dL_law_414 : decode cL_law 414 = .ok (.iaload, 1) := by decide +kernel
theorem dL_law_415 : decode cL_law 415 = .ok (.aload_n 0, 1) := by decide +kernel
theorem dL_law_416 : decode cL_law 416 = .ok (.iload_n 3, 1) := by decide +kernel
theorem dL_law_417 : decode cL_law 417 = .ok (.iconst 2, 1) := by decide +kernel
theorem dL_law_418 : decode cL_law 418 = .ok (.iadd, 1) := by decide +kernel
theorem dL_law_419 : decode cL_law 419 = .ok (.iaload, 1) := by decide +kernel
theorem dL_law_420 : decode cL_law 420 = .ok (.invokevirtual 43, 3) := by decide +kernel
theorem dL_law_423 : decode cL_law 423 = .ok (.aload_n 2, 1) := by decide +kernel
theorem dL_law_424 : decode cL_law 424 = .ok (.aload_n 0, 1) := by decide +kernel
theorem dL_law_425 : decode cL_law 425 = .ok (.iload_n 3, 1) := by decide +kernel
theorem dL_law_426 : decode cL_law 426 = .ok (.iconst 1, 1) := by decide +kernel
theorem dL_law_427 : decode cL_law 427 = .ok (.iadd, 1) := by decide +kernel
theorem dL_law_428 : decode cL_law 428 = .ok (.iaload, 1) := by decide +kernel
theorem dL_law_429 : decode cL_law 429 = .ok (.aload_n 0, 1) := by decide +kernel
theorem dL_law_430 : decode cL_law 430 = .ok (.iload_n 3, 1) := by decide +kernel
theorem dL_law_431 : decode cL_law 431 = .ok (.iconst 2, 1) := by decide +kernel
theorem dL_law_432 : decode cL_law 432 = .ok (.iadd, 1) := by decide +kernel
theorem dL_law_433 : decode cL_law 433 = .ok (.iaload, 1) := by decide +kernel
theorem dL_law_434 : decode cL_law 434 = .ok (.invokevirtual 46, 3) := by decide +kernel
theorem dL_law_437 : decode cL_law 437 = .ok (.if_icmp .eq 1003, 3) := by decide +kernel
theorem dL_law_440 : decode cL_law 440 = .ok (.iconst 0, 1) := by decide +kernel
theorem dL_law_441 : decode cL_law 441 = .ok (.ireturn, 1) := by decide +kernel
theorem dL_law_442 : decode cL_law 442 = .ok (.aload_n 1, 1) := by decide +kernel
theorem dL_law_443 : decode cL_law 443 = .ok (.aload_n 0, 1) := by decide +kernel
theorem dL_law_444 : decode cL_law 444 = .ok (.iload_n 3, 1) := by decide +kernel
theorem dL_law_445 : decode cL_law 445 = .ok (.iconst 1, 1) := by decide +kernel
theorem dL_law_446 : decode cL_law 446 = .ok (.iadd, 1) := by decide +kernel
theorem dL_law_447 : decode cL_law 447 = .ok (.iaload, 1) := by decide +kernel
theorem dL_law_448 : decode cL_law 448 = .ok (.aload_n 0, 1) := by decide +kernel
theorem dL_law_449 : decode cL_law 449 = .ok (.iload_n 3, 1) := by decide +kernel
theorem dL_law_450 : decode cL_law 450 = .ok (.iconst 2, 1) := by decide +kernel
theorem dL_law_451 : decode cL_law 451 = .ok (.iadd, 1) := by decide +kernel
theorem dL_law_452 : decode cL_law 452 = .ok (.iaload, 1) := by decide +kernel
theorem dL_law_453 : decode cL_law 453 = .ok (.aload_n 0, 1) := by decide +kernel
theorem dL_law_454 : decode cL_law 454 = .ok (.iload_n 3, 1) := by decide +kernel
theorem dL_law_455 : decode cL_law 455 = .ok (.iconst 3, 1) := by decide +kernel
theorem dL_law_456 : decode cL_law 456 = .ok (.iadd, 1) := by decide +kernel
theorem dL_law_457 : decode cL_law 457 = .ok (.iaload, 1) := by decide +kernel
theorem dL_law_458 : decode cL_law 458 = .ok (.invokevirtual 47, 3) := by decide +kernel
theorem dL_law_461 : decode cL_law 461 = .ok (.aload_n 2, 1) := by decide +kernel
theorem dL_law_462 : decode cL_law 462 = .ok (.aload_n 0, 1) := by decide +kernel
theorem dL_law_463 : decode cL_law 463 = .ok (.iload_n 3, 1) := by decide +kernel
theorem dL_law_464 : decode cL_law 464 = .ok (.iconst 1, 1) := by decide +kernel
theorem dL_law_465 : decode cL_law 465 = .ok (.iadd, 1) := by decide +kernel
theorem dL_law_466 : decode cL_law 466 = .ok (.iaload, 1) := by decide +kernel
theorem dL_law_467 : decode cL_law 467 = .ok (.aload_n 0, 1) := by decide +kernel
theorem dL_law_468 : decode cL_law 468 = .ok (.iload_n 3, 1) := by decide +kernel
theorem dL_law_469 : decode cL_law 469 = .ok (.iconst 2, 1) := by decide +kernel
theorem dL_law_470 : decode cL_law 470 = .ok (.iadd, 1) := by decide +kernel
theorem dL_law_471 : decode cL_law 471 = .ok (.iaload, 1) := by decide +kernel
theorem dL_law_472 : decode cL_law 472 = .ok (.aload_n 0, 1) := by decide +kernel
theorem dL_law_473 : decode cL_law 473 = .ok (.iload_n 3, 1) := by decide +kernel
theorem dL_law_474 : decode cL_law 474 = .ok (.iconst 3, 1) := by decide +kernel
theorem dL_law_475 : decode cL_law 475 = .ok (.iadd, 1) := by decide +kernel
theorem dL_law_476 : decode cL_law 476 = .ok (.iaload, 1) := by decide +kernel
theorem dL_law_477 : decode cL_law 477 = .ok (.invokevirtual 51, 3) := by decide +kernel
theorem dL_law_480 : decode cL_law 480 = .ok (.if_icmp .eq 960, 3) := by decide +kernel
theorem dL_law_483 : decode cL_law 483 = .ok (.iconst 0, 1) := by decide +kernel
theorem dL_law_484 : decode cL_law 484 = .ok (.ireturn, 1) := by decide +kernel
theorem dL_law_485 : decode cL_law 485 = .ok (.aload_n 1, 1) := by decide +kernel
theorem dL_law_486 : decode cL_law 486 = .ok (.aload_n 0, 1) := by decide +kernel
theorem dL_law_487 : decode cL_law 487 = .ok (.iload_n 3, 1) := by decide +kernel
theorem dL_law_488 : decode cL_law 488 = .ok (.iconst 1, 1) := by decide +kernel
theorem dL_law_489 : decode cL_law 489 = .ok (.iadd, 1) := by decide +kernel
theorem dL_law_490 : decode cL_law 490 = .ok (.iaload, 1) := by decide +kernel
theorem dL_law_491 : decode cL_law 491 = .ok (.aload_n 0, 1) := by decide +kernel
theorem dL_law_492 : decode cL_law 492 = .ok (.iload_n 3, 1) := by decide +kernel
theorem dL_law_493 : decode cL_law 493 = .ok (.iconst 2, 1) := by decide +kernel
theorem dL_law_494 : decode cL_law 494 = .ok (.iadd, 1) := by decide +kernel
theorem dL_law_495 : decode cL_law 495 = .ok (.iaload, 1) := by decide +kernel
theorem dL_law_496 : decode cL_law 496 = .ok (.invokevirtual 52, 3) := by decide +kernel
theorem dL_law_499 : decode cL_law 499 = .ok (.aload_n 2, 1) := by decide +kernel
theorem dL_law_500 : decode cL_law 500 = .ok (.aload_n 0, 1) := by decide +kernel
theorem dL_law_501 : decode cL_law 501 = .ok (.iload_n 3, 1) := by decide +kernel
theorem dL_law_502 : decode cL_law 502 = .ok (.iconst 1, 1) := by decide +kernel
theorem dL_law_503 : decode cL_law 503 = .ok (.iadd, 1) := by decide +kernel
theorem dL_law_504 : decode cL_law 504 = .ok (.iaload, 1) := by decide +kernel
theorem dL_law_505 : decode cL_law 505 = .ok (.aload_n 0, 1) := by decide +kernel
theorem dL_law_506 : decode cL_law 506 = .ok (.iload_n 3, 1) := by decide +kernel
theorem dL_law_507 : decode cL_law 507 = .ok (.iconst 2, 1) := by decide +kernel
theorem dL_law_508 : decode cL_law 508 = .ok (.iadd, 1) := by decide +kernel
theorem dL_law_509 : decode cL_law 509 = .ok (.iaload, 1) := by decide +kernel
theorem dL_law_510 : decode cL_law 510 = .ok (.invokevirtual 55, 3) := by decide +kernel
theorem dL_law_513 : decode cL_law 513 = .ok (.if_icmp .eq 927, 3) := by decide +kernel
theorem dL_law_516 : decode cL_law 516 = .ok (.iconst 0, 1) := by decide +kernel
theorem dL_law_517 : decode cL_law 517 = .ok (.ireturn, 1) := by decide +kernel
theorem dL_law_518 : decode cL_law 518 = .ok (.aload_n 1, 1) := by decide +kernel
theorem dL_law_519 : decode cL_law 519 = .ok (.aload_n 0, 1) := by decide +kernel
theorem dL_law_520 : decode cL_law 520 = .ok (.iload_n 3, 1) := by decide +kernel
theorem dL_law_521 : decode cL_law 521 = .ok (.iconst 1, 1) := by decide +kernel
theorem dL_law_522 : decode cL_law 522 = .ok (.iadd, 1) := by decide +kernel
theorem dL_law_523 : decode cL_law 523 = .ok (.iaload, 1) := by decide +kernel
theorem dL_law_524 : decode cL_law 524 = .ok (.aload_n 0, 1) := by decide +kernel
theorem dL_law_525 : decode cL_law 525 = .ok (.iload_n 3, 1) := by decide +kernel
theorem dL_law_526 : decode cL_law 526 = .ok (.iconst 2, 1) := by decide +kernel
theorem dL_law_527 : decode cL_law 527 = .ok (.iadd, 1) := by decide +kernel
theorem dL_law_528 : decode cL_law 528 = .ok (.iaload, 1) := by decide +kernel
theorem dL_law_529 : decode cL_law 529 = .ok (.invokevirtual 56, 3) := by decide +kernel
theorem dL_law_532 : decode cL_law 532 = .ok (.aload_n 2, 1) := by decide +kernel
theorem dL_law_533 : decode cL_law 533 = .ok (.aload_n 0, 1) := by decide +kernel
theorem dL_law_534 : decode cL_law 534 = .ok (.iload_n 3, 1) := by decide +kernel
theorem dL_law_535 : decode cL_law 535 = .ok (.iconst 1, 1) := by decide +kernel
theorem dL_law_536 : decode cL_law 536 = .ok (.iadd, 1) := by decide +kernel
theorem dL_law_537 : decode cL_law 537 = .ok (.iaload, 1) := by decide +kernel
theorem dL_law_538 : decode cL_law 538 = .ok (.aload_n 0, 1) := by decide +kernel
theorem dL_law_539 : decode cL_law 539 = .ok (.iload_n 3, 1) := by decide +kernel
theorem dL_law_540 : decode cL_law 540 = .ok (.iconst 2, 1) := by decide +kernel
theorem dL_law_541 : decode cL_law 541 = .ok (.iadd, 1) := by decide +kernel
theorem dL_law_542 : decode cL_law 542 = .ok (.iaload, 1) := by decide +kernel
theorem dL_law_543 : decode cL_law 543 = .ok (.invokevirtual 59, 3) := by decide +kernel
theorem dL_law_546 : decode cL_law 546 = .ok (.if_icmp .eq 894, 3) := by decide +kernel
theorem dL_law_549 : decode cL_law 549 = .ok (.iconst 0, 1) := by decide +kernel
theorem dL_law_550 : decode cL_law 550 = .ok (.ireturn, 1) := by decide +kernel
theorem dL_law_551 : decode cL_law 551 = .ok (.aload_n 1, 1) := by decide +kernel
theorem dL_law_552 : decode cL_law 552 = .ok (.aload_n 0, 1) := by decide +kernel
theorem dL_law_553 : decode cL_law 553 = .ok (.iload_n 3, 1) := by decide +kernel
theorem dL_law_554 : decode cL_law 554 = .ok (.iconst 1, 1) := by decide +kernel
theorem dL_law_555 : decode cL_law 555 = .ok (.iadd, 1) := by decide +kernel
theorem dL_law_556 : decode cL_law 556 = .ok (.iaload, 1) := by decide +kernel
theorem dL_law_557 : decode cL_law 557 = .ok (.invokevirtual 60, 3) := by decide +kernel
theorem dL_law_560 : decode cL_law 560 = .ok (.aload_n 2, 1) := by decide +kernel
theorem dL_law_561 : decode cL_law 561 = .ok (.aload_n 0, 1) := by decide +kernel
theorem dL_law_562 : decode cL_law 562 = .ok (.iload_n 3, 1) := by decide +kernel
theorem dL_law_563 : decode cL_law 563 = .ok (.iconst 1, 1) := by decide +kernel
theorem dL_law_564 : decode cL_law 564 = .ok (.iadd, 1) := by decide +kernel
theorem dL_law_565 : decode cL_law 565 = .ok (.iaload, 1) := by decide +kernel
theorem dL_law_566 : decode cL_law 566 = .ok (.invokevirtual 63, 3) := by decide +kernel
theorem dL_law_569 : decode cL_law 569 = .ok (.if_icmp .eq 871, 3) := by decide +kernel
theorem dL_law_572 : decode cL_law 572 = .ok (.iconst 0, 1) := by decide +kernel
theorem dL_law_573 : decode cL_law 573 = .ok (.ireturn, 1) := by decide +kernel
theorem dL_law_574 : decode cL_law 574 = .ok (.aload_n 1, 1) := by decide +kernel
theorem dL_law_575 : decode cL_law 575 = .ok (.aload_n 0, 1) := by decide +kernel
theorem dL_law_576 : decode cL_law 576 = .ok (.iload_n 3, 1) := by decide +kernel
theorem dL_law_577 : decode cL_law 577 = .ok (.iconst 1, 1) := by decide +kernel
theorem dL_law_578 : decode cL_law 578 = .ok (.iadd, 1) := by decide +kernel
theorem dL_law_579 : decode cL_law 579 = .ok (.iaload, 1) := by decide +kernel
theorem dL_law_580 : decode cL_law 580 = .ok (.invokevirtual 64, 3) := by decide +kernel
theorem dL_law_583 : decode cL_law 583 = .ok (.aload_n 2, 1) := by decide +kernel
theorem dL_law_584 : decode cL_law 584 = .ok (.aload_n 0, 1) := by decide +kernel
theorem dL_law_585 : decode cL_law 585 = .ok (.iload_n 3, 1) := by decide +kernel
theorem dL_law_586 : decode cL_law 586 = .ok (.iconst 1, 1) := by decide +kernel
theorem dL_law_587 : decode cL_law 587 = .ok (.iadd, 1) := by decide +kernel
theorem dL_law_588 : decode cL_law 588 = .ok (.iaload, 1) := by decide +kernel
theorem dL_law_589 : decode cL_law 589 = .ok (.invokevirtual 67, 3) := by decide +kernel
theorem dL_law_592 : decode cL_law 592 = .ok (.if_icmp .eq 848, 3) := by decide +kernel
theorem dL_law_595 : decode cL_law 595 = .ok (.iconst 0, 1) := by decide +kernel
theorem dL_law_596 : decode cL_law 596 = .ok (.ireturn, 1) := by decide +kernel
theorem dL_law_597 : decode cL_law 597 = .ok (.aload_n 1, 1) := by decide +kernel
theorem dL_law_598 : decode cL_law 598 = .ok (.aload_n 0, 1) := by decide +kernel
theorem dL_law_599 : decode cL_law 599 = .ok (.iload_n 3, 1) := by decide +kernel
theorem dL_law_600 : decode cL_law 600 = .ok (.iconst 1, 1) := by decide +kernel
theorem dL_law_601 : decode cL_law 601 = .ok (.iadd, 1) := by decide +kernel
theorem dL_law_602 : decode cL_law 602 = .ok (.iaload, 1) := by decide +kernel
theorem dL_law_603 : decode cL_law 603 = .ok (.invokevirtual 68, 3) := by decide +kernel
theorem dL_law_606 : decode cL_law 606 = .ok (.aload_n 2, 1) := by decide +kernel
theorem dL_law_607 : decode cL_law 607 = .ok (.aload_n 0, 1) := by decide +kernel
theorem dL_law_608 : decode cL_law 608 = .ok (.iload_n 3, 1) := by decide +kernel
theorem dL_law_609 : decode cL_law 609 = .ok (.iconst 1, 1) := by decide +kernel
theorem dL_law_610 : decode cL_law 610 = .ok (.iadd, 1) := by decide +kernel
theorem dL_law_611 : decode cL_law 611 = .ok (.iaload, 1) := by decide +kernel
theorem dL_law_612 : decode cL_law 612 = .ok (.invokevirtual 71, 3) := by decide +kernel
theorem dL_law_615 : decode cL_law 615 = .ok (.if_icmp .eq 825, 3) := by decide +kernel
theorem dL_law_618 : decode cL_law 618 = .ok (.iconst 0, 1) := by decide +kernel
theorem dL_law_619 : decode cL_law 619 = .ok (.ireturn, 1) := by decide +kernel
theorem dL_law_620 : decode cL_law 620 = .ok (.aload_n 1, 1) := by decide +kernel
theorem dL_law_621 : decode cL_law 621 = .ok (.aload_n 0, 1) := by decide +kernel
theorem dL_law_622 : decode cL_law 622 = .ok (.iload_n 3, 1) := by decide +kernel
theorem dL_law_623 : decode cL_law 623 = .ok (.iconst 1, 1) := by decide +kernel
theorem dL_law_624 : decode cL_law 624 = .ok (.iadd, 1) := by decide +kernel
theorem dL_law_625 : decode cL_law 625 = .ok (.iaload, 1) := by decide +kernel
theorem dL_law_626 : decode cL_law 626 = .ok (.aload_n 0, 1) := by decide +kernel
theorem dL_law_627 : decode cL_law 627 = .ok (.iload_n 3, 1) := by decide +kernel
theorem dL_law_628 : decode cL_law 628 = .ok (.iconst 2, 1) := by decide +kernel
theorem dL_law_629 : decode cL_law 629 = .ok (.iadd, 1) := by decide +kernel
theorem dL_law_630 : decode cL_law 630 = .ok (.iaload, 1) := by decide +kernel
theorem dL_law_631 : decode cL_law 631 = .ok (.aload_n 0, 1) := by decide +kernel
theorem dL_law_632 : decode cL_law 632 = .ok (.iload_n 3, 1) := by decide +kernel
theorem dL_law_633 : decode cL_law 633 = .ok (.iconst 3, 1) := by decide +kernel
theorem dL_law_634 : decode cL_law 634 = .ok (.iadd, 1) := by decide +kernel
theorem dL_law_635 : decode cL_law 635 = .ok (.iaload, 1) := by decide +kernel
theorem dL_law_636 : decode cL_law 636 = .ok (.invokevirtual 72, 3) := by decide +kernel
theorem dL_law_639 : decode cL_law 639 = .ok (.aload_n 2, 1) := by decide +kernel
theorem dL_law_640 : decode cL_law 640 = .ok (.aload_n 0, 1) := by decide +kernel
theorem dL_law_641 : decode cL_law 641 = .ok (.iload_n 3, 1) := by decide +kernel
theorem dL_law_642 : decode cL_law 642 = .ok (.iconst 1, 1) := by decide +kernel
theorem dL_law_643 : decode cL_law 643 = .ok (.iadd, 1) := by decide +kernel
theorem dL_law_644 : decode cL_law 644 = .ok (.iaload, 1) := by decide +kernel
theorem dL_law_645 : decode cL_law 645 = .ok (.aload_n 0, 1) := by decide +kernel
theorem dL_law_646 : decode cL_law 646 = .ok (.iload_n 3, 1) := by decide +kernel
theorem dL_law_647 : decode cL_law 647 = .ok (.iconst 2, 1) := by decide +kernel
theorem dL_law_648 : decode cL_law 648 = .ok (.iadd, 1) := by decide +kernel
theorem dL_law_649 : decode cL_law 649 = .ok (.iaload, 1) := by decide +kernel
theorem dL_law_650 : decode cL_law 650 = .ok (.aload_n 0, 1) := by decide +kernel
theorem dL_law_651 : decode cL_law 651 = .ok (.iload_n 3, 1) := by decide +kernel
theorem dL_law_652 : decode cL_law 652 = .ok (.iconst 3, 1) := by decide +kernel
theorem dL_law_653 : decode cL_law 653 = .ok (.iadd, 1) := by decide +kernel
theorem dL_law_654 : decode cL_law 654 = .ok (.iaload, 1) := by decide +kernel
theorem dL_law_655 : decode cL_law 655 = .ok (.invokevirtual 75, 3) := by decide +kernel
theorem dL_law_658 : decode cL_law 658 = .ok (.if_icmp .eq 782, 3) := by decide +kernel
theorem dL_law_661 : decode cL_law 661 = .ok (.iconst 0, 1) := by decide +kernel
theorem dL_law_662 : decode cL_law 662 = .ok (.ireturn, 1) := by decide +kernel
theorem dL_law_663 : decode cL_law 663 = .ok (.aload_n 1, 1) := by decide +kernel
theorem dL_law_664 : decode cL_law 664 = .ok (.aload_n 0, 1) := by decide +kernel
theorem dL_law_665 : decode cL_law 665 = .ok (.iload_n 3, 1) := by decide +kernel
theorem dL_law_666 : decode cL_law 666 = .ok (.iconst 1, 1) := by decide +kernel
theorem dL_law_667 : decode cL_law 667 = .ok (.iadd, 1) := by decide +kernel
theorem dL_law_668 : decode cL_law 668 = .ok (.iaload, 1) := by decide +kernel
theorem dL_law_669 : decode cL_law 669 = .ok (.aload_n 0, 1) := by decide +kernel
theorem dL_law_670 : decode cL_law 670 = .ok (.iload_n 3, 1) := by decide +kernel
theorem dL_law_671 : decode cL_law 671 = .ok (.iconst 2, 1) := by decide +kernel
theorem dL_law_672 : decode cL_law 672 = .ok (.iadd, 1) := by decide +kernel
theorem dL_law_673 : decode cL_law 673 = .ok (.iaload, 1) := by decide +kernel
theorem dL_law_674 : decode cL_law 674 = .ok (.invokevirtual 76, 3) := by decide +kernel
theorem dL_law_677 : decode cL_law 677 = .ok (.aload_n 2, 1) := by decide +kernel
theorem dL_law_678 : decode cL_law 678 = .ok (.aload_n 0, 1) := by decide +kernel
theorem dL_law_679 : decode cL_law 679 = .ok (.iload_n 3, 1) := by decide +kernel
theorem dL_law_680 : decode cL_law 680 = .ok (.iconst 1, 1) := by decide +kernel
theorem dL_law_681 : decode cL_law 681 = .ok (.iadd, 1) := by decide +kernel
theorem dL_law_682 : decode cL_law 682 = .ok (.iaload, 1) := by decide +kernel
theorem dL_law_683 : decode cL_law 683 = .ok (.aload_n 0, 1) := by decide +kernel
theorem dL_law_684 : decode cL_law 684 = .ok (.iload_n 3, 1) := by decide +kernel
theorem dL_law_685 : decode cL_law 685 = .ok (.iconst 2, 1) := by decide +kernel
theorem dL_law_686 : decode cL_law 686 = .ok (.iadd, 1) := by decide +kernel
theorem dL_law_687 : decode cL_law 687 = .ok (.iaload, 1) := by decide +kernel
theorem dL_law_688 : decode cL_law 688 = .ok (.invokevirtual 79, 3) := by decide +kernel
theorem dL_law_691 : decode cL_law 691 = .ok (.if_icmp .eq 749, 3) := by decide +kernel
theorem dL_law_694 : decode cL_law 694 = .ok (.iconst 0, 1) := by decide +kernel
theorem dL_law_695 : decode cL_law 695 = .ok (.ireturn, 1) := by decide +kernel
theorem dL_law_696 : decode cL_law 696 = .ok (.aload_n 1, 1) := by decide +kernel
theorem dL_law_697 : decode cL_law 697 = .ok (.aload_n 0, 1) := by decide +kernel
theorem dL_law_698 : decode cL_law 698 = .ok (.iload_n 3, 1) := by decide +kernel
theorem dL_law_699 : decode cL_law 699 = .ok (.iconst 1, 1) := by decide +kernel
theorem dL_law_700 : decode cL_law 700 = .ok (.iadd, 1) := by decide +kernel
theorem dL_law_701 : decode cL_law 701 = .ok (.iaload, 1) := by decide +kernel
theorem dL_law_702 : decode cL_law 702 = .ok (.aload_n 0, 1) := by decide +kernel
theorem dL_law_703 : decode cL_law 703 = .ok (.iload_n 3, 1) := by decide +kernel
theorem dL_law_704 : decode cL_law 704 = .ok (.iconst 2, 1) := by decide +kernel
theorem dL_law_705 : decode cL_law 705 = .ok (.iadd, 1) := by decide +kernel
theorem dL_law_706 : decode cL_law 706 = .ok (.iaload, 1) := by decide +kernel
theorem dL_law_707 : decode cL_law 707 = .ok (.invokevirtual 80, 3) := by decide +kernel
theorem dL_law_710 : decode cL_law 710 = .ok (.aload_n 2, 1) := by decide +kernel
theorem dL_law_711 : decode cL_law 711 = .ok (.aload_n 0, 1) := by decide +kernel
theorem dL_law_712 : decode cL_law 712 = .ok (.iload_n 3, 1) := by decide +kernel
theorem dL_law_713 : decode cL_law 713 = .ok (.iconst 1, 1) := by decide +kernel
theorem dL_law_714 : decode cL_law 714 = .ok (.iadd, 1) := by decide +kernel
theorem dL_law_715 : decode cL_law 715 = .ok (.iaload, 1) := by decide +kernel
theorem dL_law_716 : decode cL_law 716 = .ok (.aload_n 0, 1) := by decide +kernel
theorem dL_law_717 : decode cL_law 717 = .ok (.iload_n 3, 1) := by decide +kernel
theorem dL_law_718 : decode cL_law 718 = .ok (.iconst 2, 1) := by decide +kernel
theorem dL_law_719 : decode cL_law 719 = .ok (.iadd, 1) := by decide +kernel
theorem dL_law_720 : decode cL_law 720 = .ok (.iaload, 1) := by decide +kernel
theorem dL_law_721 : decode cL_law 721 = .ok (.invokevirtual 83, 3) := by decide +kernel
theorem dL_law_724 : decode cL_law 724 = .ok (.if_icmp .eq 716, 3) := by decide +kernel
theorem dL_law_727 : decode cL_law 727 = .ok (.iconst 0, 1) := by decide +kernel
theorem dL_law_728 : decode cL_law 728 = .ok (.ireturn, 1) := by decide +kernel
theorem dL_law_729 : decode cL_law 729 = .ok (.aload_n 1, 1) := by decide +kernel
theorem dL_law_730 : decode cL_law 730 = .ok (.aload_n 0, 1) := by decide +kernel
theorem dL_law_731 : decode cL_law 731 = .ok (.iload_n 3, 1) := by decide +kernel
theorem dL_law_732 : decode cL_law 732 = .ok (.iconst 1, 1) := by decide +kernel
theorem dL_law_733 : decode cL_law 733 = .ok (.iadd, 1) := by decide +kernel
theorem dL_law_734 : decode cL_law 734 = .ok (.iaload, 1) := by decide +kernel
theorem dL_law_735 : decode cL_law 735 = .ok (.aload_n 0, 1) := by decide +kernel
theorem dL_law_736 : decode cL_law 736 = .ok (.iload_n 3, 1) := by decide +kernel
theorem dL_law_737 : decode cL_law 737 = .ok (.iconst 2, 1) := by decide +kernel
theorem dL_law_738 : decode cL_law 738 = .ok (.iadd, 1) := by decide +kernel
theorem dL_law_739 : decode cL_law 739 = .ok (.iaload, 1) := by decide +kernel
theorem dL_law_740 : decode cL_law 740 = .ok (.aload_n 0, 1) := by decide +kernel
theorem dL_law_741 : decode cL_law 741 = .ok (.iload_n 3, 1) := by decide +kernel
theorem dL_law_742 : decode cL_law 742 = .ok (.iconst 3, 1) := by decide +kernel
theorem dL_law_743 : decode cL_law 743 = .ok (.iadd, 1) := by decide +kernel
theorem dL_law_744 : decode cL_law 744 = .ok (.iaload, 1) := by decide +kernel
theorem dL_law_745 : decode cL_law 745 = .ok (.invokevirtual 84, 3) := by decide +kernel
theorem dL_law_748 : decode cL_law 748 = .ok (.aload_n 2, 1) := by decide +kernel
theorem dL_law_749 : decode cL_law 749 = .ok (.aload_n 0, 1) := by decide +kernel
theorem dL_law_750 : decode cL_law 750 = .ok (.iload_n 3, 1) := by decide +kernel
theorem dL_law_751 : decode cL_law 751 = .ok (.iconst 1, 1) := by decide +kernel
theorem dL_law_752 : decode cL_law 752 = .ok (.iadd, 1) := by decide +kernel
theorem dL_law_753 : decode cL_law 753 = .ok (.iaload, 1) := by decide +kernel
theorem dL_law_754 : decode cL_law 754 = .ok (.aload_n 0, 1) := by decide +kernel
theorem dL_law_755 : decode cL_law 755 = .ok (.iload_n 3, 1) := by decide +kernel
theorem dL_law_756 : decode cL_law 756 = .ok (.iconst 2, 1) := by decide +kernel
theorem dL_law_757 : decode cL_law 757 = .ok (.iadd, 1) := by decide +kernel
theorem dL_law_758 : decode cL_law 758 = .ok (.iaload, 1) := by decide +kernel
theorem dL_law_759 : decode cL_law 759 = .ok (.aload_n 0, 1) := by decide +kernel
theorem dL_law_760 : decode cL_law 760 = .ok (.iload_n 3, 1) := by decide +kernel
theorem dL_law_761 : decode cL_law 761 = .ok (.iconst 3, 1) := by decide +kernel
theorem dL_law_762 : decode cL_law 762 = .ok (.iadd, 1) := by decide +kernel
theorem dL_law_763 : decode cL_law 763 = .ok (.iaload, 1) := by decide +kernel
theorem dL_law_764 : decode cL_law 764 = .ok (.invokevirtual 87, 3) := by decide +kernel
theorem dL_law_767 : decode cL_law 767 = .ok (.if_icmp .eq 673, 3) := by decide +kernel
theorem dL_law_770 : decode cL_law 770 = .ok (.iconst 0, 1) := by decide +kernel
theorem dL_law_771 : decode cL_law 771 = .ok (.ireturn, 1) := by decide +kernel
theorem dL_law_772 : decode cL_law 772 = .ok (.aload_n 1, 1) := by decide +kernel
theorem dL_law_773 : decode cL_law 773 = .ok (.aload_n 0, 1) := by decide +kernel
theorem dL_law_774 : decode cL_law 774 = .ok (.iload_n 3, 1) := by decide +kernel
theorem dL_law_775 : decode cL_law 775 = .ok (.iconst 1, 1) := by decide +kernel
theorem dL_law_776 : decode cL_law 776 = .ok (.iadd, 1) := by decide +kernel
theorem dL_law_777 : decode cL_law 777 = .ok (.iaload, 1) := by decide +kernel
theorem dL_law_778 : decode cL_law 778 = .ok (.aload_n 0, 1) := by decide +kernel
theorem dL_law_779 : decode cL_law 779 = .ok (.iload_n 3, 1) := by decide +kernel
theorem dL_law_780 : decode cL_law 780 = .ok (.iconst 2, 1) := by decide +kernel
theorem dL_law_781 : decode cL_law 781 = .ok (.iadd, 1) := by decide +kernel
theorem dL_law_782 : decode cL_law 782 = .ok (.iaload, 1) := by decide +kernel
theorem dL_law_783 : decode cL_law 783 = .ok (.aload_n 0, 1) := by decide +kernel
theorem dL_law_784 : decode cL_law 784 = .ok (.iload_n 3, 1) := by decide +kernel
theorem dL_law_785 : decode cL_law 785 = .ok (.iconst 3, 1) := by decide +kernel
theorem dL_law_786 : decode cL_law 786 = .ok (.iadd, 1) := by decide +kernel
theorem dL_law_787 : decode cL_law 787 = .ok (.iaload, 1) := by decide +kernel
theorem dL_law_788 : decode cL_law 788 = .ok (.invokevirtual 88, 3) := by decide +kernel
theorem dL_law_791 : decode cL_law 791 = .ok (.aload_n 2, 1) := by decide +kernel
theorem dL_law_792 : decode cL_law 792 = .ok (.aload_n 0, 1) := by decide +kernel
theorem dL_law_793 : decode cL_law 793 = .ok (.iload_n 3, 1) := by decide +kernel
theorem dL_law_794 : decode cL_law 794 = .ok (.iconst 1, 1) := by decide +kernel
theorem dL_law_795 : decode cL_law 795 = .ok (.iadd, 1) := by decide +kernel
theorem dL_law_796 : decode cL_law 796 = .ok (.iaload, 1) := by decide +kernel
theorem dL_law_797 : decode cL_law 797 = .ok (.aload_n 0, 1) := by decide +kernel
theorem dL_law_798 : decode cL_law 798 = .ok (.iload_n 3, 1) := by decide +kernel
theorem dL_law_799 : decode cL_law 799 = .ok (.iconst 2, 1) := by decide +kernel
theorem dL_law_800 : decode cL_law 800 = .ok (.iadd, 1) := by decide +kernel
theorem dL_law_801 : decode cL_law 801 = .ok (.iaload, 1) := by decide +kernel
theorem dL_law_802 : decode cL_law 802 = .ok (.aload_n 0, 1) := by decide +kernel
theorem dL_law_803 : decode cL_law 803 = .ok (.iload_n 3, 1) := by decide +kernel
theorem dL_law_804 : decode cL_law 804 = .ok (.iconst 3, 1) := by decide +kernel
theorem dL_law_805 : decode cL_law 805 = .ok (.iadd, 1) := by decide +kernel
theorem dL_law_806 : decode cL_law 806 = .ok (.iaload, 1) := by decide +kernel
theorem dL_law_807 : decode cL_law 807 = .ok (.invokevirtual 91, 3) := by decide +kernel
theorem dL_law_810 : decode cL_law 810 = .ok (.if_icmp .eq 630, 3) := by decide +kernel
theorem dL_law_813 : decode cL_law 813 = .ok (.iconst 0, 1) := by decide +kernel
theorem dL_law_814 : decode cL_law 814 = .ok (.ireturn, 1) := by decide +kernel
theorem dL_law_815 : decode cL_law 815 = .ok (.aload_n 1, 1) := by decide +kernel
theorem dL_law_816 : decode cL_law 816 = .ok (.aload_n 0, 1) := by decide +kernel
theorem dL_law_817 : decode cL_law 817 = .ok (.iload_n 3, 1) := by decide +kernel
theorem dL_law_818 : decode cL_law 818 = .ok (.iconst 1, 1) := by decide +kernel
theorem dL_law_819 : decode cL_law 819 = .ok (.iadd, 1) := by decide +kernel
theorem dL_law_820 : decode cL_law 820 = .ok (.iaload, 1) := by decide +kernel
theorem dL_law_821 : decode cL_law 821 = .ok (.aload_n 0, 1) := by decide +kernel
theorem dL_law_822 : decode cL_law 822 = .ok (.iload_n 3, 1) := by decide +kernel
theorem dL_law_823 : decode cL_law 823 = .ok (.iconst 2, 1) := by decide +kernel
theorem dL_law_824 : decode cL_law 824 = .ok (.iadd, 1) := by decide +kernel
theorem dL_law_825 : decode cL_law 825 = .ok (.iaload, 1) := by decide +kernel
theorem dL_law_826 : decode cL_law 826 = .ok (.invokevirtual 92, 3) := by decide +kernel
theorem dL_law_829 : decode cL_law 829 = .ok (.aload_n 2, 1) := by decide +kernel
theorem dL_law_830 : decode cL_law 830 = .ok (.aload_n 0, 1) := by decide +kernel
theorem dL_law_831 : decode cL_law 831 = .ok (.iload_n 3, 1) := by decide +kernel
theorem dL_law_832 : decode cL_law 832 = .ok (.iconst 1, 1) := by decide +kernel
theorem dL_law_833 : decode cL_law 833 = .ok (.iadd, 1) := by decide +kernel
theorem dL_law_834 : decode cL_law 834 = .ok (.iaload, 1) := by decide +kernel
theorem dL_law_835 : decode cL_law 835 = .ok (.aload_n 0, 1) := by decide +kernel
theorem dL_law_836 : decode cL_law 836 = .ok (.iload_n 3, 1) := by decide +kernel
theorem dL_law_837 : decode cL_law 837 = .ok (.iconst 2, 1) := by decide +kernel
theorem dL_law_838 : decode cL_law 838 = .ok (.iadd, 1) := by decide +kernel
theorem dL_law_839 : decode cL_law 839 = .ok (.iaload, 1) := by decide +kernel
theorem dL_law_840 : decode cL_law 840 = .ok (.invokevirtual 96, 3) := by decide +kernel
theorem dL_law_843 : decode cL_law 843 = .ok (.lcmp, 1) := by decide +kernel
theorem dL_law_844 : decode cL_law 844 = .ok (.ifCond .eq 596, 3) := by decide +kernel
theorem dL_law_847 : decode cL_law 847 = .ok (.iconst 0, 1) := by decide +kernel
theorem dL_law_848 : decode cL_law 848 = .ok (.ireturn, 1) := by decide +kernel
theorem dL_law_849 : decode cL_law 849 = .ok (.aload_n 1, 1) := by decide +kernel
theorem dL_law_850 : decode cL_law 850 = .ok (.aload_n 0, 1) := by decide +kernel
theorem dL_law_851 : decode cL_law 851 = .ok (.iload_n 3, 1) := by decide +kernel
theorem dL_law_852 : decode cL_law 852 = .ok (.iconst 1, 1) := by decide +kernel
theorem dL_law_853 : decode cL_law 853 = .ok (.iadd, 1) := by decide +kernel
theorem dL_law_854 : decode cL_law 854 = .ok (.iaload, 1) := by decide +kernel
theorem dL_law_855 : decode cL_law 855 = .ok (.invokevirtual 97, 3) := by decide +kernel
theorem dL_law_858 : decode cL_law 858 = .ok (.aload_n 2, 1) := by decide +kernel
theorem dL_law_859 : decode cL_law 859 = .ok (.aload_n 0, 1) := by decide +kernel
theorem dL_law_860 : decode cL_law 860 = .ok (.iload_n 3, 1) := by decide +kernel
theorem dL_law_861 : decode cL_law 861 = .ok (.iconst 1, 1) := by decide +kernel
theorem dL_law_862 : decode cL_law 862 = .ok (.iadd, 1) := by decide +kernel
theorem dL_law_863 : decode cL_law 863 = .ok (.iaload, 1) := by decide +kernel
theorem dL_law_864 : decode cL_law 864 = .ok (.invokevirtual 100, 3) := by decide +kernel
theorem dL_law_867 : decode cL_law 867 = .ok (.if_icmp .eq 573, 3) := by decide +kernel
theorem dL_law_870 : decode cL_law 870 = .ok (.iconst 0, 1) := by decide +kernel
theorem dL_law_871 : decode cL_law 871 = .ok (.ireturn, 1) := by decide +kernel
theorem dL_law_872 : decode cL_law 872 = .ok (.aload_n 1, 1) := by decide +kernel
theorem dL_law_873 : decode cL_law 873 = .ok (.aload_n 0, 1) := by decide +kernel
theorem dL_law_874 : decode cL_law 874 = .ok (.iload_n 3, 1) := by decide +kernel
theorem dL_law_875 : decode cL_law 875 = .ok (.iconst 1, 1) := by decide +kernel
theorem dL_law_876 : decode cL_law 876 = .ok (.iadd, 1) := by decide +kernel
theorem dL_law_877 : decode cL_law 877 = .ok (.iaload, 1) := by decide +kernel
theorem dL_law_878 : decode cL_law 878 = .ok (.invokevirtual 101, 3) := by decide +kernel
theorem dL_law_881 : decode cL_law 881 = .ok (.aload_n 2, 1) := by decide +kernel
theorem dL_law_882 : decode cL_law 882 = .ok (.aload_n 0, 1) := by decide +kernel
theorem dL_law_883 : decode cL_law 883 = .ok (.iload_n 3, 1) := by decide +kernel
theorem dL_law_884 : decode cL_law 884 = .ok (.iconst 1, 1) := by decide +kernel
theorem dL_law_885 : decode cL_law 885 = .ok (.iadd, 1) := by decide +kernel
theorem dL_law_886 : decode cL_law 886 = .ok (.iaload, 1) := by decide +kernel
theorem dL_law_887 : decode cL_law 887 = .ok (.invokevirtual 104, 3) := by decide +kernel
theorem dL_law_890 : decode cL_law 890 = .ok (.if_icmp .eq 550, 3) := by decide +kernel
theorem dL_law_893 : decode cL_law 893 = .ok (.iconst 0, 1) := by decide +kernel
theorem dL_law_894 : decode cL_law 894 = .ok (.ireturn, 1) := by decide +kernel
theorem dL_law_895 : decode cL_law 895 = .ok (.aload_n 1, 1) := by decide +kernel
theorem dL_law_896 : decode cL_law 896 = .ok (.aload_n 0, 1) := by decide +kernel
theorem dL_law_897 : decode cL_law 897 = .ok (.iload_n 3, 1) := by decide +kernel
theorem dL_law_898 : decode cL_law 898 = .ok (.iconst 1, 1) := by decide +kernel
theorem dL_law_899 : decode cL_law 899 = .ok (.iadd, 1) := by decide +kernel
theorem dL_law_900 : decode cL_law 900 = .ok (.iaload, 1) := by decide +kernel
theorem dL_law_901 : decode cL_law 901 = .ok (.aload_n 0, 1) := by decide +kernel
theorem dL_law_902 : decode cL_law 902 = .ok (.iload_n 3, 1) := by decide +kernel
theorem dL_law_903 : decode cL_law 903 = .ok (.iconst 2, 1) := by decide +kernel
theorem dL_law_904 : decode cL_law 904 = .ok (.iadd, 1) := by decide +kernel
theorem dL_law_905 : decode cL_law 905 = .ok (.iaload, 1) := by decide +kernel
theorem dL_law_906 : decode cL_law 906 = .ok (.invokevirtual 105, 3) := by decide +kernel
theorem dL_law_909 : decode cL_law 909 = .ok (.aload_n 2, 1) := by decide +kernel
theorem dL_law_910 : decode cL_law 910 = .ok (.aload_n 0, 1) := by decide +kernel
theorem dL_law_911 : decode cL_law 911 = .ok (.iload_n 3, 1) := by decide +kernel
theorem dL_law_912 : decode cL_law 912 = .ok (.iconst 1, 1) := by decide +kernel
theorem dL_law_913 : decode cL_law 913 = .ok (.iadd, 1) := by decide +kernel
theorem dL_law_914 : decode cL_law 914 = .ok (.iaload, 1) := by decide +kernel
theorem dL_law_915 : decode cL_law 915 = .ok (.aload_n 0, 1) := by decide +kernel
theorem dL_law_916 : decode cL_law 916 = .ok (.iload_n 3, 1) := by decide +kernel
theorem dL_law_917 : decode cL_law 917 = .ok (.iconst 2, 1) := by decide +kernel
theorem dL_law_918 : decode cL_law 918 = .ok (.iadd, 1) := by decide +kernel
theorem dL_law_919 : decode cL_law 919 = .ok (.iaload, 1) := by decide +kernel
theorem dL_law_920 : decode cL_law 920 = .ok (.invokevirtual 108, 3) := by decide +kernel
theorem dL_law_923 : decode cL_law 923 = .ok (.if_icmp .eq 517, 3) := by decide +kernel
theorem dL_law_926 : decode cL_law 926 = .ok (.iconst 0, 1) := by decide +kernel
theorem dL_law_927 : decode cL_law 927 = .ok (.ireturn, 1) := by decide +kernel
theorem dL_law_928 : decode cL_law 928 = .ok (.aload_n 1, 1) := by decide +kernel
theorem dL_law_929 : decode cL_law 929 = .ok (.aload_n 0, 1) := by decide +kernel
theorem dL_law_930 : decode cL_law 930 = .ok (.iload_n 3, 1) := by decide +kernel
theorem dL_law_931 : decode cL_law 931 = .ok (.iconst 1, 1) := by decide +kernel
theorem dL_law_932 : decode cL_law 932 = .ok (.iadd, 1) := by decide +kernel
theorem dL_law_933 : decode cL_law 933 = .ok (.iaload, 1) := by decide +kernel
theorem dL_law_934 : decode cL_law 934 = .ok (.aload_n 0, 1) := by decide +kernel
theorem dL_law_935 : decode cL_law 935 = .ok (.iload_n 3, 1) := by decide +kernel
theorem dL_law_936 : decode cL_law 936 = .ok (.iconst 2, 1) := by decide +kernel
theorem dL_law_937 : decode cL_law 937 = .ok (.iadd, 1) := by decide +kernel
theorem dL_law_938 : decode cL_law 938 = .ok (.iaload, 1) := by decide +kernel
theorem dL_law_939 : decode cL_law 939 = .ok (.invokevirtual 109, 3) := by decide +kernel
theorem dL_law_942 : decode cL_law 942 = .ok (.aload_n 2, 1) := by decide +kernel
theorem dL_law_943 : decode cL_law 943 = .ok (.aload_n 0, 1) := by decide +kernel
theorem dL_law_944 : decode cL_law 944 = .ok (.iload_n 3, 1) := by decide +kernel
theorem dL_law_945 : decode cL_law 945 = .ok (.iconst 1, 1) := by decide +kernel
theorem dL_law_946 : decode cL_law 946 = .ok (.iadd, 1) := by decide +kernel
theorem dL_law_947 : decode cL_law 947 = .ok (.iaload, 1) := by decide +kernel
theorem dL_law_948 : decode cL_law 948 = .ok (.aload_n 0, 1) := by decide +kernel
theorem dL_law_949 : decode cL_law 949 = .ok (.iload_n 3, 1) := by decide +kernel
theorem dL_law_950 : decode cL_law 950 = .ok (.iconst 2, 1) := by decide +kernel
theorem dL_law_951 : decode cL_law 951 = .ok (.iadd, 1) := by decide +kernel
theorem dL_law_952 : decode cL_law 952 = .ok (.iaload, 1) := by decide +kernel
theorem dL_law_953 : decode cL_law 953 = .ok (.invokevirtual 112, 3) := by decide +kernel
theorem dL_law_956 : decode cL_law 956 = .ok (.if_icmp .eq 484, 3) := by decide +kernel
theorem dL_law_959 : decode cL_law 959 = .ok (.iconst 0, 1) := by decide +kernel
theorem dL_law_960 : decode cL_law 960 = .ok (.ireturn, 1) := by decide +kernel
theorem dL_law_961 : decode cL_law 961 = .ok (.aload_n 1, 1) := by decide +kernel
theorem dL_law_962 : decode cL_law 962 = .ok (.aload_n 0, 1) := by decide +kernel
theorem dL_law_963 : decode cL_law 963 = .ok (.iload_n 3, 1) := by decide +kernel
theorem dL_law_964 : decode cL_law 964 = .ok (.iconst 1, 1) := by decide +kernel
theorem dL_law_965 : decode cL_law 965 = .ok (.iadd, 1) := by decide +kernel
theorem dL_law_966 : decode cL_law 966 = .ok (.iaload, 1) := by decide +kernel
theorem dL_law_967 : decode cL_law 967 = .ok (.aload_n 0, 1) := by decide +kernel
theorem dL_law_968 : decode cL_law 968 = .ok (.iload_n 3, 1) := by decide +kernel
theorem dL_law_969 : decode cL_law 969 = .ok (.iconst 2, 1) := by decide +kernel
theorem dL_law_970 : decode cL_law 970 = .ok (.iadd, 1) := by decide +kernel
theorem dL_law_971 : decode cL_law 971 = .ok (.iaload, 1) := by decide +kernel
theorem dL_law_972 : decode cL_law 972 = .ok (.invokevirtual 113, 3) := by decide +kernel
theorem dL_law_975 : decode cL_law 975 = .ok (.aload_n 2, 1) := by decide +kernel
theorem dL_law_976 : decode cL_law 976 = .ok (.aload_n 0, 1) := by decide +kernel
theorem dL_law_977 : decode cL_law 977 = .ok (.iload_n 3, 1) := by decide +kernel
theorem dL_law_978 : decode cL_law 978 = .ok (.iconst 1, 1) := by decide +kernel
theorem dL_law_979 : decode cL_law 979 = .ok (.iadd, 1) := by decide +kernel
theorem dL_law_980 : decode cL_law 980 = .ok (.iaload, 1) := by decide +kernel
theorem dL_law_981 : decode cL_law 981 = .ok (.aload_n 0, 1) := by decide +kernel
theorem dL_law_982 : decode cL_law 982 = .ok (.iload_n 3, 1) := by decide +kernel
theorem dL_law_983 : decode cL_law 983 = .ok (.iconst 2, 1) := by decide +kernel
theorem dL_law_984 : decode cL_law 984 = .ok (.iadd, 1) := by decide +kernel
theorem dL_law_985 : decode cL_law 985 = .ok (.iaload, 1) := by decide +kernel
theorem dL_law_986 : decode cL_law 986 = .ok (.invokevirtual 116, 3) := by decide +kernel
theorem dL_law_989 : decode cL_law 989 = .ok (.if_icmp .eq 451, 3) := by decide +kernel
theorem dL_law_992 : decode cL_law 992 = .ok (.iconst 0, 1) := by decide +kernel
theorem dL_law_993 : decode cL_law 993 = .ok (.ireturn, 1) := by decide +kernel
theorem dL_law_994 : decode cL_law 994 = .ok (.aload_n 1, 1) := by decide +kernel
theorem dL_law_995 : decode cL_law 995 = .ok (.aload_n 0, 1) := by decide +kernel
theorem dL_law_996 : decode cL_law 996 = .ok (.iload_n 3, 1) := by decide +kernel
theorem dL_law_997 : decode cL_law 997 = .ok (.iconst 1, 1) := by decide +kernel
theorem dL_law_998 : decode cL_law 998 = .ok (.iadd, 1) := by decide +kernel
theorem dL_law_999 : decode cL_law 999 = .ok (.iaload, 1) := by decide +kernel
theorem dL_law_1000 : decode cL_law 1000 = .ok (.aload_n 0, 1) := by decide +kernel
theorem dL_law_1001 : decode cL_law 1001 = .ok (.iload_n 3, 1) := by decide +kernel
theorem dL_law_1002 : decode cL_law 1002 = .ok (.iconst 2, 1) := by decide +kernel
theorem dL_law_1003 : decode cL_law 1003 = .ok (.iadd, 1) := by decide +kernel
theorem dL_law_1004 : decode cL_law 1004 = .ok (.iaload, 1) := by decide +kernel
theorem dL_law_1005 : decode cL_law 1005 = .ok (.invokevirtual 117, 3) := by decide +kernel
theorem dL_law_1008 : decode cL_law 1008 = .ok (.aload_n 2, 1) := by decide +kernel
theorem dL_law_1009 : decode cL_law 1009 = .ok (.aload_n 0, 1) := by decide +kernel
theorem dL_law_1010 : decode cL_law 1010 = .ok (.iload_n 3, 1) := by decide +kernel
theorem dL_law_1011 : decode cL_law 1011 = .ok (.iconst 1, 1) := by decide +kernel
theorem dL_law_1012 : decode cL_law 1012 = .ok (.iadd, 1) := by decide +kernel
theorem dL_law_1013 : decode cL_law 1013 = .ok (.iaload, 1) := by decide +kernel
theorem dL_law_1014 : decode cL_law 1014 = .ok (.aload_n 0, 1) := by decide +kernel
theorem dL_law_1015 : decode cL_law 1015 = .ok (.iload_n 3, 1) := by decide +kernel
theorem dL_law_1016 : decode cL_law 1016 = .ok (.iconst 2, 1) := by decide +kernel
theorem dL_law_1017 : decode cL_law 1017 = .ok (.iadd, 1) := by decide +kernel
theorem dL_law_1018 : decode cL_law 1018 = .ok (.iaload, 1) := by decide +kernel
theorem dL_law_1019 : decode cL_law 1019 = .ok (.invokevirtual 120, 3) := by decide +kernel
theorem dL_law_1022 : decode cL_law 1022 = .ok (.if_icmp .eq 418, 3) := by decide +kernel
theorem dL_law_1025 : decode cL_law 1025 = .ok (.iconst 0, 1) := by decide +kernel
theorem dL_law_1026 : decode cL_law 1026 = .ok (.ireturn, 1) := by decide +kernel
theorem dL_law_1027 : decode cL_law 1027 = .ok (.aload_n 1, 1) := by decide +kernel
theorem dL_law_1028 : decode cL_law 1028 = .ok (.aload_n 0, 1) := by decide +kernel
theorem dL_law_1029 : decode cL_law 1029 = .ok (.iload_n 3, 1) := by decide +kernel
theorem dL_law_1030 : decode cL_law 1030 = .ok (.iconst 1, 1) := by decide +kernel
theorem dL_law_1031 : decode cL_law 1031 = .ok (.iadd, 1) := by decide +kernel
theorem dL_law_1032 : decode cL_law 1032 = .ok (.iaload, 1) := by decide +kernel
theorem dL_law_1033 : decode cL_law 1033 = .ok (.aload_n 0, 1) := by decide +kernel
theorem dL_law_1034 : decode cL_law 1034 = .ok (.iload_n 3, 1) := by decide +kernel
theorem dL_law_1035 : decode cL_law 1035 = .ok (.iconst 2, 1) := by decide +kernel
theorem dL_law_1036 : decode cL_law 1036 = .ok (.iadd, 1) := by decide +kernel
theorem dL_law_1037 : decode cL_law 1037 = .ok (.iaload, 1) := by decide +kernel
theorem dL_law_1038 : decode cL_law 1038 = .ok (.invokevirtual 121, 3) := by decide +kernel
theorem dL_law_1041 : decode cL_law 1041 = .ok (.aload_n 2, 1) := by decide +kernel
theorem dL_law_1042 : decode cL_law 1042 = .ok (.aload_n 0, 1) := by decide +kernel
theorem dL_law_1043 : decode cL_law 1043 = .ok (.iload_n 3, 1) := by decide +kernel
theorem dL_law_1044 : decode cL_law 1044 = .ok (.iconst 1, 1) := by decide +kernel
theorem dL_law_1045 : decode cL_law 1045 = .ok (.iadd, 1) := by decide +kernel
theorem dL_law_1046 : decode cL_law 1046 = .ok (.iaload, 1) := by decide +kernel
theorem dL_law_1047 : decode cL_law 1047 = .ok (.aload_n 0, 1) := by decide +kernel
theorem dL_law_1048 : decode cL_law 1048 = .ok (.iload_n 3, 1) := by decide +kernel
theorem dL_law_1049 : decode cL_law 1049 = .ok (.iconst 2, 1) := by decide +kernel
theorem dL_law_1050 : decode cL_law 1050 = .ok (.iadd, 1) := by decide +kernel
theorem dL_law_1051 : decode cL_law 1051 = .ok (.iaload, 1) := by decide +kernel
theorem dL_law_1052 : decode cL_law 1052 = .ok (.invokevirtual 124, 3) := by decide +kernel
theorem dL_law_1055 : decode cL_law 1055 = .ok (.if_icmp .eq 385, 3) := by decide +kernel
theorem dL_law_1058 : decode cL_law 1058 = .ok (.iconst 0, 1) := by decide +kernel
theorem dL_law_1059 : decode cL_law 1059 = .ok (.ireturn, 1) := by decide +kernel
theorem dL_law_1060 : decode cL_law 1060 = .ok (.aload_n 1, 1) := by decide +kernel
theorem dL_law_1061 : decode cL_law 1061 = .ok (.invokevirtual 125, 3) := by decide +kernel
theorem dL_law_1064 : decode cL_law 1064 = .ok (.aload_n 2, 1) := by decide +kernel
theorem dL_law_1065 : decode cL_law 1065 = .ok (.invokevirtual 129, 3) := by decide +kernel
theorem dL_law_1068 : decode cL_law 1068 = .ok (.if_icmp .eq 372, 3) := by decide +kernel
theorem dL_law_1071 : decode cL_law 1071 = .ok (.iconst 0, 1) := by decide +kernel
theorem dL_law_1072 : decode cL_law 1072 = .ok (.ireturn, 1) := by decide +kernel
theorem dL_law_1073 : decode cL_law 1073 = .ok (.aload_n 1, 1) := by decide +kernel
theorem dL_law_1074 : decode cL_law 1074 = .ok (.invokevirtual 130, 3) := by decide +kernel
theorem dL_law_1077 : decode cL_law 1077 = .ok (.aload_n 2, 1) := by decide +kernel
theorem dL_law_1078 : decode cL_law 1078 = .ok (.invokevirtual 133, 3) := by decide +kernel
theorem dL_law_1081 : decode cL_law 1081 = .ok (.if_icmp .eq 359, 3) := by decide +kernel
theorem dL_law_1084 : decode cL_law 1084 = .ok (.iconst 0, 1) := by decide +kernel
theorem dL_law_1085 : decode cL_law 1085 = .ok (.ireturn, 1) := by decide +kernel
theorem dL_law_1086 : decode cL_law 1086 = .ok (.aload_n 1, 1) := by decide +kernel
theorem dL_law_1087 : decode cL_law 1087 = .ok (.aload_n 0, 1) := by decide +kernel
theorem dL_law_1088 : decode cL_law 1088 = .ok (.iload_n 3, 1) := by decide +kernel
theorem dL_law_1089 : decode cL_law 1089 = .ok (.iconst 1, 1) := by decide +kernel
theorem dL_law_1090 : decode cL_law 1090 = .ok (.iadd, 1) := by decide +kernel
theorem dL_law_1091 : decode cL_law 1091 = .ok (.iaload, 1) := by decide +kernel
theorem dL_law_1092 : decode cL_law 1092 = .ok (.aload_n 0, 1) := by decide +kernel
theorem dL_law_1093 : decode cL_law 1093 = .ok (.iload_n 3, 1) := by decide +kernel
theorem dL_law_1094 : decode cL_law 1094 = .ok (.iconst 2, 1) := by decide +kernel
theorem dL_law_1095 : decode cL_law 1095 = .ok (.iadd, 1) := by decide +kernel
theorem dL_law_1096 : decode cL_law 1096 = .ok (.iaload, 1) := by decide +kernel
theorem dL_law_1097 : decode cL_law 1097 = .ok (.aload_n 0, 1) := by decide +kernel
theorem dL_law_1098 : decode cL_law 1098 = .ok (.iload_n 3, 1) := by decide +kernel
theorem dL_law_1099 : decode cL_law 1099 = .ok (.iconst 3, 1) := by decide +kernel
theorem dL_law_1100 : decode cL_law 1100 = .ok (.iadd, 1) := by decide +kernel
theorem dL_law_1101 : decode cL_law 1101 = .ok (.iaload, 1) := by decide +kernel
theorem dL_law_1102 : decode cL_law 1102 = .ok (.invokevirtual 134, 3) := by decide +kernel
theorem dL_law_1105 : decode cL_law 1105 = .ok (.aload_n 2, 1) := by decide +kernel
theorem dL_law_1106 : decode cL_law 1106 = .ok (.aload_n 0, 1) := by decide +kernel
theorem dL_law_1107 : decode cL_law 1107 = .ok (.iload_n 3, 1) := by decide +kernel
theorem dL_law_1108 : decode cL_law 1108 = .ok (.iconst 1, 1) := by decide +kernel
theorem dL_law_1109 : decode cL_law 1109 = .ok (.iadd, 1) := by decide +kernel
theorem dL_law_1110 : decode cL_law 1110 = .ok (.iaload, 1) := by decide +kernel
theorem dL_law_1111 : decode cL_law 1111 = .ok (.aload_n 0, 1) := by decide +kernel
theorem dL_law_1112 : decode cL_law 1112 = .ok (.iload_n 3, 1) := by decide +kernel
theorem dL_law_1113 : decode cL_law 1113 = .ok (.iconst 2, 1) := by decide +kernel
theorem dL_law_1114 : decode cL_law 1114 = .ok (.iadd, 1) := by decide +kernel
theorem dL_law_1115 : decode cL_law 1115 = .ok (.iaload, 1) := by decide +kernel
theorem dL_law_1116 : decode cL_law 1116 = .ok (.aload_n 0, 1) := by decide +kernel
theorem dL_law_1117 : decode cL_law 1117 = .ok (.iload_n 3, 1) := by decide +kernel
theorem dL_law_1118 : decode cL_law 1118 = .ok (.iconst 3, 1) := by decide +kernel
theorem dL_law_1119 : decode cL_law 1119 = .ok (.iadd, 1) := by decide +kernel
theorem dL_law_1120 : decode cL_law 1120 = .ok (.iaload, 1) := by decide +kernel
theorem dL_law_1121 : decode cL_law 1121 = .ok (.invokevirtual 137, 3) := by decide +kernel
theorem dL_law_1124 : decode cL_law 1124 = .ok (.if_icmp .eq 316, 3) := by decide +kernel
theorem dL_law_1127 : decode cL_law 1127 = .ok (.iconst 0, 1) := by decide +kernel
theorem dL_law_1128 : decode cL_law 1128 = .ok (.ireturn, 1) := by decide +kernel
theorem dL_law_1129 : decode cL_law 1129 = .ok (.aload_n 1, 1) := by decide +kernel
theorem dL_law_1130 : decode cL_law 1130 = .ok (.aload_n 0, 1) := by decide +kernel
theorem dL_law_1131 : decode cL_law 1131 = .ok (.iload_n 3, 1) := by decide +kernel
theorem dL_law_1132 : decode cL_law 1132 = .ok (.iconst 1, 1) := by decide +kernel
theorem dL_law_1133 : decode cL_law 1133 = .ok (.iadd, 1) := by decide +kernel
theorem dL_law_1134 : decode cL_law 1134 = .ok (.iaload, 1) := by decide +kernel
theorem dL_law_1135 : decode cL_law 1135 = .ok (.aload_n 0, 1) := by decide +kernel
theorem dL_law_1136 : decode cL_law 1136 = .ok (.iload_n 3, 1) := by decide +kernel
theorem dL_law_1137 : decode cL_law 1137 = .ok (.iconst 2, 1) := by decide +kernel
theorem dL_law_1138 : decode cL_law 1138 = .ok (.iadd, 1) := by decide +kernel
theorem dL_law_1139 : decode cL_law 1139 = .ok (.iaload, 1) := by decide +kernel
theorem dL_law_1140 : decode cL_law 1140 = .ok (.aload_n 0, 1) := by decide +kernel
theorem dL_law_1141 : decode cL_law 1141 = .ok (.iload_n 3, 1) := by decide +kernel
theorem dL_law_1142 : decode cL_law 1142 = .ok (.iconst 3, 1) := by decide +kernel
theorem dL_law_1143 : decode cL_law 1143 = .ok (.iadd, 1) := by decide +kernel
theorem dL_law_1144 : decode cL_law 1144 = .ok (.iaload, 1) := by decide +kernel
theorem dL_law_1145 : decode cL_law 1145 = .ok (.i2l, 1) := by decide +kernel
theorem dL_law_1146 : decode cL_law 1146 = .ok (.bipush 32, 2) := by decide +kernel
theorem dL_law_1148 : decode cL_law 1148 = .ok (.lshl, 1) := by decide +kernel
theorem dL_law_1149 : decode cL_law 1149 = .ok (.aload_n 0, 1) := by decide +kernel
theorem dL_law_1150 : decode cL_law 1150 = .ok (.iload_n 3, 1) := by decide +kernel
theorem dL_law_1151 : decode cL_law 1151 = .ok (.iconst 4, 1) := by decide +kernel
theorem dL_law_1152 : decode cL_law 1152 = .ok (.iadd, 1) := by decide +kernel
theorem dL_law_1153 : decode cL_law 1153 = .ok (.iaload, 1) := by decide +kernel
theorem dL_law_1154 : decode cL_law 1154 = .ok (.i2l, 1) := by decide +kernel
theorem dL_law_1155 : decode cL_law 1155 = .ok (.ldc2_w 138, 3) := by decide +kernel
theorem dL_law_1158 : decode cL_law 1158 = .ok (.land, 1) := by decide +kernel
theorem dL_law_1159 : decode cL_law 1159 = .ok (.lor, 1) := by decide +kernel
theorem dL_law_1160 : decode cL_law 1160 = .ok (.invokevirtual 140, 3) := by decide +kernel
theorem dL_law_1163 : decode cL_law 1163 = .ok (.aload_n 2, 1) := by decide +kernel
theorem dL_law_1164 : decode cL_law 1164 = .ok (.aload_n 0, 1) := by decide +kernel
theorem dL_law_1165 : decode cL_law 1165 = .ok (.iload_n 3, 1) := by decide +kernel
theorem dL_law_1166 : decode cL_law 1166 = .ok (.iconst 1, 1) := by decide +kernel
theorem dL_law_1167 : decode cL_law 1167 = .ok (.iadd, 1) := by decide +kernel
theorem dL_law_1168 : decode cL_law 1168 = .ok (.iaload, 1) := by decide +kernel
theorem dL_law_1169 : decode cL_law 1169 = .ok (.aload_n 0, 1) := by decide +kernel
theorem dL_law_1170 : decode cL_law 1170 = .ok (.iload_n 3, 1) := by decide +kernel
theorem dL_law_1171 : decode cL_law 1171 = .ok (.iconst 2, 1) := by decide +kernel
theorem dL_law_1172 : decode cL_law 1172 = .ok (.iadd, 1) := by decide +kernel
theorem dL_law_1173 : decode cL_law 1173 = .ok (.iaload, 1) := by decide +kernel
theorem dL_law_1174 : decode cL_law 1174 = .ok (.aload_n 0, 1) := by decide +kernel
theorem dL_law_1175 : decode cL_law 1175 = .ok (.iload_n 3, 1) := by decide +kernel
theorem dL_law_1176 : decode cL_law 1176 = .ok (.iconst 3, 1) := by decide +kernel
theorem dL_law_1177 : decode cL_law 1177 = .ok (.iadd, 1) := by decide +kernel
theorem dL_law_1178 : decode cL_law 1178 = .ok (.iaload, 1) := by decide +kernel
theorem dL_law_1179 : decode cL_law 1179 = .ok (.i2l, 1) := by decide +kernel
theorem dL_law_1180 : decode cL_law 1180 = .ok (.bipush 32, 2) := by decide +kernel
theorem dL_law_1182 : decode cL_law 1182 = .ok (.lshl, 1) := by decide +kernel
theorem dL_law_1183 : decode cL_law 1183 = .ok (.aload_n 0, 1) := by decide +kernel
theorem dL_law_1184 : decode cL_law 1184 = .ok (.iload_n 3, 1) := by decide +kernel
theorem dL_law_1185 : decode cL_law 1185 = .ok (.iconst 4, 1) := by decide +kernel
theorem dL_law_1186 : decode cL_law 1186 = .ok (.iadd, 1) := by decide +kernel
theorem dL_law_1187 : decode cL_law 1187 = .ok (.iaload, 1) := by decide +kernel
theorem dL_law_1188 : decode cL_law 1188 = .ok (.i2l, 1) := by decide +kernel
theorem dL_law_1189 : decode cL_law 1189 = .ok (.ldc2_w 138, 3) := by decide +kernel
theorem dL_law_1192 : decode cL_law 1192 = .ok (.land, 1) := by decide +kernel
theorem dL_law_1193 : decode cL_law 1193 = .ok (.lor, 1) := by decide +kernel
theorem dL_law_1194 : decode cL_law 1194 = .ok (.invokevirtual 144, 3) := by decide +kernel
theorem dL_law_1197 : decode cL_law 1197 = .ok (.lcmp, 1) := by decide +kernel
theorem dL_law_1198 : decode cL_law 1198 = .ok (.ifCond .eq 242, 3) := by decide +kernel
theorem dL_law_1201 : decode cL_law 1201 = .ok (.iconst 0, 1) := by decide +kernel
theorem dL_law_1202 : decode cL_law 1202 = .ok (.ireturn, 1) := by decide +kernel
theorem dL_law_1203 : decode cL_law 1203 = .ok (.aload_n 1, 1) := by decide +kernel
theorem dL_law_1204 : decode cL_law 1204 = .ok (.aload_n 0, 1) := by decide +kernel
theorem dL_law_1205 : decode cL_law 1205 = .ok (.iload_n 3, 1) := by decide +kernel
theorem dL_law_1206 : decode cL_law 1206 = .ok (.iconst 1, 1) := by decide +kernel
theorem dL_law_1207 : decode cL_law 1207 = .ok (.iadd, 1) := by decide +kernel
theorem dL_law_1208 : decode cL_law 1208 = .ok (.iaload, 1) := by decide +kernel
theorem dL_law_1209 : decode cL_law 1209 = .ok (.aload_n 0, 1) := by decide +kernel
theorem dL_law_1210 : decode cL_law 1210 = .ok (.iload_n 3, 1) := by decide +kernel
theorem dL_law_1211 : decode cL_law 1211 = .ok (.iconst 2, 1) := by decide +kernel
theorem dL_law_1212 : decode cL_law 1212 = .ok (.iadd, 1) := by decide +kernel
theorem dL_law_1213 : decode cL_law 1213 = .ok (.iaload, 1) := by decide +kernel
theorem dL_law_1214 : decode cL_law 1214 = .ok (.aload_n 0, 1) := by decide +kernel
theorem dL_law_1215 : decode cL_law 1215 = .ok (.iload_n 3, 1) := by decide +kernel
theorem dL_law_1216 : decode cL_law 1216 = .ok (.iconst 3, 1) := by decide +kernel
theorem dL_law_1217 : decode cL_law 1217 = .ok (.iadd, 1) := by decide +kernel
theorem dL_law_1218 : decode cL_law 1218 = .ok (.iaload, 1) := by decide +kernel
theorem dL_law_1219 : decode cL_law 1219 = .ok (.aload_n 0, 1) := by decide +kernel
theorem dL_law_1220 : decode cL_law 1220 = .ok (.iload_n 3, 1) := by decide +kernel
theorem dL_law_1221 : decode cL_law 1221 = .ok (.iconst 4, 1) := by decide +kernel
theorem dL_law_1222 : decode cL_law 1222 = .ok (.iadd, 1) := by decide +kernel
theorem dL_law_1223 : decode cL_law 1223 = .ok (.iaload, 1) := by decide +kernel
theorem dL_law_1224 : decode cL_law 1224 = .ok (.aload_n 0, 1) := by decide +kernel
theorem dL_law_1225 : decode cL_law 1225 = .ok (.iload_n 3, 1) := by decide +kernel
theorem dL_law_1226 : decode cL_law 1226 = .ok (.iconst 5, 1) := by decide +kernel
theorem dL_law_1227 : decode cL_law 1227 = .ok (.iadd, 1) := by decide +kernel
theorem dL_law_1228 : decode cL_law 1228 = .ok (.iaload, 1) := by decide +kernel
theorem dL_law_1229 : decode cL_law 1229 = .ok (.invokevirtual 145, 3) := by decide +kernel
theorem dL_law_1232 : decode cL_law 1232 = .ok (.aload_n 2, 1) := by decide +kernel
theorem dL_law_1233 : decode cL_law 1233 = .ok (.aload_n 0, 1) := by decide +kernel
theorem dL_law_1234 : decode cL_law 1234 = .ok (.iload_n 3, 1) := by decide +kernel
theorem dL_law_1235 : decode cL_law 1235 = .ok (.iconst 1, 1) := by decide +kernel
theorem dL_law_1236 : decode cL_law 1236 = .ok (.iadd, 1) := by decide +kernel
theorem dL_law_1237 : decode cL_law 1237 = .ok (.iaload, 1) := by decide +kernel
theorem dL_law_1238 : decode cL_law 1238 = .ok (.aload_n 0, 1) := by decide +kernel
theorem dL_law_1239 : decode cL_law 1239 = .ok (.iload_n 3, 1) := by decide +kernel
theorem dL_law_1240 : decode cL_law 1240 = .ok (.iconst 2, 1) := by decide +kernel
theorem dL_law_1241 : decode cL_law 1241 = .ok (.iadd, 1) := by decide +kernel
theorem dL_law_1242 : decode cL_law 1242 = .ok (.iaload, 1) := by decide +kernel
theorem dL_law_1243 : decode cL_law 1243 = .ok (.aload_n 0, 1) := by decide +kernel
theorem dL_law_1244 : decode cL_law 1244 = .ok (.iload_n 3, 1) := by decide +kernel
theorem dL_law_1245 : decode cL_law 1245 = .ok (.iconst 3, 1) := by decide +kernel
theorem dL_law_1246 : decode cL_law 1246 = .ok (.iadd, 1) := by decide +kernel
theorem dL_law_1247 : decode cL_law 1247 = .ok (.iaload, 1) := by decide +kernel
theorem dL_law_1248 : decode cL_law 1248 = .ok (.aload_n 0, 1) := by decide +kernel
theorem dL_law_1249 : decode cL_law 1249 = .ok (.iload_n 3, 1) := by decide +kernel
theorem dL_law_1250 : decode cL_law 1250 = .ok (.iconst 4, 1) := by decide +kernel
theorem dL_law_1251 : decode cL_law 1251 = .ok (.iadd, 1) := by decide +kernel
theorem dL_law_1252 : decode cL_law 1252 = .ok (.iaload, 1) := by decide +kernel
theorem dL_law_1253 : decode cL_law 1253 = .ok (.aload_n 0, 1) := by decide +kernel
theorem dL_law_1254 : decode cL_law 1254 = .ok (.iload_n 3, 1) := by decide +kernel
theorem dL_law_1255 : decode cL_law 1255 = .ok (.iconst 5, 1) := by decide +kernel
theorem dL_law_1256 : decode cL_law 1256 = .ok (.iadd, 1) := by decide +kernel
theorem dL_law_1257 : decode cL_law 1257 = .ok (.iaload, 1) := by decide +kernel
theorem dL_law_1258 : decode cL_law 1258 = .ok (.invokevirtual 149, 3) := by decide +kernel
theorem dL_law_1261 : decode cL_law 1261 = .ok (.if_icmp .eq 179, 3) := by decide +kernel
theorem dL_law_1264 : decode cL_law 1264 = .ok (.iconst 0, 1) := by decide +kernel
theorem dL_law_1265 : decode cL_law 1265 = .ok (.ireturn, 1) := by decide +kernel
theorem dL_law_1266 : decode cL_law 1266 = .ok (.aload_n 1, 1) := by decide +kernel
theorem dL_law_1267 : decode cL_law 1267 = .ok (.aload_n 0, 1) := by decide +kernel
theorem dL_law_1268 : decode cL_law 1268 = .ok (.iload_n 3, 1) := by decide +kernel
theorem dL_law_1269 : decode cL_law 1269 = .ok (.iconst 1, 1) := by decide +kernel
theorem dL_law_1270 : decode cL_law 1270 = .ok (.iadd, 1) := by decide +kernel
theorem dL_law_1271 : decode cL_law 1271 = .ok (.iaload, 1) := by decide +kernel
theorem dL_law_1272 : decode cL_law 1272 = .ok (.invokevirtual 150, 3) := by decide +kernel
theorem dL_law_1275 : decode cL_law 1275 = .ok (.aload_n 2, 1) := by decide +kernel
theorem dL_law_1276 : decode cL_law 1276 = .ok (.aload_n 0, 1) := by decide +kernel
theorem dL_law_1277 : decode cL_law 1277 = .ok (.iload_n 3, 1) := by decide +kernel
theorem dL_law_1278 : decode cL_law 1278 = .ok (.iconst 1, 1) := by decide +kernel
theorem dL_law_1279 : decode cL_law 1279 = .ok (.iadd, 1) := by decide +kernel
theorem dL_law_1280 : decode cL_law 1280 = .ok (.iaload, 1) := by decide +kernel
theorem dL_law_1281 : decode cL_law 1281 = .ok (.invokevirtual 153, 3) := by decide +kernel
theorem dL_law_1284 : decode cL_law 1284 = .ok (.if_icmp .eq 156, 3) := by decide +kernel
theorem dL_law_1287 : decode cL_law 1287 = .ok (.iconst 0, 1) := by decide +kernel
theorem dL_law_1288 : decode cL_law 1288 = .ok (.ireturn, 1) := by decide +kernel
theorem dL_law_1289 : decode cL_law 1289 = .ok (.aload_n 1, 1) := by decide +kernel
theorem dL_law_1290 : decode cL_law 1290 = .ok (.aload_n 0, 1) := by decide +kernel
theorem dL_law_1291 : decode cL_law 1291 = .ok (.iload_n 3, 1) := by decide +kernel
theorem dL_law_1292 : decode cL_law 1292 = .ok (.iconst 1, 1) := by decide +kernel
theorem dL_law_1293 : decode cL_law 1293 = .ok (.iadd, 1) := by decide +kernel
theorem dL_law_1294 : decode cL_law 1294 = .ok (.iaload, 1) := by decide +kernel
theorem dL_law_1295 : decode cL_law 1295 = .ok (.aload_n 0, 1) := by decide +kernel
theorem dL_law_1296 : decode cL_law 1296 = .ok (.iload_n 3, 1) := by decide +kernel
theorem dL_law_1297 : decode cL_law 1297 = .ok (.iconst 2, 1) := by decide +kernel
theorem dL_law_1298 : decode cL_law 1298 = .ok (.iadd, 1) := by decide +kernel
theorem dL_law_1299 : decode cL_law 1299 = .ok (.iaload, 1) := by decide +kernel
theorem dL_law_1300 : decode cL_law 1300 = .ok (.invokevirtual 154, 3) := by decide +kernel
theorem dL_law_1303 : decode cL_law 1303 = .ok (.aload_n 2, 1) := by decide +kernel
theorem dL_law_1304 : decode cL_law 1304 = .ok (.aload_n 0, 1) := by decide +kernel
theorem dL_law_1305 : decode cL_law 1305 = .ok (.iload_n 3, 1) := by decide +kernel
theorem dL_law_1306 : decode cL_law 1306 = .ok (.iconst 1, 1) := by decide +kernel
theorem dL_law_1307 : decode cL_law 1307 = .ok (.iadd, 1) := by decide +kernel
theorem dL_law_1308 : decode cL_law 1308 = .ok (.iaload, 1) := by decide +kernel
theorem dL_law_1309 : decode cL_law 1309 = .ok (.aload_n 0, 1) := by decide +kernel
theorem dL_law_1310 : decode cL_law 1310 = .ok (.iload_n 3, 1) := by decide +kernel
theorem dL_law_1311 : decode cL_law 1311 = .ok (.iconst 2, 1) := by decide +kernel
theorem dL_law_1312 : decode cL_law 1312 = .ok (.iadd, 1) := by decide +kernel
theorem dL_law_1313 : decode cL_law 1313 = .ok (.iaload, 1) := by decide +kernel
theorem dL_law_1314 : decode cL_law 1314 = .ok (.invokevirtual 157, 3) := by decide +kernel
theorem dL_law_1317 : decode cL_law 1317 = .ok (.if_icmp .eq 123, 3) := by decide +kernel
theorem dL_law_1320 : decode cL_law 1320 = .ok (.iconst 0, 1) := by decide +kernel
theorem dL_law_1321 : decode cL_law 1321 = .ok (.ireturn, 1) := by decide +kernel
theorem dL_law_1322 : decode cL_law 1322 = .ok (.aload_n 1, 1) := by decide +kernel
theorem dL_law_1323 : decode cL_law 1323 = .ok (.aload_n 0, 1) := by decide +kernel
theorem dL_law_1324 : decode cL_law 1324 = .ok (.iload_n 3, 1) := by decide +kernel
theorem dL_law_1325 : decode cL_law 1325 = .ok (.iconst 1, 1) := by decide +kernel
theorem dL_law_1326 : decode cL_law 1326 = .ok (.iadd, 1) := by decide +kernel
theorem dL_law_1327 : decode cL_law 1327 = .ok (.iaload, 1) := by decide +kernel
theorem dL_law_1328 : decode cL_law 1328 = .ok (.aload_n 0, 1) := by decide +kernel
theorem dL_law_1329 : decode cL_law 1329 = .ok (.iload_n 3, 1) := by decide +kernel
theorem dL_law_1330 : decode cL_law 1330 = .ok (.iconst 2, 1) := by decide +kernel
theorem dL_law_1331 : decode cL_law 1331 = .ok (.iadd, 1) := by decide +kernel
theorem dL_law_1332 : decode cL_law 1332 = .ok (.iaload, 1) := by decide +kernel
theorem dL_law_1333 : decode cL_law 1333 = .ok (.invokevirtual 158, 3) := by decide +kernel
theorem dL_law_1336 : decode cL_law 1336 = .ok (.aload_n 2, 1) := by decide +kernel
theorem dL_law_1337 : decode cL_law 1337 = .ok (.aload_n 0, 1) := by decide +kernel
theorem dL_law_1338 : decode cL_law 1338 = .ok (.iload_n 3, 1) := by decide +kernel
theorem dL_law_1339 : decode cL_law 1339 = .ok (.iconst 1, 1) := by decide +kernel
theorem dL_law_1340 : decode cL_law 1340 = .ok (.iadd, 1) := by decide +kernel
theorem dL_law_1341 : decode cL_law 1341 = .ok (.iaload, 1) := by decide +kernel
theorem dL_law_1342 : decode cL_law 1342 = .ok (.aload_n 0, 1) := by decide +kernel
theorem dL_law_1343 : decode cL_law 1343 = .ok (.iload_n 3, 1) := by decide +kernel
theorem dL_law_1344 : decode cL_law 1344 = .ok (.iconst 2, 1) := by decide +kernel
theorem dL_law_1345 : decode cL_law 1345 = .ok (.iadd, 1) := by decide +kernel
theorem dL_law_1346 : decode cL_law 1346 = .ok (.iaload, 1) := by decide +kernel
theorem dL_law_1347 : decode cL_law 1347 = .ok (.invokevirtual 161, 3) := by decide +kernel
theorem dL_law_1350 : decode cL_law 1350 = .ok (.if_icmp .eq 90, 3) := by decide +kernel
theorem dL_law_1353 : decode cL_law 1353 = .ok (.iconst 0, 1) := by decide +kernel
theorem dL_law_1354 : decode cL_law 1354 = .ok (.ireturn, 1) := by decide +kernel
theorem dL_law_1355 : decode cL_law 1355 = .ok (.aload_n 1, 1) := by decide +kernel
theorem dL_law_1356 : decode cL_law 1356 = .ok (.invokevirtual 162, 3) := by decide +kernel
theorem dL_law_1359 : decode cL_law 1359 = .ok (.aload_n 2, 1) := by decide +kernel
theorem dL_law_1360 : decode cL_law 1360 = .ok (.invokevirtual 165, 3) := by decide +kernel
theorem dL_law_1363 : decode cL_law 1363 = .ok (.if_icmp .eq 77, 3) := by decide +kernel
theorem dL_law_1366 : decode cL_law 1366 = .ok (.iconst 0, 1) := by decide +kernel
theorem dL_law_1367 : decode cL_law 1367 = .ok (.ireturn, 1) := by decide +kernel
theorem dL_law_1368 : decode cL_law 1368 = .ok (.aload_n 1, 1) := by decide +kernel
theorem dL_law_1369 : decode cL_law 1369 = .ok (.invokevirtual 166, 3) := by decide +kernel
theorem dL_law_1372 : decode cL_law 1372 = .ok (.aload_n 2, 1) := by decide +kernel
theorem dL_law_1373 : decode cL_law 1373 = .ok (.invokevirtual 169, 3) := by decide +kernel
theorem dL_law_1376 : decode cL_law 1376 = .ok (.if_icmp .eq 64, 3) := by decide +kernel
theorem dL_law_1379 : decode cL_law 1379 = .ok (.iconst 0, 1) := by decide +kernel
theorem dL_law_1380 : decode cL_law 1380 = .ok (.ireturn, 1) := by decide +kernel
theorem dL_law_1381 : decode cL_law 1381 = .ok (.aload_n 1, 1) := by decide +kernel
theorem dL_law_1382 : decode cL_law 1382 = .ok (.invokevirtual 170, 3) := by decide +kernel
theorem dL_law_1385 : decode cL_law 1385 = .ok (.aload_n 2, 1) := by decide +kernel
theorem dL_law_1386 : decode cL_law 1386 = .ok (.invokevirtual 173, 3) := by decide +kernel
theorem dL_law_1389 : decode cL_law 1389 = .ok (.if_icmp .eq 51, 3) := by decide +kernel
theorem dL_law_1392 : decode cL_law 1392 = .ok (.iconst 0, 1) := by decide +kernel
theorem dL_law_1393 : decode cL_law 1393 = .ok (.ireturn, 1) := by decide +kernel
theorem dL_law_1394 : decode cL_law 1394 = .ok (.aload_n 1, 1) := by decide +kernel
theorem dL_law_1395 : decode cL_law 1395 = .ok (.aload_n 0, 1) := by decide +kernel
theorem dL_law_1396 : decode cL_law 1396 = .ok (.iload_n 3, 1) := by decide +kernel
theorem dL_law_1397 : decode cL_law 1397 = .ok (.iconst 1, 1) := by decide +kernel
theorem dL_law_1398 : decode cL_law 1398 = .ok (.iadd, 1) := by decide +kernel
theorem dL_law_1399 : decode cL_law 1399 = .ok (.iaload, 1) := by decide +kernel
theorem dL_law_1400 : decode cL_law 1400 = .ok (.invokevirtual 174, 3) := by decide +kernel
theorem dL_law_1403 : decode cL_law 1403 = .ok (.aload_n 2, 1) := by decide +kernel
theorem dL_law_1404 : decode cL_law 1404 = .ok (.aload_n 0, 1) := by decide +kernel
theorem dL_law_1405 : decode cL_law 1405 = .ok (.iload_n 3, 1) := by decide +kernel
theorem dL_law_1406 : decode cL_law 1406 = .ok (.iconst 1, 1) := by decide +kernel
theorem dL_law_1407 : decode cL_law 1407 = .ok (.iadd, 1) := by decide +kernel
theorem dL_law_1408 : decode cL_law 1408 = .ok (.iaload, 1) := by decide +kernel
theorem dL_law_1409 : decode cL_law 1409 = .ok (.invokevirtual 177, 3) := by decide +kernel
theorem dL_law_1412 : decode cL_law 1412 = .ok (.if_icmp .eq 28, 3) := by decide +kernel
theorem dL_law_1415 : decode cL_law 1415 = .ok (.iconst 0, 1) := by decide +kernel
theorem dL_law_1416 : decode cL_law 1416 = .ok (.ireturn, 1) := by decide +kernel
theorem dL_law_1417 : decode cL_law 1417 = .ok (.aload_n 1, 1) := by decide +kernel
theorem dL_law_1418 : decode cL_law 1418 = .ok (.aload_n 0, 1) := by decide +kernel
theorem dL_law_1419 : decode cL_law 1419 = .ok (.iload_n 3, 1) := by decide +kernel
theorem dL_law_1420 : decode cL_law 1420 = .ok (.iconst 1, 1) := by decide +kernel
theorem dL_law_1421 : decode cL_law 1421 = .ok (.iadd, 1) := by decide +kernel
theorem dL_law_1422 : decode cL_law 1422 = .ok (.iaload, 1) := by decide +kernel
theorem dL_law_1423 : decode cL_law 1423 = .ok (.invokevirtual 178, 3) := by decide +kernel
theorem dL_law_1426 : decode cL_law 1426 = .ok (.aload_n 2, 1) := by decide +kernel
theorem dL_law_1427 : decode cL_law 1427 = .ok (.aload_n 0, 1) := by decide +kernel
theorem dL_law_1428 : decode cL_law 1428 = .ok (.iload_n 3, 1) := by decide +kernel
theorem dL_law_1429 : decode cL_law 1429 = .ok (.iconst 1, 1) := by decide +kernel
theorem dL_law_1430 : decode cL_law 1430 = .ok (.iadd, 1) := by decide +kernel
theorem dL_law_1431 : decode cL_law 1431 = .ok (.iaload, 1) := by decide +kernel
end
section
theorem dL_law_1432 : decode cL_law 1432 = .ok (.invokevirtual 181, 3) := by decide +kernel
theorem dL_law_1435 : decode cL_law 1435 = .ok (.if_icmp .eq 5, 3) := by decide +kernel
theorem dL_law_1438 : decode cL_law 1438 = .ok (.iconst 0, 1) := by decide +kernel
theorem dL_law_1439 : decode cL_law 1439 = .ok (.ireturn, 1) := by decide +kernel
theorem dL_law_1440 : decode cL_law 1440 = .ok (.iinc 3 6, 3) := by decide +kernel
theorem dL_law_1443 : decode cL_law 1443 = .ok (.goto (-1425), 3) := by decide +kernel
theorem dL_law_1446 : decode cL_law 1446 = .ok (.iconst 1, 1) := by decide +kernel
theorem dL_law_1447 : decode cL_law 1447 = .ok (.ireturn, 1) := by decide +kernel
end
section
/-! MEMORY: all cells of class and reference are made by the two constructors; afterwards the world is a fixed row of 64 cells: region r, index i. gM: what their numbers are. -/
abbrev gM : Type := (Nat → Nat → Nat → Int32) × (Nat → Nat → Nat → Int64)
def seti (M : gM) (r i k : Nat) (x : Int32) : gM := (fun r' i' => if r' = r ∧ i' = i then upd (M.1 r i) k x else M.1 r' i', M.2)
def setl (M : gM) (r i k : Nat) (x : Int64) : gM := (M.1, fun r' i' => if r' = r ∧ i' = i then vp_updL (M.2 r i) k x else M.2 r' i')
/-- a whole row of ints, of longs -/
def setI (M : gM) (r i : Nat) (f : Nat → Int32) : gM := (fun r' i' => if r' = r ∧ i' = i then f else M.1 r' i', M.2)
def setL (M : gM) (r i : Nat) (f : Nat → Int64) : gM := (M.1, fun r' i' => if r' = r ∧ i' = i then f else M.2 r' i')
abbrev gG : Type := va_G × (ClassId × ClassId × ClassId × ClassId) × Nat × (Nat → Nat) × (Nat → Nat) × (Nat → Nat)
def gD (G : gG) : va_G := G.1
def gcI (G : gG) : ClassId := G.2.1.1
def gcL (G : gG) : ClassId := G.2.1.2.1
def gcS (G : gG) : ClassId := G.2.1.2.2.1
def gcT (G : gG) : ClassId := G.2.1.2.2.2
def gb (G : gG) : Nat := G.2.2.1
def gsa (G : gG) : Nat → Nat := G.2.2.2.1
def gks (G : gG) : Nat → Nat := G.2.2.2.2.1
def gkv (G : gG) : Nat → Nat := G.2.2.2.2.2
def gcnt (r : Nat) : Nat := [1, 3, 3, 3, 26, 1, 2, 1, 1, 1, 1, 1, 4, 4, 1, 1, 3, 1, 2, 1, 2, 1].getD r 0
def goff (r i : Nat) : Nat := if r = 4 then (if i < 24 then 4 + 11 * (i / 8) + i % 8 else 10 + i) else [0, 1, 2, 3, 0, 36, 37, 39, 40, 41, 42, 43, 44, 45, 52, 53, 54, 57, 58, 60, 61, 63].getD r 0 + [0, 11, 11, 11, 0, 0, 1, 0, 0, 0, 0, 0, 2, 2, 0, 0, 1, 0, 1, 0, 1, 0].getD r 0 * i
def ginvL : List (Nat × Nat) := [(0, 0), (1, 0), (2, 0), (3, 0), (4, 0), (4, 1), (4, 2), (4, 3), (4, 4), (4, 5), (4, 6), (4, 7), (1, 1), (2, 1), (3, 1), (4, 8), (4, 9), (4, 10), (4, 11), (4, 12), (4, 13), (4, 14), (4, 15), (1, 2), (2, 2), (3, 2), (4, 16), (4, 17), (4, 18), (4, 19), (4, 20), (4, 21), (4, 22), (4, 23), (4, 24), (4, 25), (5, 0), (6, 0), (6, 1), (7, 0), (8, 0), (9, 0), (10, 0), (11, 0), (12, 0), (13, 0), (12, 1), (13, 1), (12, 2), (13, 2), (12, 3), (13, 3), (14, 0), (15, 0), (16, 0), (16, 1), (16, 2), (17, 0), (18, 0), (18, 1), (19, 0), (20, 0), (20, 1), (21, 0)]
def ginv (o : Nat) : Nat × Nat := ginvL.getD o (0, 0)
theorem gcnt_r {r i : Nat} (h : i < gcnt r) : r < 22 := by
  rcases Nat.lt_or_ge r 22 with q | q
  · exact q
  · unfold gcnt at h
    rw [List.getD_eq_getElem?_getD, List.getElem?_eq_none (by simpa using q)] at h
    exact absurd h (Nat.not_lt_zero i)
theorem ginv_d : ∀ r, r < 22 → ∀ i, i < gcnt r → goff r i < 64 ∧ ginv (goff r i) = (r, i) := by decide +kernel
theorem ginv_o : ∀ o, o < 64 → (ginv o).2 < gcnt (ginv o).1 ∧ goff (ginv o).1 (ginv o).2 = o := by decide +kernel
theorem goff_lt {r i : Nat} (h : i < gcnt r) : goff r i < 64 := (ginv_d r (gcnt_r h) i h).1
theorem ginv_goff {r i : Nat} (h : i < gcnt r) : ginv (goff r i) = (r, i) := (ginv_d r (gcnt_r h) i h).2
def ad (G : gG) (r i : Nat) : Nat := gb G + goff r i
def fr (G : gG) : Nat → Prop := fun q => gb G ≤ q ∧ q < gb G + 64
abbrev rfA (n : Nat) (f : Nat → Option Nat) : vp_A := (n, .inr (.inr (.inr (.inr f))))
/-- what a cell holds: its ints f, its longs g -/
def Es (G : gG) (f : Nat → Int32) (g : Nat → Int64) (r i : Nat) : va_E := match r with
  | 0 => .inr (7, [.ref (ad G 1 0), .ref (ad G 1 1), .ref (ad G 1 2), .int (f 3), .ref (ad G 4 24), .ref (ad G 4 25), .ref (ad G 5 0), .ref (ad G 7 0), .ref (ad G 8 0), .ref (ad G 10 0), .ref (ad G 11 0), .ref (ad G 14 0)])
  | 1 => .inr (1, [.int (f 0), .ref (ad G 2 i), .int (f 2), .int (f 3), .int (f 4), .ref (ad G 3 i)])
  | 2 => .inl (gcI G, 7, .inl f)
  | 3 => .inl (gcT G, rfA 8 (fun k => some (ad G 4 (8 * i + k))))
  | 4 => .inr (5, [.int (f 0), .int (f 1), .int (f 2), .int (f 3)])
  | 5 => .inr (6, [.ref (ad G 6 0), .ref (ad G 6 1)])
  | 6 => .inl (gcI G, 36, .inl f)
  | 7 => .inr (0, [.int (f 0), .int (f 1)])
  | 8 => .inr (3, [.ref (ad G 9 0), .int (f 1), .int (f 2), .int (f 3), .int (f 4)])
  | 9 => .inl (gcI G, 120, .inl f)
  | 10 => .inr (4, [.ref (ad G 8 0)])
  | 11 => .inl (gcS G, rfA 4 (fun k => some (ad G 12 k)))
  | 12 => .inr (2, [.int (f 0), .int (f 1), .ref (ad G 13 i)])
  | 13 => .inl (gcL G, 40, .inr (.inl g))
  | 14 => .inl (gcI G, 7, .inl f)
  | 15 => .inr (8, [.ref (ad G 16 0), .ref (ad G 16 1), .ref (ad G 16 2), .int (f 3), .ref (ad G 17 0), .ref (ad G 18 0), .ref (ad G 18 1), .ref (ad G 19 0), .int (f 8), .int (f 9), .int (f 10), .int (f 11), .int (f 12), .int (f 13), .ref (ad G 20 0), .ref (ad G 20 1), .ref (ad G 21 0)])
  | 16 => .inl (gcI G, 43, .inl f)
  | 17 => .inl (gcI G, 7, .inl f)
  | 18 => .inl (gcI G, 36, .inl f)
  | 19 => .inl (gcI G, 120, .inl f)
  | 20 => .inl (gcI G, 4, .inl f)
  | _ => .inl (gcL G, 160, .inr (.inl g))
def gEl (G : gG) (M : gM) (o : Nat) : Nat × va_E := (gb G + o, Es G (M.1 (ginv o).1 (ginv o).2) (M.2 (ginv o).1 (ginv o).2) (ginv o).1 (ginv o).2)
def gWl (G : gG) (M : gM) : va_W := (List.range 64).map (gEl G M)
def gH (G : gG) (M : gM) (H : Heap) : Prop := va_P (gD G) vwCl (gWl G M) H
def gtys (G : gG) : List (ClassId × FieldType) := [(gcI G, .int), (gcL G, .long), (gcS G, .object "WindRota$Sheet"), (gcT G, .object "WindRota$Thing")]
theorem gWl_get (G : gG) (M : gM) (o : Nat) : (gWl G M)[o]? = if o < 64 then some (gEl G M o) else none := by
  unfold gWl
  rw [List.getElem?_map]
  by_cases h : o < 64
  · rw [if_pos h, List.getElem?_range h]; rfl
  · rw [if_neg h, List.getElem?_eq_none (by simpa using h)]; rfl
theorem gWl_at {G : gG} {M : gM} {r i : Nat} (h : i < gcnt r) : (gWl G M)[goff r i]? = some (ad G r i, Es G (M.1 r i) (M.2 r i) r i) := by
  rw [gWl_get, if_pos (goff_lt h)]
  unfold gEl
  rw [ginv_goff h]
  rfl
theorem gWl_D (G : gG) (M : gM) : va_D (fr G) (gWl G M) := by
  refine ⟨fun i j p q hp hq e => ?_, fun k q hq => ?_⟩
  · rw [gWl_get] at hp hq
    split at hp <;> split at hq <;> simp at hp hq
    subst hp; subst hq
    simp only [gEl] at e
    omega
  · rw [gWl_get] at hq
    split at hq <;> simp at hq
    subst hq
    exact ⟨Nat.le_add_right _ _, Nat.add_lt_add_left (by assumption) _⟩
theorem gWl_set {G : gG} {M M' : gM} {r i : Nat} {e : va_E} (h : i < gcnt r) (ho : ∀ r' i', ¬ (r' = r ∧ i' = i) → M'.1 r' i' = M.1 r' i' ∧ M'.2 r' i' = M.2 r' i') (he : Es G (M'.1 r i) (M'.2 r i) r i = e) : (gWl G M).set (goff r i) (ad G r i, e) = gWl G M' := by
  apply List.ext_getElem?
  intro o
  rw [List.getElem?_set, gWl_get, gWl_get]
  have hlen : (gWl G M).length = 64 := by simp [gWl]
  rw [hlen]
  by_cases q : goff r i = o
  · subst q
    rw [if_pos rfl, if_pos (goff_lt h), if_pos (goff_lt h)]
    unfold gEl
    rw [ginv_goff h, ← he]
    rfl
  · rw [if_neg q]
    by_cases z : o < 64
    · rw [if_pos z, if_pos z]
      obtain ⟨z1, z2⟩ := ginv_o o z
      have hn : ¬ ((ginv o).1 = r ∧ (ginv o).2 = i) := fun w => q (by rw [← w.1, ← w.2]; exact z2)
      unfold gEl
      rw [(ho _ _ hn).1, (ho _ _ hn).2]
    · rw [if_neg z, if_neg z]
theorem seti_s (M : gM) (r i k : Nat) (x : Int32) : (seti M r i k x).1 r i = upd (M.1 r i) k x := by simp [seti]
theorem setl_s (M : gM) (r i k : Nat) (x : Int64) : (setl M r i k x).2 r i = vp_updL (M.2 r i) k x := by simp [setl]
theorem setI_s (M : gM) (r i : Nat) (f : Nat → Int32) : (setI M r i f).1 r i = f := by simp [setI]
theorem setL_s (M : gM) (r i : Nat) (f : Nat → Int64) : (setL M r i f).2 r i = f := by simp [setL]
theorem seti_o (M : gM) (r i k : Nat) (x : Int32) : ∀ r' i', ¬ (r' = r ∧ i' = i) → (seti M r i k x).1 r' i' = M.1 r' i' ∧ (seti M r i k x).2 r' i' = M.2 r' i' := fun r' i' h => ⟨by simp only [seti, if_neg h], rfl⟩
theorem setl_o (M : gM) (r i k : Nat) (x : Int64) : ∀ r' i', ¬ (r' = r ∧ i' = i) → (setl M r i k x).1 r' i' = M.1 r' i' ∧ (setl M r i k x).2 r' i' = M.2 r' i' := fun r' i' h => ⟨rfl, by simp only [setl, if_neg h]⟩
theorem setI_o (M : gM) (r i : Nat) (f : Nat → Int32) : ∀ r' i', ¬ (r' = r ∧ i' = i) → (setI M r i f).1 r' i' = M.1 r' i' ∧ (setI M r i f).2 r' i' = M.2 r' i' := fun r' i' h => ⟨by simp only [setI, if_neg h], rfl⟩
theorem setL_o (M : gM) (r i : Nat) (f : Nat → Int64) : ∀ r' i', ¬ (r' = r ∧ i' = i) → (setL M r i f).1 r' i' = M.1 r' i' ∧ (setL M r i f).2 r' i' = M.2 r' i' := fun r' i' h => ⟨rfl, by simp only [setL, if_neg h]⟩
/-! THE WORDS -/
def GT : List Cond := lw_tbl.filter goodWord
theorem GT_tbl {w : Cond} (h : w ∈ GT) : w ∈ lw_tbl := (List.mem_filter.mp h).1
theorem GT_good {w : Cond} (h : w ∈ GT) : goodWord w = true := (List.mem_filter.mp h).2
theorem GT_t {w : Cond} (i : Nat) (h : tables_1[i]? = some w) (hg : goodWord w = true) : w ∈ GT := List.mem_filter.mpr ⟨List.mem_append_right _ (List.mem_of_getElem? h), hg⟩
theorem GT_p {y : MethodName} {n : Nat} (i : Nat) (h : lw_privs[i]? = some (y, n)) : Cond.selects y.cls y y ∈ GT := List.mem_filter.mpr ⟨List.mem_append_left _ (List.mem_map.mpr ⟨(y, n), List.mem_of_getElem? h, rfl⟩), rfl⟩
abbrev gY : Type := MethodName × ByteArray × Nat × Option FieldType
abbrev wsY (Y : gY) : List Cond := Cond.code Y.1 Y.2.1 Y.2.2.1 Y.2.2.2 :: GT
theorem good_wsY {Y : gY} (hc : Cond.code Y.1 Y.2.1 Y.2.2.1 Y.2.2.2 ∈ GT) : GoodIn GT (wsY Y) := by
  intro w hw
  rcases List.mem_cons.mp hw with rfl | h
  · exact ⟨hc, good_of_word (GT_good hc)⟩
  · exact ⟨h, good_of_word (GT_good h)⟩
def rmD (d : Nat) : Room := { frames := d, cells := 0, slots := 0, locals := 30 * d }
/-! WHAT STANDS OUTSIDE: classes, static rows, texts -/
def sC (k : Nat) : String := if k < 3 then "WindRota" else "WindRotaModel"
def sN (k : Nat) : String := ["ROWS_DOWN", "COLUMNS_RIGHT", "NEARER_WAY", "NAMES"].getD k ""
def sF0 : List Int32 := [-1, -1, 0, 1, 1, 1, 0, -1]
def sF1 : List Int32 := [0, 1, 1, 1, 0, -1, -1, -1]
def sF2 : List Int32 := [0, 1, 2, 3, 4, 3, 2, 1]
def sF3 : List Int32 := [109, 105, 108, 108, 0, 0, 0, 102, 105, 115, 104, 101, 114, 0, 119, 97, 115, 104, 105, 110, 103, 107, 105, 116, 101, 0, 0, 0, 99, 97, 112, 116, 97, 105, 110, 119, 105, 100, 111, 119, 0, 0, 97, 116, 0, 0, 0, 0, 0, 102, 97, 99, 105, 110, 103, 0, 114, 111, 116, 97, 0, 0, 0, 115, 105, 99, 107, 0, 0, 0, 119, 101, 108, 108, 0, 0, 0, 102, 111, 114, 99, 101, 0, 0]
def sFl (k : Nat) : List Int32 := [sF0, sF1, sF2, sF3].getD k []
def kLen : List Nat := [4, 6, 7, 4, 7, 5, 2, 6, 4, 4, 4, 5]
def kByt : List (List Int32) := [[109, 105, 108, 108], [102, 105, 115, 104, 101, 114], [119, 97, 115, 104, 105, 110, 103], [107, 105, 116, 101], [99, 97, 112, 116, 97, 105, 110], [119, 105, 100, 111, 119], [97, 116], [102, 97, 99, 105, 110, 103], [114, 111, 116, 97], [115, 105, 99, 107], [119, 101, 108, 108], [102, 111, 114, 99, 101]]
def kTx : List String := ["mill", "fisher", "washing", "kite", "captain", "widow", "at", "facing", "rota", "sick", "well", "force"]
def kIx : List Nat := [108, 98, 100, 102, 104, 106, 70, 76, 42, 51, 57, 59]
def gS (G : gG) (U : State) (H : Heap) : Prop :=
  va_K (gD G) vwCl (gtys G) U ∧ (∀ k, k < 4 → va_Z (sC k) (sN k) "[I" (.ref (gsa G k)) (fr G) U H ∧ va_T .int (gsa G k) (sFl k).length (fun j => .int ((sFl k).getD j 0)) (fr G) U H) ∧
  va_Z "java/lang/String" "COMPACT_STRINGS" "Z" (.int 1) (fr G) U H ∧ vk_S 12 kLen kByt (gks G) (gkv G) (fr G) U H ∧ (∀ i, i < 12 → vk_R "WindRota$Teller" (kIx.getD i 0) (kTx.getD i "") (gks G i) U) ∧
  va_Nw (.methodLinkNest RX5 41 yX7_cellBehind RX7) U ∧ va_Nw (.methodLinkNest RX6 34 yX7_within RX7) U ∧ va_Nw (.fieldLinkNest RX5 55 RX7 "NEARER_WAY" "[I" RX7) U
theorem gS.warm {G : gG} {s U : State} {H : Heap} (hW : s.WarmedH U.vm) (h : gS G s H) : gS G U H := by
  obtain ⟨h1, h2, h3, h4, h5, h6, h7, h8⟩ := h
  exact ⟨va_K.moved hW.alike h1, fun k hk => ⟨(h2 k hk).1.moved hW.alike, (h2 k hk).2.moved hW.alike⟩, h3.moved hW.alike, h4.moved hW.alike, fun i hi => (h5 i hi).warm hW, va_Nw.warmM hW h6, va_Nw.warmM hW h7, va_Nw.warmF hW h8⟩
theorem gS.kept {G : gG} {U : State} {H H1 : Heap} (h : gS G U H) (hq : ∀ a : Nat, a < H.size → ¬ fr G a → H1[a]? = H[a]?) : gS G U H1 := by
  obtain ⟨h1, h2, h3, h4, h5, h6⟩ := h
  exact ⟨h1, fun k hk => ⟨(h2 k hk).1.kept hq, (h2 k hk).2.kept hq⟩, h3.kept hq, h4.kept hq, h5, h6⟩
theorem gS.same {G : gG} {u U : State} {H : Heap} (hv : U.vm = u.vm) (h : gS G u H) : gS G U H := by
  obtain ⟨h1, h2, h3, h4, h5, h6, h7, h8⟩ := h
  have ha : u.vm.Alike U.vm := by rw [hv]; exact Vm.Alike.refl _
  exact ⟨va_K.moved ha h1, fun k hk => ⟨(h2 k hk).1.moved ha, (h2 k hk).2.moved ha⟩, h3.moved ha, h4.moved ha, fun i hi => (h5 i hi).same hv, va_Nw.same rfl hv.symm h6, va_Nw.same rfl hv.symm h7, va_Nw.same rfl hv.symm h8⟩
/-! A METHOD'S CONTRACT over the memory -/
def Ct (G : gG) (Y : gY) (d : Nat) (vs : List Value) (M : gM) (Q : Option Value → gM → Prop) : Prop :=
  ∀ l : Launch, Met l Y.1 (wsY Y) (rmD d) (va_Pc vs (fun U => gS G U U.heap ∧ gH G M U.heap)) (fun _ st oc t => ∃ (v : Option Value) (M' : gM), oc = .returned v ∧ Q v M' ∧ gH G M' t.heap ∧ va_F (fr G) st t) 0 0 (fr G)
abbrev Cf (G : gG) (Y : gY) (d : Nat) (vs : List Value) (M : gM) (r : Option Value) (M2 : gM) : Prop := Ct G Y d vs M (fun v M' => v = r ∧ M' = M2)
abbrev gP : Type := Nat → List (Option Value) → List Value → gM → Prop
def hasL (lsA : Array Slot) (nL : Nat) (ls : List (Option Value)) : Prop := ls.length = nL ∧ ∃ lv, lv_has lsA nL lv ∧ ∀ (i : Nat) (v : Value), ls[i]? = some (some v) → (i, v) ∈ lv
def Rt (cc : ByteArray) (rt : Option FieldType) (Q : Option Value → gM → Prop) (P : gP) : Prop :=
  (∀ (pc : Nat) (ls : List (Option Value)) (x : Int32) (M : gM) (ty : FieldType), rt = some ty → decode cc pc = .ok (.ireturn, 1) → narrow ty (.int x) = .int x → Q (some (.int x)) M → P pc ls [.int x] M) ∧
  (∀ (pc : Nat) (ls : List (Option Value)) (x : Int64) (M : gM), rt = some .long → decode cc pc = .ok (.lreturn, 1) → Q (some (.long x)) M → P pc ls [.long x] M) ∧
  (∀ (pc : Nat) (ls : List (Option Value)) (M : gM), rt = none → decode cc pc = .ok (.return_, 1) → Q none M → P pc ls [] M)
/-- P is what the machine says at a place of a method's code: locals, stack, memory -/
def Bd (G : gG) (cc : ByteArray) (own : String) (nL d : Nat) (rt : Option FieldType) (Q : Option Value → gM → Prop) (P : gP) : Prop :=
  ∃ (p : Program) (l : Launch) (e : Env) (R : Room) (s : State) (m : MethodId) (args : Array Value) (below : List Frame) (meth : Method) (c : Code) (cells slots : Nat) (QQ : State → Prop),
    p.tables.exec = Jvm.exec ∧ c.code = cc ∧ c.maxLocals = nL ∧ s.vm.findClass own = some m.cls ∧ (∀ w ∈ GT, w.before args s = true) ∧ (d ≤ R.frames ∧ 30 * d ≤ R.locals ∧ cells ≤ R.cells ∧ slots ≤ R.slots) ∧ gS G s s.heap ∧
    (∀ pc ls st M, P pc ls st M ↔ ∀ (H : Heap) (locs : List Loc) (lsA : Array Slot), hasL lsA nL ls → gH G M H → va_S (fr G) s.heap H locs → W p l e R s m args below meth c H locs cells slots QQ (F0 m pc lsA st)) ∧ Rt cc rt Q P
end
section
/-! THE ROWS: hR says what P is; a row turns P at an instruction into P at the next -/
theorem hasL.at {lsA : Array Slot} {nL : Nat} {ls : List (Option Value)} (h : hasL lsA nL ls) {i : Nat} {v : Value} (hi : ls[i]? = some (some v)) : lsA[i]? = some (.val v) := by
  obtain ⟨-, lv, h1, h2⟩ := h
  exact h1.2.2 _ (h2 i v hi)
/-- the place below isn't a long's -/
def okSt (ls : List (Option Value)) (i : Nat) : Prop := ∀ (v : Value) (j : Nat), j + 1 = i → ls[j]? = some (some v) → v.category = 1
theorem hasL.f1 {lsA : Array Slot} {nL : Nat} {ls : List (Option Value)} {lv : List (Nat × Value)} (h1 : lv_has lsA nL lv) (h2 : ∀ (i : Nat) (v : Value), ls[i]? = some (some v) → (i, v) ∈ lv) {i : Nat} {v : Value} (hi : i < ls.length) (hok : okSt ls i) : ∀ (j : Nat) (w : Value), (ls.set i (some v))[j]? = some (some w) → (j, w) ∈ (i, v) :: lv.filter (fun q => !(q.1 == i) && !(q.1 + 1 == i && q.2.category == 2)) := by
  intro j w hj
  rw [List.getElem?_set] at hj
  by_cases e : i = j
  · rw [if_pos e, if_pos hi] at hj
    simp only [Option.some.injEq] at hj
    subst hj; subst e
    exact List.mem_cons_self
  · rw [if_neg e] at hj
    refine List.mem_cons_of_mem _ (List.mem_filter.mpr ⟨h2 j w hj, ?_⟩)
    by_cases e2 : j + 1 = i
    · have := hok w j e2 hj
      simp [this]; omega
    · simp [e2]; omega
theorem hasL.f2 {lsA : Array Slot} {nL : Nat} {ls : List (Option Value)} {lv : List (Nat × Value)} (h1 : lv_has lsA nL lv) (h2 : ∀ (i : Nat) (v : Value), ls[i]? = some (some v) → (i, v) ∈ lv) {i : Nat} {v : Value} (hi : i < ls.length) (hok : okSt ls i) : ∀ (j : Nat) (w : Value), ((ls.set i (some v)).set (i + 1) none)[j]? = some (some w) → (j, w) ∈ (i, v) :: lv.filter (fun q => !(q.1 == i) && (!(q.1 == i + 1) && !(q.1 + 1 == i && q.2.category == 2))) := by
  intro j w hj
  rw [List.getElem?_set] at hj
  by_cases e0 : i + 1 = j
  · rw [if_pos e0] at hj
    split at hj <;> simp at hj
  · rw [if_neg e0, List.getElem?_set] at hj
    by_cases e : i = j
    · rw [if_pos e, if_pos hi] at hj
      simp only [Option.some.injEq] at hj
      subst hj; subst e
      exact List.mem_cons_self
    · rw [if_neg e] at hj
      refine List.mem_cons_of_mem _ (List.mem_filter.mpr ⟨h2 j w hj, ?_⟩)
      by_cases e2 : j + 1 = i
      · have := hok w j e2 hj
        simp [this]; omega
      · simp [e2]; omega
theorem okSt_of0 {r : List (Option Value)} : okSt r 0 := fun v j e h => absurd e (by omega)
theorem okSt_of1 {a0 : Option Value} {r : List (Option Value)} (ho : ∀ v, a0 = some v → v.category = 1) : okSt (a0 :: r) 1 := by
  intro v j e h
  obtain rfl : j = 0 := by omega
  exact ho v (Option.some.inj h)
theorem okSt_of2 {a0 a1 : Option Value} {r : List (Option Value)} (ho : ∀ v, a1 = some v → v.category = 1) : okSt (a0 :: a1 :: r) 2 := by
  intro v j e h
  obtain rfl : j = 1 := by omega
  exact ho v (Option.some.inj h)
theorem okSt_of3 {a0 a1 a2 : Option Value} {r : List (Option Value)} (ho : ∀ v, a2 = some v → v.category = 1) : okSt (a0 :: a1 :: a2 :: r) 3 := by
  intro v j e h
  obtain rfl : j = 2 := by omega
  exact ho v (Option.some.inj h)
theorem okSt_of4 {a0 a1 a2 a3 : Option Value} {r : List (Option Value)} (ho : ∀ v, a3 = some v → v.category = 1) : okSt (a0 :: a1 :: a2 :: a3 :: r) 4 := by
  intro v j e h
  obtain rfl : j = 3 := by omega
  exact ho v (Option.some.inj h)
theorem okSt_of5 {a0 a1 a2 a3 a4 : Option Value} {r : List (Option Value)} (ho : ∀ v, a4 = some v → v.category = 1) : okSt (a0 :: a1 :: a2 :: a3 :: a4 :: r) 5 := by
  intro v j e h
  obtain rfl : j = 4 := by omega
  exact ho v (Option.some.inj h)
theorem okSt_of6 {a0 a1 a2 a3 a4 a5 : Option Value} {r : List (Option Value)} (ho : ∀ v, a5 = some v → v.category = 1) : okSt (a0 :: a1 :: a2 :: a3 :: a4 :: a5 :: r) 6 := by
  intro v j e h
  obtain rfl : j = 5 := by omega
  exact ho v (Option.some.inj h)
theorem okSt_of7 {a0 a1 a2 a3 a4 a5 a6 : Option Value} {r : List (Option Value)} (ho : ∀ v, a6 = some v → v.category = 1) : okSt (a0 :: a1 :: a2 :: a3 :: a4 :: a5 :: a6 :: r) 7 := by
  intro v j e h
  obtain rfl : j = 6 := by omega
  exact ho v (Option.some.inj h)
theorem okSt_of8 {a0 a1 a2 a3 a4 a5 a6 a7 : Option Value} {r : List (Option Value)} (ho : ∀ v, a7 = some v → v.category = 1) : okSt (a0 :: a1 :: a2 :: a3 :: a4 :: a5 :: a6 :: a7 :: r) 8 := by
  intro v j e h
  obtain rfl : j = 7 := by omega
  exact ho v (Option.some.inj h)
theorem okSt_of9 {a0 a1 a2 a3 a4 a5 a6 a7 a8 : Option Value} {r : List (Option Value)} (ho : ∀ v, a8 = some v → v.category = 1) : okSt (a0 :: a1 :: a2 :: a3 :: a4 :: a5 :: a6 :: a7 :: a8 :: r) 9 := by
  intro v j e h
  obtain rfl : j = 8 := by omega
  exact ho v (Option.some.inj h)
theorem okSt_of10 {a0 a1 a2 a3 a4 a5 a6 a7 a8 a9 : Option Value} {r : List (Option Value)} (ho : ∀ v, a9 = some v → v.category = 1) : okSt (a0 :: a1 :: a2 :: a3 :: a4 :: a5 :: a6 :: a7 :: a8 :: a9 :: r) 10 := by
  intro v j e h
  obtain rfl : j = 9 := by omega
  exact ho v (Option.some.inj h)
def entL : List Value → List (Option Value)
  | [] => []
  | v :: vs => if v.category = 2 then some v :: none :: entL vs else some v :: entL vs
theorem entL_in (vs : List Value) : ∀ (o i : Nat) (v : Value), (entL vs)[i]? = some (some v) → (o + i, v) ∈ lv_args o vs := by
  induction vs with
  | nil => intro o i v h; simp [entL] at h
  | cons a vs ih =>
    intro o i v h
    unfold entL at h
    unfold lv_args
    split at h
    · match i, h with
      | 0, h => simp at h; subst h; exact List.mem_cons_self
      | 1, h => simp at h
      | i + 2, h =>
        refine List.mem_cons_of_mem _ ?_
        rw [if_pos (by assumption)]
        have := ih (o + 2) i v (by simpa using h)
        rwa [show o + (i + 2) = o + 2 + i by omega]
    · match i, h with
      | 0, h => simp at h; subst h; exact List.mem_cons_self
      | i + 1, h =>
        refine List.mem_cons_of_mem _ ?_
        rw [if_neg (by assumption)]
        have := ih (o + 1) i v (by simpa using h)
        rwa [show o + (i + 1) = o + 1 + i by omega]
theorem entL_len (vs : List Value) : (entL vs).length = (lg_sl vs).length := by
  induction vs with
  | nil => rfl
  | cons a vs ih =>
    unfold entL lg_sl
    rw [List.flatMap_cons]
    split <;> simp [ih, lg_sl] <;> omega
theorem hasL_entry (vs : List Value) {n k : Nat} {ls0 : List (Option Value)} (h0 : entL vs ++ List.replicate k none = ls0) (hn : ls0.length = n) : hasL ((lg_sl vs ++ List.replicate (n - (lg_sl vs).length) Slot.unset).toArray) n ls0 := by
  have hle : (lg_sl vs).length ≤ n := by rw [← entL_len, ← hn, ← h0]; simp
  refine ⟨hn, _, lv_entry vs hle, fun i v h => ?_⟩
  rw [← h0, List.getElem?_append] at h
  split at h
  · have := entL_in vs 0 i v h
    simpa using this
  · rw [List.getElem?_replicate] at h
    split at h <;> simp at h
/-- a contract, out of the rows -/
theorem Ct.of {G : gG} {Y : gY} {dd : Nat} {vs : List Value} {M : gM} {Q : Option Value → gM → Prop} (hy : plainName Y.1.cls = true) {k : Nat} {ls0 : List (Option Value)} (h0 : entL vs ++ List.replicate k none = ls0) (hn : ls0.length = Y.2.2.1) (hrt : ∀ ty, Y.2.2.2 = some ty → True)
    (body : ∀ P : gP, Bd G Y.2.1 Y.1.cls Y.2.2.1 dd Y.2.2.2 Q P → P 0 ls0 [] M) : Ct G Y dd vs M Q := by
  intro l
  refine Met.ofW (cc := Y.2.1) (maxL := Y.2.2.1) (ret := Y.2.2.2) hy rfl ?_
  intro p e s m args below meth c s₁ B hml hv
  obtain ⟨rfl, hgS, hgH⟩ := hv
  have hts := atoms_spec (ws := wsY Y) B.pre
  have hown : s.vm.findClass Y.1.cls = some m.cls := findClass_of_methodNamed B.named
  have hlocks := B.notSynchronized
  have hx := B.exec
  have hb := B.bytes
  have hr := B.returns
  rw [lg_entry_eq]
  have key := body (fun pc ls st M => ∀ (H : Heap) (locs : List Loc) (lsA : Array Slot), hasL lsA Y.2.2.1 ls → gH G M H → va_S (fr G) s.heap H locs → W p l e (headSpec (wsY Y) (rmD dd)).room s m vs.toArray below meth c H locs 0 0 (MQ below (fun _ st oc t => ∃ (v : Option Value) (M' : gM), oc = .returned v ∧ Q v M' ∧ gH G M' t.heap ∧ va_F (fr G) st t) vs.toArray s 0 0 (fr G)) (F0 m pc lsA st))
    ⟨p, l, e, (headSpec (wsY Y) (rmD dd)).room, s, m, vs.toArray, below, meth, c, 0, 0, _, hx, hb, hml, hown, fun w hw => hts w (List.mem_cons_of_mem _ hw), ⟨Nat.le_refl dd, Nat.le_refl (30 * dd), Nat.le_refl 0, Nat.le_refl 0⟩, hgS, fun pc ls st M => Iff.rfl, ?_, ?_, ?_⟩
  · exact key s.heap [] _ (hasL_entry vs h0 hn) hgH va_S.rf
  · intro pc ls x M' ty hty hd hnar hQ H locs lsA h1 h2 h3
    exact W.zret (ty := ty) hx hb (by rw [hr]; exact hty) hnar (fun t ht hW => ⟨_, M', rfl, hQ, by rw [ht]; exact h2, h3.F ht⟩) h3.2.2 hd
  · intro pc ls x M' hty hd hQ H locs lsA h1 h2 h3
    exact W.lret hx hb (by rw [hr]; exact hty) (fun t ht hW => ⟨_, M', rfl, hQ, by rw [ht]; exact h2, h3.F ht⟩) h3.2.2 hd
  · intro pc ls M' hty hd hQ H locs lsA h1 h2 h3
    exact W.vret hx hb (by rw [hr]; exact hty) (fun t ht hW => ⟨_, M', rfl, hQ, by rw [ht]; exact h2, h3.F ht⟩) h3.2.2 hd
section Rows
variable {G : gG} {cc : ByteArray} {own : String} {nL d : Nat} {rt : Option FieldType} {Q : Option Value → gM → Prop} {P : gP} {pc : Nat} {ls : List (Option Value)} {st : List Value} {M : gM}
theorem r_iconst (hR : Bd G cc own nL d rt Q P) {n : Int} (x : Int32) (hv : Int32.ofInt n = x) (hd : decode cc pc = .ok (.iconst n, 1)) (k : P (pc + 1) ls (.int x :: st) M) : P pc ls (st) M := by
  obtain ⟨p, l, e, R, s, m, args, below, meth, c, cells, slots, QQ, hx, hb, hml, hown, hts, hroom, hS0, hP, hret⟩ := hR
  exact (hP _ _ _ _).mpr fun H locs lsA h1 h2 h3 => lv_iconst hx hb hd hv ((hP _ _ _ _).mp k H locs lsA h1 h2 h3)
theorem r_bipush (hR : Bd G cc own nL d rt Q P) {n : Int} (x : Int32) (hv : (Int8.ofInt n).toInt32 = x) (hd : decode cc pc = .ok (.bipush n, 2)) (k : P (pc + 2) ls (.int x :: st) M) : P pc ls (st) M := by
  obtain ⟨p, l, e, R, s, m, args, below, meth, c, cells, slots, QQ, hx, hb, hml, hown, hts, hroom, hS0, hP, hret⟩ := hR
  exact (hP _ _ _ _).mpr fun H locs lsA h1 h2 h3 => lv_bipush hx hb hd hv ((hP _ _ _ _).mp k H locs lsA h1 h2 h3)
theorem r_sipush (hR : Bd G cc own nL d rt Q P) {n : Int} (x : Int32) (hv : (Int16.ofInt n).toInt32 = x) (hd : decode cc pc = .ok (.sipush n, 3)) (k : P (pc + 3) ls (.int x :: st) M) : P pc ls (st) M := by
  obtain ⟨p, l, e, R, s, m, args, below, meth, c, cells, slots, QQ, hx, hb, hml, hown, hts, hroom, hS0, hP, hret⟩ := hR
  exact (hP _ _ _ _).mpr fun H locs lsA h1 h2 h3 => lv_sipush hx hb hd hv ((hP _ _ _ _).mp k H locs lsA h1 h2 h3)
theorem r_lconst (hR : Bd G cc own nL d rt Q P) {n : Fin 2} (x : Int64) (hv : Int64.ofNat (n : Nat) = x) (hd : decode cc pc = .ok (.lconst n, 1)) (k : P (pc + 1) ls (.long x :: st) M) : P pc ls (st) M := by
  obtain ⟨p, l, e, R, s, m, args, below, meth, c, cells, slots, QQ, hx, hb, hml, hown, hts, hroom, hS0, hP, hret⟩ := hR
  exact (hP _ _ _ _).mpr fun H locs lsA h1 h2 h3 => lv_lconst hx hb hd hv ((hP _ _ _ _).mp k H locs lsA h1 h2 h3)
theorem r_ldc (hR : Bd G cc own nL d rt Q P) {i : Nat} {x : Int32} (hw : Cond.constant own i x ∈ GT) (hd : decode cc pc = .ok (.ldc i, 2)) (k : P (pc + 2) ls (.int x :: st) M) : P pc ls (st) M := by
  obtain ⟨p, l, e, R, s, m, args, below, meth, c, cells, slots, QQ, hx, hb, hml, hown, hts, hroom, hS0, hP, hret⟩ := hR
  exact (hP _ _ _ _).mpr fun H locs lsA h1 h2 h3 => lv_ldc hx hb hown (hts _ hw) hd ((hP _ _ _ _).mp k H locs lsA h1 h2 h3)
theorem r_ldc2 (hR : Bd G cc own nL d rt Q P) {i : Nat} {x : Int64} (hw : Cond.constantLong own i x ∈ GT) (hd : decode cc pc = .ok (.ldc2_w i, 3)) (k : P (pc + 3) ls (.long x :: st) M) : P pc ls (st) M := by
  obtain ⟨p, l, e, R, s, m, args, below, meth, c, cells, slots, QQ, hx, hb, hml, hown, hts, hroom, hS0, hP, hret⟩ := hR
  exact (hP _ _ _ _).mpr fun H locs lsA h1 h2 h3 => lv_ldc2 hx hb hown (hts _ hw) hd ((hP _ _ _ _).mp k H locs lsA h1 h2 h3)
theorem r_iadd (hR : Bd G cc own nL d rt Q P) {x y : Int32} (hd : decode cc pc = .ok (.iadd, 1)) (k : P (pc + 1) ls (.int (x + y) :: st) M) : P pc ls (.int y :: .int x :: st) M := by
  obtain ⟨p, l, e, R, s, m, args, below, meth, c, cells, slots, QQ, hx, hb, hml, hown, hts, hroom, hS0, hP, hret⟩ := hR
  exact (hP _ _ _ _).mpr fun H locs lsA h1 h2 h3 => lv_iadd hx hb hd ((hP _ _ _ _).mp k H locs lsA h1 h2 h3)
theorem r_isub (hR : Bd G cc own nL d rt Q P) {x y : Int32} (hd : decode cc pc = .ok (.isub, 1)) (k : P (pc + 1) ls (.int (x - y) :: st) M) : P pc ls (.int y :: .int x :: st) M := by
  obtain ⟨p, l, e, R, s, m, args, below, meth, c, cells, slots, QQ, hx, hb, hml, hown, hts, hroom, hS0, hP, hret⟩ := hR
  exact (hP _ _ _ _).mpr fun H locs lsA h1 h2 h3 => lv_isub hx hb hd ((hP _ _ _ _).mp k H locs lsA h1 h2 h3)
theorem r_imul (hR : Bd G cc own nL d rt Q P) {x y : Int32} (hd : decode cc pc = .ok (.imul, 1)) (k : P (pc + 1) ls (.int (x * y) :: st) M) : P pc ls (.int y :: .int x :: st) M := by
  obtain ⟨p, l, e, R, s, m, args, below, meth, c, cells, slots, QQ, hx, hb, hml, hown, hts, hroom, hS0, hP, hret⟩ := hR
  exact (hP _ _ _ _).mpr fun H locs lsA h1 h2 h3 => lv_imul hx hb hd ((hP _ _ _ _).mp k H locs lsA h1 h2 h3)
theorem r_iand (hR : Bd G cc own nL d rt Q P) {x y : Int32} (hd : decode cc pc = .ok (.iand, 1)) (k : P (pc + 1) ls (.int (x &&& y) :: st) M) : P pc ls (.int y :: .int x :: st) M := by
  obtain ⟨p, l, e, R, s, m, args, below, meth, c, cells, slots, QQ, hx, hb, hml, hown, hts, hroom, hS0, hP, hret⟩ := hR
  exact (hP _ _ _ _).mpr fun H locs lsA h1 h2 h3 => lv_iand hx hb hd ((hP _ _ _ _).mp k H locs lsA h1 h2 h3)
theorem r_ior (hR : Bd G cc own nL d rt Q P) {x y : Int32} (hd : decode cc pc = .ok (.ior, 1)) (k : P (pc + 1) ls (.int (x ||| y) :: st) M) : P pc ls (.int y :: .int x :: st) M := by
  obtain ⟨p, l, e, R, s, m, args, below, meth, c, cells, slots, QQ, hx, hb, hml, hown, hts, hroom, hS0, hP, hret⟩ := hR
  exact (hP _ _ _ _).mpr fun H locs lsA h1 h2 h3 => lv_ior hx hb hd ((hP _ _ _ _).mp k H locs lsA h1 h2 h3)
theorem r_ixor (hR : Bd G cc own nL d rt Q P) {x y : Int32} (hd : decode cc pc = .ok (.ixor, 1)) (k : P (pc + 1) ls (.int (x ^^^ y) :: st) M) : P pc ls (.int y :: .int x :: st) M := by
  obtain ⟨p, l, e, R, s, m, args, below, meth, c, cells, slots, QQ, hx, hb, hml, hown, hts, hroom, hS0, hP, hret⟩ := hR
  exact (hP _ _ _ _).mpr fun H locs lsA h1 h2 h3 => lv_ixor hx hb hd ((hP _ _ _ _).mp k H locs lsA h1 h2 h3)
theorem r_ishl (hR : Bd G cc own nL d rt Q P) {x y : Int32} (hd : decode cc pc = .ok (.ishl, 1)) (k : P (pc + 1) ls (.int (x <<< (y &&& 31)) :: st) M) : P pc ls (.int y :: .int x :: st) M := by
  obtain ⟨p, l, e, R, s, m, args, below, meth, c, cells, slots, QQ, hx, hb, hml, hown, hts, hroom, hS0, hP, hret⟩ := hR
  exact (hP _ _ _ _).mpr fun H locs lsA h1 h2 h3 => lv_ishl hx hb hd ((hP _ _ _ _).mp k H locs lsA h1 h2 h3)
theorem r_ishr (hR : Bd G cc own nL d rt Q P) {x y : Int32} (hd : decode cc pc = .ok (.ishr, 1)) (k : P (pc + 1) ls (.int (x >>> (y &&& 31)) :: st) M) : P pc ls (.int y :: .int x :: st) M := by
  obtain ⟨p, l, e, R, s, m, args, below, meth, c, cells, slots, QQ, hx, hb, hml, hown, hts, hroom, hS0, hP, hret⟩ := hR
  exact (hP _ _ _ _).mpr fun H locs lsA h1 h2 h3 => lv_ishr hx hb hd ((hP _ _ _ _).mp k H locs lsA h1 h2 h3)
theorem r_iushr (hR : Bd G cc own nL d rt Q P) {x y : Int32} (hd : decode cc pc = .ok (.iushr, 1)) (k : P (pc + 1) ls (.int ((x.toUInt32 >>> (y.toUInt32 &&& Int32.toUInt32 31)).toInt32) :: st) M) : P pc ls (.int y :: .int x :: st) M := by
  obtain ⟨p, l, e, R, s, m, args, below, meth, c, cells, slots, QQ, hx, hb, hml, hown, hts, hroom, hS0, hP, hret⟩ := hR
  exact (hP _ _ _ _).mpr fun H locs lsA h1 h2 h3 => lv_iushr hx hb hd rfl ((hP _ _ _ _).mp k H locs lsA h1 h2 h3)
theorem r_ineg (hR : Bd G cc own nL d rt Q P) {x : Int32} (hd : decode cc pc = .ok (.ineg, 1)) (k : P (pc + 1) ls (.int (-x) :: st) M) : P pc ls (.int x :: st) M := by
  obtain ⟨p, l, e, R, s, m, args, below, meth, c, cells, slots, QQ, hx, hb, hml, hown, hts, hroom, hS0, hP, hret⟩ := hR
  exact (hP _ _ _ _).mpr fun H locs lsA h1 h2 h3 => lv_ineg hx hb hd ((hP _ _ _ _).mp k H locs lsA h1 h2 h3)
theorem r_idiv (hR : Bd G cc own nL d rt Q P) {x y : Int32} (hne : ¬ y = 0) (hd : decode cc pc = .ok (.idiv, 1)) (k : P (pc + 1) ls (.int (x / y) :: st) M) : P pc ls (.int y :: .int x :: st) M := by
  obtain ⟨p, l, e, R, s, m, args, below, meth, c, cells, slots, QQ, hx, hb, hml, hown, hts, hroom, hS0, hP, hret⟩ := hR
  exact (hP _ _ _ _).mpr fun H locs lsA h1 h2 h3 => lv_idiv hx hb hd hne ((hP _ _ _ _).mp k H locs lsA h1 h2 h3)
theorem r_irem (hR : Bd G cc own nL d rt Q P) {x y : Int32} (hne : ¬ y = 0) (hd : decode cc pc = .ok (.irem, 1)) (k : P (pc + 1) ls (.int (x - x / y * y) :: st) M) : P pc ls (.int y :: .int x :: st) M := by
  obtain ⟨p, l, e, R, s, m, args, below, meth, c, cells, slots, QQ, hx, hb, hml, hown, hts, hroom, hS0, hP, hret⟩ := hR
  exact (hP _ _ _ _).mpr fun H locs lsA h1 h2 h3 => lv_irem hx hb hd hne ((hP _ _ _ _).mp k H locs lsA h1 h2 h3)
theorem r_land (hR : Bd G cc own nL d rt Q P) {x y : Int64} (hd : decode cc pc = .ok (.land, 1)) (k : P (pc + 1) ls (.long (x &&& y) :: st) M) : P pc ls (.long y :: .long x :: st) M := by
  obtain ⟨p, l, e, R, s, m, args, below, meth, c, cells, slots, QQ, hx, hb, hml, hown, hts, hroom, hS0, hP, hret⟩ := hR
  exact (hP _ _ _ _).mpr fun H locs lsA h1 h2 h3 => lv_land hx hb hd ((hP _ _ _ _).mp k H locs lsA h1 h2 h3)
theorem r_lor (hR : Bd G cc own nL d rt Q P) {x y : Int64} (hd : decode cc pc = .ok (.lor, 1)) (k : P (pc + 1) ls (.long (x ||| y) :: st) M) : P pc ls (.long y :: .long x :: st) M := by
  obtain ⟨p, l, e, R, s, m, args, below, meth, c, cells, slots, QQ, hx, hb, hml, hown, hts, hroom, hS0, hP, hret⟩ := hR
  exact (hP _ _ _ _).mpr fun H locs lsA h1 h2 h3 => lv_lor hx hb hd ((hP _ _ _ _).mp k H locs lsA h1 h2 h3)
theorem r_i2l (hR : Bd G cc own nL d rt Q P) {x : Int32} (hd : decode cc pc = .ok (.i2l, 1)) (k : P (pc + 1) ls (.long x.toInt64 :: st) M) : P pc ls (.int x :: st) M := by
  obtain ⟨p, l, e, R, s, m, args, below, meth, c, cells, slots, QQ, hx, hb, hml, hown, hts, hroom, hS0, hP, hret⟩ := hR
  exact (hP _ _ _ _).mpr fun H locs lsA h1 h2 h3 => lv_i2l hx hb hd rfl ((hP _ _ _ _).mp k H locs lsA h1 h2 h3)
theorem r_l2i (hR : Bd G cc own nL d rt Q P) {x : Int64} (hd : decode cc pc = .ok (.l2i, 1)) (k : P (pc + 1) ls (.int x.toInt32 :: st) M) : P pc ls (.long x :: st) M := by
  obtain ⟨p, l, e, R, s, m, args, below, meth, c, cells, slots, QQ, hx, hb, hml, hown, hts, hroom, hS0, hP, hret⟩ := hR
  exact (hP _ _ _ _).mpr fun H locs lsA h1 h2 h3 => lv_l2i hx hb hd rfl ((hP _ _ _ _).mp k H locs lsA h1 h2 h3)
theorem r_i2b (hR : Bd G cc own nL d rt Q P) {x : Int32} (hd : decode cc pc = .ok (.i2b, 1)) (k : P (pc + 1) ls (.int x.toInt8.toInt32 :: st) M) : P pc ls (.int x :: st) M := by
  obtain ⟨p, l, e, R, s, m, args, below, meth, c, cells, slots, QQ, hx, hb, hml, hown, hts, hroom, hS0, hP, hret⟩ := hR
  exact (hP _ _ _ _).mpr fun H locs lsA h1 h2 h3 => lv_i2b hx hb hd rfl ((hP _ _ _ _).mp k H locs lsA h1 h2 h3)
theorem r_i2s (hR : Bd G cc own nL d rt Q P) {x : Int32} (hd : decode cc pc = .ok (.i2s, 1)) (k : P (pc + 1) ls (.int x.toInt16.toInt32 :: st) M) : P pc ls (.int x :: st) M := by
  obtain ⟨p, l, e, R, s, m, args, below, meth, c, cells, slots, QQ, hx, hb, hml, hown, hts, hroom, hS0, hP, hret⟩ := hR
  exact (hP _ _ _ _).mpr fun H locs lsA h1 h2 h3 => lv_i2s hx hb hd rfl ((hP _ _ _ _).mp k H locs lsA h1 h2 h3)
theorem r_i2c (hR : Bd G cc own nL d rt Q P) {x : Int32} (hd : decode cc pc = .ok (.i2c, 1)) (k : P (pc + 1) ls (.int (x.toUInt32 % 65536).toInt32 :: st) M) : P pc ls (.int x :: st) M := by
  obtain ⟨p, l, e, R, s, m, args, below, meth, c, cells, slots, QQ, hx, hb, hml, hown, hts, hroom, hS0, hP, hret⟩ := hR
  exact (hP _ _ _ _).mpr fun H locs lsA h1 h2 h3 => lv_i2c hx hb hd rfl ((hP _ _ _ _).mp k H locs lsA h1 h2 h3)
theorem r_lshl (hR : Bd G cc own nL d rt Q P) {x : Int64} {y : Int32} (hd : decode cc pc = .ok (.lshl, 1)) (k : P (pc + 1) ls (.long (x <<< (y.toInt64 &&& 63)) :: st) M) : P pc ls (.int y :: .long x :: st) M := by
  obtain ⟨p, l, e, R, s, m, args, below, meth, c, cells, slots, QQ, hx, hb, hml, hown, hts, hroom, hS0, hP, hret⟩ := hR
  exact (hP _ _ _ _).mpr fun H locs lsA h1 h2 h3 => lv_lshl hx hb hd rfl ((hP _ _ _ _).mp k H locs lsA h1 h2 h3)
theorem r_lcmp (hR : Bd G cc own nL d rt Q P) {x y : Int64} (hd : decode cc pc = .ok (.lcmp, 1)) (k : P (pc + 1) ls (.int (lg_cmp x y) :: st) M) : P pc ls (.long y :: .long x :: st) M := by
  obtain ⟨p, l, e, R, s, m, args, below, meth, c, cells, slots, QQ, hx, hb, hml, hown, hts, hroom, hS0, hP, hret⟩ := hR
  exact (hP _ _ _ _).mpr fun H locs lsA h1 h2 h3 => W.lcmp hx hb hd ((hP _ _ _ _).mp k H locs lsA h1 h2 h3)
theorem r_dup (hR : Bd G cc own nL d rt Q P) {a : Value} (ha : a.category = 1) (hd : decode cc pc = .ok (.dup, 1)) (k : P (pc + 1) ls (a :: a :: st) M) : P pc ls (a :: st) M := by
  obtain ⟨p, l, e, R, s, m, args, below, meth, c, cells, slots, QQ, hx, hb, hml, hown, hts, hroom, hS0, hP, hret⟩ := hR
  exact (hP _ _ _ _).mpr fun H locs lsA h1 h2 h3 => lv_dup hx hb hd ha ((hP _ _ _ _).mp k H locs lsA h1 h2 h3)
theorem r_pop (hR : Bd G cc own nL d rt Q P) {a : Value} (ha : a.category = 1) (hd : decode cc pc = .ok (.pop, 1)) (k : P (pc + 1) ls (st) M) : P pc ls (a :: st) M := by
  obtain ⟨p, l, e, R, s, m, args, below, meth, c, cells, slots, QQ, hx, hb, hml, hown, hts, hroom, hS0, hP, hret⟩ := hR
  exact (hP _ _ _ _).mpr fun H locs lsA h1 h2 h3 => lv_pop hx hb hd ha ((hP _ _ _ _).mp k H locs lsA h1 h2 h3)
theorem r_dup2 (hR : Bd G cc own nL d rt Q P) {a b : Value} (ha : a.category = 1) (hb2 : b.category = 1) (hd : decode cc pc = .ok (.dup2, 1)) (k : P (pc + 1) ls (a :: b :: a :: b :: st) M) : P pc ls (a :: b :: st) M := by
  obtain ⟨p, l, e, R, s, m, args, below, meth, c, cells, slots, QQ, hx, hb, hml, hown, hts, hroom, hS0, hP, hret⟩ := hR
  exact (hP _ _ _ _).mpr fun H locs lsA h1 h2 h3 => lv_dup2_11 hx hb hd ha hb2 ((hP _ _ _ _).mp k H locs lsA h1 h2 h3)
theorem r_if_eq (hR : Bd G cc own nL d rt Q P) {x : Int32} {off : Int} (tgt : Nat) (hd : decode cc pc = .ok (.ifCond .eq off, 3)) (ht : (pc : Int) + off = (tgt : Int)) (kt : x = nI 0 → P tgt ls st M) (kf : ¬ x = nI 0 → P (pc + 3) ls st M) : P pc ls (.int x :: st) M := by
  obtain ⟨p, l, e, R, s, m, args, below, meth, c, cells, slots, QQ, hx, hb, hml, hown, hts, hroom, hS0, hP, hret⟩ := hR
  exact (hP _ _ _ _).mpr fun H locs lsA h1 h2 h3 => lv_if_eq hx hb hd ht (fun q => (hP _ _ _ _).mp (kt q) H locs lsA h1 h2 h3) (fun q => (hP _ _ _ _).mp (kf q) H locs lsA h1 h2 h3)
theorem r_if_lt (hR : Bd G cc own nL d rt Q P) {x : Int32} {off : Int} (tgt : Nat) (hd : decode cc pc = .ok (.ifCond .lt off, 3)) (ht : (pc : Int) + off = (tgt : Int)) (kt : x < nI 0 → P tgt ls st M) (kf : ¬ x < nI 0 → P (pc + 3) ls st M) : P pc ls (.int x :: st) M := by
  obtain ⟨p, l, e, R, s, m, args, below, meth, c, cells, slots, QQ, hx, hb, hml, hown, hts, hroom, hS0, hP, hret⟩ := hR
  exact (hP _ _ _ _).mpr fun H locs lsA h1 h2 h3 => lv_if_lt hx hb hd ht (fun q => (hP _ _ _ _).mp (kt q) H locs lsA h1 h2 h3) (fun q => (hP _ _ _ _).mp (kf q) H locs lsA h1 h2 h3)
theorem r_if_ge (hR : Bd G cc own nL d rt Q P) {x : Int32} {off : Int} (tgt : Nat) (hd : decode cc pc = .ok (.ifCond .ge off, 3)) (ht : (pc : Int) + off = (tgt : Int)) (kt : nI 0 ≤ x → P tgt ls st M) (kf : ¬ nI 0 ≤ x → P (pc + 3) ls st M) : P pc ls (.int x :: st) M := by
  obtain ⟨p, l, e, R, s, m, args, below, meth, c, cells, slots, QQ, hx, hb, hml, hown, hts, hroom, hS0, hP, hret⟩ := hR
  exact (hP _ _ _ _).mpr fun H locs lsA h1 h2 h3 => lv_if_ge hx hb hd ht (fun q => (hP _ _ _ _).mp (kt q) H locs lsA h1 h2 h3) (fun q => (hP _ _ _ _).mp (kf q) H locs lsA h1 h2 h3)
theorem r_if_gt (hR : Bd G cc own nL d rt Q P) {x : Int32} {off : Int} (tgt : Nat) (hd : decode cc pc = .ok (.ifCond .gt off, 3)) (ht : (pc : Int) + off = (tgt : Int)) (kt : nI 0 < x → P tgt ls st M) (kf : ¬ nI 0 < x → P (pc + 3) ls st M) : P pc ls (.int x :: st) M := by
  obtain ⟨p, l, e, R, s, m, args, below, meth, c, cells, slots, QQ, hx, hb, hml, hown, hts, hroom, hS0, hP, hret⟩ := hR
  exact (hP _ _ _ _).mpr fun H locs lsA h1 h2 h3 => lv_if_gt hx hb hd ht (fun q => (hP _ _ _ _).mp (kt q) H locs lsA h1 h2 h3) (fun q => (hP _ _ _ _).mp (kf q) H locs lsA h1 h2 h3)
theorem r_if_le (hR : Bd G cc own nL d rt Q P) {x : Int32} {off : Int} (tgt : Nat) (hd : decode cc pc = .ok (.ifCond .le off, 3)) (ht : (pc : Int) + off = (tgt : Int)) (kt : x ≤ nI 0 → P tgt ls st M) (kf : ¬ x ≤ nI 0 → P (pc + 3) ls st M) : P pc ls (.int x :: st) M := by
  obtain ⟨p, l, e, R, s, m, args, below, meth, c, cells, slots, QQ, hx, hb, hml, hown, hts, hroom, hS0, hP, hret⟩ := hR
  exact (hP _ _ _ _).mpr fun H locs lsA h1 h2 h3 => lv_if_le hx hb hd ht (fun q => (hP _ _ _ _).mp (kt q) H locs lsA h1 h2 h3) (fun q => (hP _ _ _ _).mp (kf q) H locs lsA h1 h2 h3)
theorem r_if_ne (hR : Bd G cc own nL d rt Q P) {x : Int32} {off : Int} (tgt : Nat) (hd : decode cc pc = .ok (.ifCond .ne off, 3)) (ht : (pc : Int) + off = (tgt : Int)) (kt : ¬ x = nI 0 → P tgt ls st M) (kf : x = nI 0 → P (pc + 3) ls st M) : P pc ls (.int x :: st) M := by
  obtain ⟨p, l, e, R, s, m, args, below, meth, c, cells, slots, QQ, hx, hb, hml, hown, hts, hroom, hS0, hP, hret⟩ := hR
  exact (hP _ _ _ _).mpr fun H locs lsA h1 h2 h3 => lv_if_ne hx hb hd ht (fun q => (hP _ _ _ _).mp (kt q) H locs lsA h1 h2 h3) (fun q => (hP _ _ _ _).mp (kf q) H locs lsA h1 h2 h3)
theorem r_icmp_eq (hR : Bd G cc own nL d rt Q P) {x y : Int32} {off : Int} (tgt : Nat) (hd : decode cc pc = .ok (.if_icmp .eq off, 3)) (ht : (pc : Int) + off = (tgt : Int)) (kt : x = y → P tgt ls st M) (kf : ¬ x = y → P (pc + 3) ls st M) : P pc ls (.int y :: .int x :: st) M := by
  obtain ⟨p, l, e, R, s, m, args, below, meth, c, cells, slots, QQ, hx, hb, hml, hown, hts, hroom, hS0, hP, hret⟩ := hR
  exact (hP _ _ _ _).mpr fun H locs lsA h1 h2 h3 => lv_icmp_eq hx hb hd ht (fun q => (hP _ _ _ _).mp (kt q) H locs lsA h1 h2 h3) (fun q => (hP _ _ _ _).mp (kf q) H locs lsA h1 h2 h3)
theorem r_icmp_lt (hR : Bd G cc own nL d rt Q P) {x y : Int32} {off : Int} (tgt : Nat) (hd : decode cc pc = .ok (.if_icmp .lt off, 3)) (ht : (pc : Int) + off = (tgt : Int)) (kt : x < y → P tgt ls st M) (kf : ¬ x < y → P (pc + 3) ls st M) : P pc ls (.int y :: .int x :: st) M := by
  obtain ⟨p, l, e, R, s, m, args, below, meth, c, cells, slots, QQ, hx, hb, hml, hown, hts, hroom, hS0, hP, hret⟩ := hR
  exact (hP _ _ _ _).mpr fun H locs lsA h1 h2 h3 => lv_icmp_lt hx hb hd ht (fun q => (hP _ _ _ _).mp (kt q) H locs lsA h1 h2 h3) (fun q => (hP _ _ _ _).mp (kf q) H locs lsA h1 h2 h3)
theorem r_icmp_ge (hR : Bd G cc own nL d rt Q P) {x y : Int32} {off : Int} (tgt : Nat) (hd : decode cc pc = .ok (.if_icmp .ge off, 3)) (ht : (pc : Int) + off = (tgt : Int)) (kt : y ≤ x → P tgt ls st M) (kf : ¬ y ≤ x → P (pc + 3) ls st M) : P pc ls (.int y :: .int x :: st) M := by
  obtain ⟨p, l, e, R, s, m, args, below, meth, c, cells, slots, QQ, hx, hb, hml, hown, hts, hroom, hS0, hP, hret⟩ := hR
  exact (hP _ _ _ _).mpr fun H locs lsA h1 h2 h3 => lv_icmp_ge hx hb hd ht (fun q => (hP _ _ _ _).mp (kt q) H locs lsA h1 h2 h3) (fun q => (hP _ _ _ _).mp (kf q) H locs lsA h1 h2 h3)
theorem r_icmp_gt (hR : Bd G cc own nL d rt Q P) {x y : Int32} {off : Int} (tgt : Nat) (hd : decode cc pc = .ok (.if_icmp .gt off, 3)) (ht : (pc : Int) + off = (tgt : Int)) (kt : y < x → P tgt ls st M) (kf : ¬ y < x → P (pc + 3) ls st M) : P pc ls (.int y :: .int x :: st) M := by
  obtain ⟨p, l, e, R, s, m, args, below, meth, c, cells, slots, QQ, hx, hb, hml, hown, hts, hroom, hS0, hP, hret⟩ := hR
  exact (hP _ _ _ _).mpr fun H locs lsA h1 h2 h3 => lv_icmp_gt hx hb hd ht (fun q => (hP _ _ _ _).mp (kt q) H locs lsA h1 h2 h3) (fun q => (hP _ _ _ _).mp (kf q) H locs lsA h1 h2 h3)
theorem r_icmp_le (hR : Bd G cc own nL d rt Q P) {x y : Int32} {off : Int} (tgt : Nat) (hd : decode cc pc = .ok (.if_icmp .le off, 3)) (ht : (pc : Int) + off = (tgt : Int)) (kt : x ≤ y → P tgt ls st M) (kf : ¬ x ≤ y → P (pc + 3) ls st M) : P pc ls (.int y :: .int x :: st) M := by
  obtain ⟨p, l, e, R, s, m, args, below, meth, c, cells, slots, QQ, hx, hb, hml, hown, hts, hroom, hS0, hP, hret⟩ := hR
  exact (hP _ _ _ _).mpr fun H locs lsA h1 h2 h3 => lv_icmp_le hx hb hd ht (fun q => (hP _ _ _ _).mp (kt q) H locs lsA h1 h2 h3) (fun q => (hP _ _ _ _).mp (kf q) H locs lsA h1 h2 h3)
theorem r_icmp_ne (hR : Bd G cc own nL d rt Q P) {x y : Int32} {off : Int} (tgt : Nat) (hd : decode cc pc = .ok (.if_icmp .ne off, 3)) (ht : (pc : Int) + off = (tgt : Int)) (kt : ¬ x = y → P tgt ls st M) (kf : x = y → P (pc + 3) ls st M) : P pc ls (.int y :: .int x :: st) M := by
  obtain ⟨p, l, e, R, s, m, args, below, meth, c, cells, slots, QQ, hx, hb, hml, hown, hts, hroom, hS0, hP, hret⟩ := hR
  exact (hP _ _ _ _).mpr fun H locs lsA h1 h2 h3 => lv_icmp_ne hx hb hd ht (fun q => (hP _ _ _ _).mp (kt q) H locs lsA h1 h2 h3) (fun q => (hP _ _ _ _).mp (kf q) H locs lsA h1 h2 h3)
theorem r_goto (hR : Bd G cc own nL d rt Q P) {off : Int} (tgt : Nat) (hd : decode cc pc = .ok (.goto off, 3)) (ht : (pc : Int) + off = (tgt : Int)) (k : P tgt ls st M) : P pc ls st M := by
  obtain ⟨p, l, e, R, s, m, args, below, meth, c, cells, slots, QQ, hx, hb, hml, hown, hts, hroom, hS0, hP, hret⟩ := hR
  exact (hP _ _ _ _).mpr fun H locs lsA h1 h2 h3 => lv_goto hx hb hd ht ((hP _ _ _ _).mp k H locs lsA h1 h2 h3)
theorem r_swOut (hR : Bd G cc own nL d rt Q P) {dflt lo hi : Int} {offs : Array Int} {len : Nat} {x : Int32} (tgt : Nat) (hd : decode cc pc = .ok (.tableswitch dflt lo hi offs, len)) (h : x.toInt < lo ∨ hi < x.toInt) (ht : (pc : Int) + dflt = (tgt : Int)) (k : P tgt ls st M) : P pc ls (.int x :: st) M := by
  obtain ⟨p, l, e, R, s, m, args, below, meth, c, cells, slots, QQ, hx, hb, hml, hown, hts, hroom, hS0, hP, hret⟩ := hR
  exact (hP _ _ _ _).mpr fun H locs lsA h1 h2 h3 => lv_tableOut hx hb hd h ht ((hP _ _ _ _).mp k H locs lsA h1 h2 h3)
theorem r_swIn (hR : Bd G cc own nL d rt Q P) {dflt lo hi : Int} {offs : Array Int} {len : Nat} {x : Int32} {off : Int} (tgt : Nat) (hd : decode cc pc = .ok (.tableswitch dflt lo hi offs, len)) (h1 : ¬ x.toInt < lo) (h2 : ¬ hi < x.toInt) (ho : offs[(x.toInt - lo).toNat]? = some off) (ht : (pc : Int) + off = (tgt : Int)) (k : P tgt ls st M) : P pc ls (.int x :: st) M := by
  obtain ⟨p, l, e, R, s, m, args, below, meth, c, cells, slots, QQ, hx, hb, hml, hown, hts, hroom, hS0, hP, hret⟩ := hR
  exact (hP _ _ _ _).mpr fun H locs lsA g1 g2 g3 => lv_tableIn hx hb hd h1 h2 ho ht ((hP _ _ _ _).mp k H locs lsA g1 g2 g3)
theorem g_iload_n (hR : Bd G cc own nL d rt Q P) {kk : Fin 4} {i : Nat} {x : Int32} (hi : (kk : Nat) = i) (hl : ls[i]? = some (some (.int x))) (hd : decode cc pc = .ok (.iload_n kk, 1)) (k : P (pc + 1) ls (.int x :: st) M) : P pc ls st M := by
  obtain ⟨p, l, e, R, s, m, args, below, meth, c, cells, slots, QQ, hx, hb, hml, hown, hts, hroom, hS0, hP, hret⟩ := hR
  exact (hP _ _ _ _).mpr fun H locs lsA h1 h2 h3 => lv_iload_n hx hb hd hi (h1.at hl) ((hP _ _ _ _).mp k H locs lsA h1 h2 h3)
theorem g_iload (hR : Bd G cc own nL d rt Q P) {i : Nat} {x : Int32} (hl : ls[i]? = some (some (.int x))) (hd : decode cc pc = .ok (.iload i, 2)) (k : P (pc + 2) ls (.int x :: st) M) : P pc ls st M := by
  obtain ⟨p, l, e, R, s, m, args, below, meth, c, cells, slots, QQ, hx, hb, hml, hown, hts, hroom, hS0, hP, hret⟩ := hR
  exact (hP _ _ _ _).mpr fun H locs lsA h1 h2 h3 => lv_iload hx hb hd (h1.at hl) ((hP _ _ _ _).mp k H locs lsA h1 h2 h3)
theorem g_lload_n (hR : Bd G cc own nL d rt Q P) {kk : Fin 4} {i : Nat} {x : Int64} (hi : (kk : Nat) = i) (hl : ls[i]? = some (some (.long x))) (hd : decode cc pc = .ok (.lload_n kk, 1)) (k : P (pc + 1) ls (.long x :: st) M) : P pc ls st M := by
  obtain ⟨p, l, e, R, s, m, args, below, meth, c, cells, slots, QQ, hx, hb, hml, hown, hts, hroom, hS0, hP, hret⟩ := hR
  exact (hP _ _ _ _).mpr fun H locs lsA h1 h2 h3 => lv_lload_n hx hb hd hi (h1.at hl) ((hP _ _ _ _).mp k H locs lsA h1 h2 h3)
theorem g_lload (hR : Bd G cc own nL d rt Q P) {i : Nat} {x : Int64} (hl : ls[i]? = some (some (.long x))) (hd : decode cc pc = .ok (.lload i, 2)) (k : P (pc + 2) ls (.long x :: st) M) : P pc ls st M := by
  obtain ⟨p, l, e, R, s, m, args, below, meth, c, cells, slots, QQ, hx, hb, hml, hown, hts, hroom, hS0, hP, hret⟩ := hR
  exact (hP _ _ _ _).mpr fun H locs lsA h1 h2 h3 => lv_lload hx hb hd (h1.at hl) ((hP _ _ _ _).mp k H locs lsA h1 h2 h3)
theorem g_aload_n (hR : Bd G cc own nL d rt Q P) {kk : Fin 4} {i : Nat} {x : Nat} (hi : (kk : Nat) = i) (hl : ls[i]? = some (some (.ref x))) (hd : decode cc pc = .ok (.aload_n kk, 1)) (k : P (pc + 1) ls (.ref x :: st) M) : P pc ls st M := by
  obtain ⟨p, l, e, R, s, m, args, below, meth, c, cells, slots, QQ, hx, hb, hml, hown, hts, hroom, hS0, hP, hret⟩ := hR
  exact (hP _ _ _ _).mpr fun H locs lsA h1 h2 h3 => lv_aload_n hx hb hd hi (h1.at hl) ((hP _ _ _ _).mp k H locs lsA h1 h2 h3)
theorem g_aload (hR : Bd G cc own nL d rt Q P) {i : Nat} {x : Nat} (hl : ls[i]? = some (some (.ref x))) (hd : decode cc pc = .ok (.aload i, 2)) (k : P (pc + 2) ls (.ref x :: st) M) : P pc ls st M := by
  obtain ⟨p, l, e, R, s, m, args, below, meth, c, cells, slots, QQ, hx, hb, hml, hown, hts, hroom, hS0, hP, hret⟩ := hR
  exact (hP _ _ _ _).mpr fun H locs lsA h1 h2 h3 => lv_aload hx hb hd (h1.at hl) ((hP _ _ _ _).mp k H locs lsA h1 h2 h3)
theorem g_istore_n (hR : Bd G cc own nL d rt Q P) {kk : Fin 4} {i : Nat} {x : Int32} {ls' : List (Option Value)} (hi : (kk : Nat) = i) (hn : i < ls.length) (hok : okSt ls i) (hl : ls.set i (some (.int x)) = ls') (hd : decode cc pc = .ok (.istore_n kk, 1)) (k : P (pc + 1) ls' st M) : P pc ls (.int x :: st) M := by
  obtain ⟨p, l, e, R, s, m, args, below, meth, c, cells, slots, QQ, hx, hb, hml, hown, hts, hroom, hS0, hP, hret⟩ := hR
  refine (hP _ _ _ _).mpr fun H locs lsA h1 h2 h3 => ?_
  obtain ⟨hlen, lv, q1, q2⟩ := h1
  exact lv_istore_n hx hb hd hi q1 (by omega) rfl (fun lsB hB => (hP _ _ _ _).mp k H locs lsB ⟨by rw [← hl]; simp [hlen], _, hB, by rw [← hl]; exact hasL.f1 q1 q2 (by omega) hok⟩ h2 h3)
theorem g_istore (hR : Bd G cc own nL d rt Q P) {i : Nat} {x : Int32} {ls' : List (Option Value)} (hn : i < ls.length) (hok : okSt ls i) (hl : ls.set i (some (.int x)) = ls') (hd : decode cc pc = .ok (.istore i, 2)) (k : P (pc + 2) ls' st M) : P pc ls (.int x :: st) M := by
  obtain ⟨p, l, e, R, s, m, args, below, meth, c, cells, slots, QQ, hx, hb, hml, hown, hts, hroom, hS0, hP, hret⟩ := hR
  refine (hP _ _ _ _).mpr fun H locs lsA h1 h2 h3 => ?_
  obtain ⟨hlen, lv, q1, q2⟩ := h1
  exact lv_istore hx hb hd q1 (by omega) rfl (fun lsB hB => (hP _ _ _ _).mp k H locs lsB ⟨by rw [← hl]; simp [hlen], _, hB, by rw [← hl]; exact hasL.f1 q1 q2 (by omega) hok⟩ h2 h3)
theorem g_lstore_n (hR : Bd G cc own nL d rt Q P) {kk : Fin 4} {i : Nat} {x : Int64} {ls' : List (Option Value)} (hi : (kk : Nat) = i) (hn : i + 1 < ls.length) (hok : okSt ls i) (hl : (ls.set i (some (.long x))).set (i + 1) none = ls') (hd : decode cc pc = .ok (.lstore_n kk, 1)) (k : P (pc + 1) ls' st M) : P pc ls (.long x :: st) M := by
  obtain ⟨p, l, e, R, s, m, args, below, meth, c, cells, slots, QQ, hx, hb, hml, hown, hts, hroom, hS0, hP, hret⟩ := hR
  refine (hP _ _ _ _).mpr fun H locs lsA h1 h2 h3 => ?_
  obtain ⟨hlen, lv, q1, q2⟩ := h1
  exact lv_lstore_n hx hb hd hi q1 (by omega) rfl (fun lsB hB => (hP _ _ _ _).mp k H locs lsB ⟨by rw [← hl]; simp [hlen], _, hB, by rw [← hl]; exact hasL.f2 q1 q2 (by omega) hok⟩ h2 h3)
theorem g_lstore (hR : Bd G cc own nL d rt Q P) {i : Nat} {x : Int64} {ls' : List (Option Value)} (hn : i + 1 < ls.length) (hok : okSt ls i) (hl : (ls.set i (some (.long x))).set (i + 1) none = ls') (hd : decode cc pc = .ok (.lstore i, 2)) (k : P (pc + 2) ls' st M) : P pc ls (.long x :: st) M := by
  obtain ⟨p, l, e, R, s, m, args, below, meth, c, cells, slots, QQ, hx, hb, hml, hown, hts, hroom, hS0, hP, hret⟩ := hR
  refine (hP _ _ _ _).mpr fun H locs lsA h1 h2 h3 => ?_
  obtain ⟨hlen, lv, q1, q2⟩ := h1
  exact lv_lstore hx hb hd q1 (by omega) rfl (fun lsB hB => (hP _ _ _ _).mp k H locs lsB ⟨by rw [← hl]; simp [hlen], _, hB, by rw [← hl]; exact hasL.f2 q1 q2 (by omega) hok⟩ h2 h3)
theorem g_astore_n (hR : Bd G cc own nL d rt Q P) {kk : Fin 4} {i : Nat} {x : Nat} {ls' : List (Option Value)} (hi : (kk : Nat) = i) (hn : i < ls.length) (hok : okSt ls i) (hl : ls.set i (some (.ref x)) = ls') (hd : decode cc pc = .ok (.astore_n kk, 1)) (k : P (pc + 1) ls' st M) : P pc ls (.ref x :: st) M := by
  obtain ⟨p, l, e, R, s, m, args, below, meth, c, cells, slots, QQ, hx, hb, hml, hown, hts, hroom, hS0, hP, hret⟩ := hR
  refine (hP _ _ _ _).mpr fun H locs lsA h1 h2 h3 => ?_
  obtain ⟨hlen, lv, q1, q2⟩ := h1
  exact lv_astore_n hx hb hd hi q1 (by omega) rfl (fun lsB hB => (hP _ _ _ _).mp k H locs lsB ⟨by rw [← hl]; simp [hlen], _, hB, by rw [← hl]; exact hasL.f1 q1 q2 (by omega) hok⟩ h2 h3)
theorem g_astore (hR : Bd G cc own nL d rt Q P) {i : Nat} {x : Nat} {ls' : List (Option Value)} (hn : i < ls.length) (hok : okSt ls i) (hl : ls.set i (some (.ref x)) = ls') (hd : decode cc pc = .ok (.astore i, 2)) (k : P (pc + 2) ls' st M) : P pc ls (.ref x :: st) M := by
  obtain ⟨p, l, e, R, s, m, args, below, meth, c, cells, slots, QQ, hx, hb, hml, hown, hts, hroom, hS0, hP, hret⟩ := hR
  refine (hP _ _ _ _).mpr fun H locs lsA h1 h2 h3 => ?_
  obtain ⟨hlen, lv, q1, q2⟩ := h1
  exact lv_astore hx hb hd q1 (by omega) rfl (fun lsB hB => (hP _ _ _ _).mp k H locs lsB ⟨by rw [← hl]; simp [hlen], _, hB, by rw [← hl]; exact hasL.f1 q1 q2 (by omega) hok⟩ h2 h3)
theorem g_iinc (hR : Bd G cc own nL d rt Q P) {i : Nat} {n : Int} {x : Int32} (v : Int32) {ls' : List (Option Value)} (hn : i < ls.length) (hok : okSt ls i) (hx0 : ls[i]? = some (some (.int x))) (hv : Int32.ofInt n = v) (hl : ls.set i (some (.int (x + v))) = ls') (hd : decode cc pc = .ok (.iinc i n, 3)) (k : P (pc + 3) ls' st M) : P pc ls st M := by
  obtain ⟨p, l, e, R, s, m, args, below, meth, c, cells, slots, QQ, hx, hb, hml, hown, hts, hroom, hS0, hP, hret⟩ := hR
  refine (hP _ _ _ _).mpr fun H locs lsA h1 h2 h3 => ?_
  obtain ⟨hlen, lv, q1, q2⟩ := h1
  obtain ⟨kk, hkk⟩ := List.getElem?_of_mem (q2 i _ hx0)
  exact lv_iinc hx hb hd q1 hkk (by rw [hv]) (by omega) rfl (fun lsB hB => (hP _ _ _ _).mp k H locs lsB ⟨by rw [← hl]; simp [hlen], _, hB, by rw [← hl]; exact hasL.f1 q1 q2 (by omega) hok⟩ h2 h3)
theorem r_iload0 (hR : Bd G cc own nL d rt Q P) {r : List (Option Value)} {x : Int32} (hd : decode cc pc = .ok (.iload_n 0, 1)) (k : P (pc + 1) (some (.int x) :: r) (.int x :: st) M) : P pc (some (.int x) :: r) st M := g_iload_n hR (kk := 0) (i := 0) rfl rfl hd k
theorem r_istore0 (hR : Bd G cc own nL d rt Q P) {b0 : Option Value} {r : List (Option Value)} {x : Int32} (hd : decode cc pc = .ok (.istore_n 0, 1)) (k : P (pc + 1) (some (.int x) :: r) st M) : P pc (b0 :: r) (.int x :: st) M := by
  refine g_istore_n hR (kk := 0) (i := 0) rfl (by simp) (okSt_of0 ) rfl hd k
theorem r_lload0 (hR : Bd G cc own nL d rt Q P) {r : List (Option Value)} {x : Int64} (hd : decode cc pc = .ok (.lload_n 0, 1)) (k : P (pc + 1) (some (.long x) :: r) (.long x :: st) M) : P pc (some (.long x) :: r) st M := g_lload_n hR (kk := 0) (i := 0) rfl rfl hd k
theorem r_lstore0 (hR : Bd G cc own nL d rt Q P) {b0 b1 : Option Value} {r : List (Option Value)} {x : Int64} (hd : decode cc pc = .ok (.lstore_n 0, 1)) (k : P (pc + 1) (some (.long x) :: none :: r) st M) : P pc (b0 :: b1 :: r) (.long x :: st) M := by
  refine g_lstore_n hR (kk := 0) (i := 0) rfl (by simp) (okSt_of0 ) rfl hd k
theorem r_aload0 (hR : Bd G cc own nL d rt Q P) {r : List (Option Value)} {x : Nat} (hd : decode cc pc = .ok (.aload_n 0, 1)) (k : P (pc + 1) (some (.ref x) :: r) (.ref x :: st) M) : P pc (some (.ref x) :: r) st M := g_aload_n hR (kk := 0) (i := 0) rfl rfl hd k
theorem r_astore0 (hR : Bd G cc own nL d rt Q P) {b0 : Option Value} {r : List (Option Value)} {x : Nat} (hd : decode cc pc = .ok (.astore_n 0, 1)) (k : P (pc + 1) (some (.ref x) :: r) st M) : P pc (b0 :: r) (.ref x :: st) M := by
  refine g_astore_n hR (kk := 0) (i := 0) rfl (by simp) (okSt_of0 ) rfl hd k
theorem r_iinc0 (hR : Bd G cc own nL d rt Q P) {r : List (Option Value)} {x : Int32} {n : Int} (v : Int32) (hv : Int32.ofInt n = v) (hd : decode cc pc = .ok (.iinc 0 n, 3)) (k : P (pc + 3) (some (.int (x + v)) :: r) st M) : P pc (some (.int x) :: r) st M := by
  refine g_iinc hR (i := 0) v (by simp) (okSt_of0 ) rfl hv rfl hd k
theorem r_iload1 (hR : Bd G cc own nL d rt Q P) {a0 : Option Value} {r : List (Option Value)} {x : Int32} (hd : decode cc pc = .ok (.iload_n 1, 1)) (k : P (pc + 1) (a0 :: some (.int x) :: r) (.int x :: st) M) : P pc (a0 :: some (.int x) :: r) st M := g_iload_n hR (kk := 1) (i := 1) rfl rfl hd k
theorem r_istore1 (hR : Bd G cc own nL d rt Q P) {a0 : Option Value} {b0 : Option Value} {r : List (Option Value)} {x : Int32} (ho : ∀ v, a0 = some v → v.category = 1) (hd : decode cc pc = .ok (.istore_n 1, 1)) (k : P (pc + 1) (a0 :: some (.int x) :: r) st M) : P pc (a0 :: b0 :: r) (.int x :: st) M := by
  refine g_istore_n hR (kk := 1) (i := 1) rfl (by simp) (okSt_of1 ho) rfl hd k
theorem r_lload1 (hR : Bd G cc own nL d rt Q P) {a0 : Option Value} {r : List (Option Value)} {x : Int64} (hd : decode cc pc = .ok (.lload_n 1, 1)) (k : P (pc + 1) (a0 :: some (.long x) :: r) (.long x :: st) M) : P pc (a0 :: some (.long x) :: r) st M := g_lload_n hR (kk := 1) (i := 1) rfl rfl hd k
theorem r_lstore1 (hR : Bd G cc own nL d rt Q P) {a0 : Option Value} {b0 b1 : Option Value} {r : List (Option Value)} {x : Int64} (ho : ∀ v, a0 = some v → v.category = 1) (hd : decode cc pc = .ok (.lstore_n 1, 1)) (k : P (pc + 1) (a0 :: some (.long x) :: none :: r) st M) : P pc (a0 :: b0 :: b1 :: r) (.long x :: st) M := by
  refine g_lstore_n hR (kk := 1) (i := 1) rfl (by simp) (okSt_of1 ho) rfl hd k
theorem r_aload1 (hR : Bd G cc own nL d rt Q P) {a0 : Option Value} {r : List (Option Value)} {x : Nat} (hd : decode cc pc = .ok (.aload_n 1, 1)) (k : P (pc + 1) (a0 :: some (.ref x) :: r) (.ref x :: st) M) : P pc (a0 :: some (.ref x) :: r) st M := g_aload_n hR (kk := 1) (i := 1) rfl rfl hd k
theorem r_astore1 (hR : Bd G cc own nL d rt Q P) {a0 : Option Value} {b0 : Option Value} {r : List (Option Value)} {x : Nat} (ho : ∀ v, a0 = some v → v.category = 1) (hd : decode cc pc = .ok (.astore_n 1, 1)) (k : P (pc + 1) (a0 :: some (.ref x) :: r) st M) : P pc (a0 :: b0 :: r) (.ref x :: st) M := by
  refine g_astore_n hR (kk := 1) (i := 1) rfl (by simp) (okSt_of1 ho) rfl hd k
theorem r_iinc1 (hR : Bd G cc own nL d rt Q P) {a0 : Option Value} {r : List (Option Value)} {x : Int32} {n : Int} (v : Int32) (hv : Int32.ofInt n = v) (ho : ∀ v, a0 = some v → v.category = 1) (hd : decode cc pc = .ok (.iinc 1 n, 3)) (k : P (pc + 3) (a0 :: some (.int (x + v)) :: r) st M) : P pc (a0 :: some (.int x) :: r) st M := by
  refine g_iinc hR (i := 1) v (by simp) (okSt_of1 ho) rfl hv rfl hd k
theorem r_iload2 (hR : Bd G cc own nL d rt Q P) {a0 a1 : Option Value} {r : List (Option Value)} {x : Int32} (hd : decode cc pc = .ok (.iload_n 2, 1)) (k : P (pc + 1) (a0 :: a1 :: some (.int x) :: r) (.int x :: st) M) : P pc (a0 :: a1 :: some (.int x) :: r) st M := g_iload_n hR (kk := 2) (i := 2) rfl rfl hd k
theorem r_istore2 (hR : Bd G cc own nL d rt Q P) {a0 a1 : Option Value} {b0 : Option Value} {r : List (Option Value)} {x : Int32} (ho : ∀ v, a1 = some v → v.category = 1) (hd : decode cc pc = .ok (.istore_n 2, 1)) (k : P (pc + 1) (a0 :: a1 :: some (.int x) :: r) st M) : P pc (a0 :: a1 :: b0 :: r) (.int x :: st) M := by
  refine g_istore_n hR (kk := 2) (i := 2) rfl (by simp) (okSt_of2 ho) rfl hd k
theorem r_lload2 (hR : Bd G cc own nL d rt Q P) {a0 a1 : Option Value} {r : List (Option Value)} {x : Int64} (hd : decode cc pc = .ok (.lload_n 2, 1)) (k : P (pc + 1) (a0 :: a1 :: some (.long x) :: r) (.long x :: st) M) : P pc (a0 :: a1 :: some (.long x) :: r) st M := g_lload_n hR (kk := 2) (i := 2) rfl rfl hd k
theorem r_lstore2 (hR : Bd G cc own nL d rt Q P) {a0 a1 : Option Value} {b0 b1 : Option Value} {r : List (Option Value)} {x : Int64} (ho : ∀ v, a1 = some v → v.category = 1) (hd : decode cc pc = .ok (.lstore_n 2, 1)) (k : P (pc + 1) (a0 :: a1 :: some (.long x) :: none :: r) st M) : P pc (a0 :: a1 :: b0 :: b1 :: r) (.long x :: st) M := by
  refine g_lstore_n hR (kk := 2) (i := 2) rfl (by simp) (okSt_of2 ho) rfl hd k
theorem r_aload2 (hR : Bd G cc own nL d rt Q P) {a0 a1 : Option Value} {r : List (Option Value)} {x : Nat} (hd : decode cc pc = .ok (.aload_n 2, 1)) (k : P (pc + 1) (a0 :: a1 :: some (.ref x) :: r) (.ref x :: st) M) : P pc (a0 :: a1 :: some (.ref x) :: r) st M := g_aload_n hR (kk := 2) (i := 2) rfl rfl hd k
theorem r_astore2 (hR : Bd G cc own nL d rt Q P) {a0 a1 : Option Value} {b0 : Option Value} {r : List (Option Value)} {x : Nat} (ho : ∀ v, a1 = some v → v.category = 1) (hd : decode cc pc = .ok (.astore_n 2, 1)) (k : P (pc + 1) (a0 :: a1 :: some (.ref x) :: r) st M) : P pc (a0 :: a1 :: b0 :: r) (.ref x :: st) M := by
  refine g_astore_n hR (kk := 2) (i := 2) rfl (by simp) (okSt_of2 ho) rfl hd k
theorem r_iinc2 (hR : Bd G cc own nL d rt Q P) {a0 a1 : Option Value} {r : List (Option Value)} {x : Int32} {n : Int} (v : Int32) (hv : Int32.ofInt n = v) (ho : ∀ v, a1 = some v → v.category = 1) (hd : decode cc pc = .ok (.iinc 2 n, 3)) (k : P (pc + 3) (a0 :: a1 :: some (.int (x + v)) :: r) st M) : P pc (a0 :: a1 :: some (.int x) :: r) st M := by
  refine g_iinc hR (i := 2) v (by simp) (okSt_of2 ho) rfl hv rfl hd k
theorem r_iload3 (hR : Bd G cc own nL d rt Q P) {a0 a1 a2 : Option Value} {r : List (Option Value)} {x : Int32} (hd : decode cc pc = .ok (.iload_n 3, 1)) (k : P (pc + 1) (a0 :: a1 :: a2 :: some (.int x) :: r) (.int x :: st) M) : P pc (a0 :: a1 :: a2 :: some (.int x) :: r) st M := g_iload_n hR (kk := 3) (i := 3) rfl rfl hd k
theorem r_istore3 (hR : Bd G cc own nL d rt Q P) {a0 a1 a2 : Option Value} {b0 : Option Value} {r : List (Option Value)} {x : Int32} (ho : ∀ v, a2 = some v → v.category = 1) (hd : decode cc pc = .ok (.istore_n 3, 1)) (k : P (pc + 1) (a0 :: a1 :: a2 :: some (.int x) :: r) st M) : P pc (a0 :: a1 :: a2 :: b0 :: r) (.int x :: st) M := by
  refine g_istore_n hR (kk := 3) (i := 3) rfl (by simp) (okSt_of3 ho) rfl hd k
theorem r_lload3 (hR : Bd G cc own nL d rt Q P) {a0 a1 a2 : Option Value} {r : List (Option Value)} {x : Int64} (hd : decode cc pc = .ok (.lload_n 3, 1)) (k : P (pc + 1) (a0 :: a1 :: a2 :: some (.long x) :: r) (.long x :: st) M) : P pc (a0 :: a1 :: a2 :: some (.long x) :: r) st M := g_lload_n hR (kk := 3) (i := 3) rfl rfl hd k
theorem r_lstore3 (hR : Bd G cc own nL d rt Q P) {a0 a1 a2 : Option Value} {b0 b1 : Option Value} {r : List (Option Value)} {x : Int64} (ho : ∀ v, a2 = some v → v.category = 1) (hd : decode cc pc = .ok (.lstore_n 3, 1)) (k : P (pc + 1) (a0 :: a1 :: a2 :: some (.long x) :: none :: r) st M) : P pc (a0 :: a1 :: a2 :: b0 :: b1 :: r) (.long x :: st) M := by
  refine g_lstore_n hR (kk := 3) (i := 3) rfl (by simp) (okSt_of3 ho) rfl hd k
theorem r_aload3 (hR : Bd G cc own nL d rt Q P) {a0 a1 a2 : Option Value} {r : List (Option Value)} {x : Nat} (hd : decode cc pc = .ok (.aload_n 3, 1)) (k : P (pc + 1) (a0 :: a1 :: a2 :: some (.ref x) :: r) (.ref x :: st) M) : P pc (a0 :: a1 :: a2 :: some (.ref x) :: r) st M := g_aload_n hR (kk := 3) (i := 3) rfl rfl hd k
theorem r_astore3 (hR : Bd G cc own nL d rt Q P) {a0 a1 a2 : Option Value} {b0 : Option Value} {r : List (Option Value)} {x : Nat} (ho : ∀ v, a2 = some v → v.category = 1) (hd : decode cc pc = .ok (.astore_n 3, 1)) (k : P (pc + 1) (a0 :: a1 :: a2 :: some (.ref x) :: r) st M) : P pc (a0 :: a1 :: a2 :: b0 :: r) (.ref x :: st) M := by
  refine g_astore_n hR (kk := 3) (i := 3) rfl (by simp) (okSt_of3 ho) rfl hd k
theorem r_iinc3 (hR : Bd G cc own nL d rt Q P) {a0 a1 a2 : Option Value} {r : List (Option Value)} {x : Int32} {n : Int} (v : Int32) (hv : Int32.ofInt n = v) (ho : ∀ v, a2 = some v → v.category = 1) (hd : decode cc pc = .ok (.iinc 3 n, 3)) (k : P (pc + 3) (a0 :: a1 :: a2 :: some (.int (x + v)) :: r) st M) : P pc (a0 :: a1 :: a2 :: some (.int x) :: r) st M := by
  refine g_iinc hR (i := 3) v (by simp) (okSt_of3 ho) rfl hv rfl hd k
theorem r_iload4 (hR : Bd G cc own nL d rt Q P) {a0 a1 a2 a3 : Option Value} {r : List (Option Value)} {x : Int32} (hd : decode cc pc = .ok (.iload 4, 2)) (k : P (pc + 2) (a0 :: a1 :: a2 :: a3 :: some (.int x) :: r) (.int x :: st) M) : P pc (a0 :: a1 :: a2 :: a3 :: some (.int x) :: r) st M := g_iload hR (i := 4) rfl hd k
theorem r_istore4 (hR : Bd G cc own nL d rt Q P) {a0 a1 a2 a3 : Option Value} {b0 : Option Value} {r : List (Option Value)} {x : Int32} (ho : ∀ v, a3 = some v → v.category = 1) (hd : decode cc pc = .ok (.istore 4, 2)) (k : P (pc + 2) (a0 :: a1 :: a2 :: a3 :: some (.int x) :: r) st M) : P pc (a0 :: a1 :: a2 :: a3 :: b0 :: r) (.int x :: st) M := by
  refine g_istore hR (i := 4) (by simp) (okSt_of4 ho) rfl hd k
theorem r_lload4 (hR : Bd G cc own nL d rt Q P) {a0 a1 a2 a3 : Option Value} {r : List (Option Value)} {x : Int64} (hd : decode cc pc = .ok (.lload 4, 2)) (k : P (pc + 2) (a0 :: a1 :: a2 :: a3 :: some (.long x) :: r) (.long x :: st) M) : P pc (a0 :: a1 :: a2 :: a3 :: some (.long x) :: r) st M := g_lload hR (i := 4) rfl hd k
theorem r_lstore4 (hR : Bd G cc own nL d rt Q P) {a0 a1 a2 a3 : Option Value} {b0 b1 : Option Value} {r : List (Option Value)} {x : Int64} (ho : ∀ v, a3 = some v → v.category = 1) (hd : decode cc pc = .ok (.lstore 4, 2)) (k : P (pc + 2) (a0 :: a1 :: a2 :: a3 :: some (.long x) :: none :: r) st M) : P pc (a0 :: a1 :: a2 :: a3 :: b0 :: b1 :: r) (.long x :: st) M := by
  refine g_lstore hR (i := 4) (by simp) (okSt_of4 ho) rfl hd k
theorem r_aload4 (hR : Bd G cc own nL d rt Q P) {a0 a1 a2 a3 : Option Value} {r : List (Option Value)} {x : Nat} (hd : decode cc pc = .ok (.aload 4, 2)) (k : P (pc + 2) (a0 :: a1 :: a2 :: a3 :: some (.ref x) :: r) (.ref x :: st) M) : P pc (a0 :: a1 :: a2 :: a3 :: some (.ref x) :: r) st M := g_aload hR (i := 4) rfl hd k
theorem r_astore4 (hR : Bd G cc own nL d rt Q P) {a0 a1 a2 a3 : Option Value} {b0 : Option Value} {r : List (Option Value)} {x : Nat} (ho : ∀ v, a3 = some v → v.category = 1) (hd : decode cc pc = .ok (.astore 4, 2)) (k : P (pc + 2) (a0 :: a1 :: a2 :: a3 :: some (.ref x) :: r) st M) : P pc (a0 :: a1 :: a2 :: a3 :: b0 :: r) (.ref x :: st) M := by
  refine g_astore hR (i := 4) (by simp) (okSt_of4 ho) rfl hd k
theorem r_iinc4 (hR : Bd G cc own nL d rt Q P) {a0 a1 a2 a3 : Option Value} {r : List (Option Value)} {x : Int32} {n : Int} (v : Int32) (hv : Int32.ofInt n = v) (ho : ∀ v, a3 = some v → v.category = 1) (hd : decode cc pc = .ok (.iinc 4 n, 3)) (k : P (pc + 3) (a0 :: a1 :: a2 :: a3 :: some (.int (x + v)) :: r) st M) : P pc (a0 :: a1 :: a2 :: a3 :: some (.int x) :: r) st M := by
  refine g_iinc hR (i := 4) v (by simp) (okSt_of4 ho) rfl hv rfl hd k
theorem r_iload5 (hR : Bd G cc own nL d rt Q P) {a0 a1 a2 a3 a4 : Option Value} {r : List (Option Value)} {x : Int32} (hd : decode cc pc = .ok (.iload 5, 2)) (k : P (pc + 2) (a0 :: a1 :: a2 :: a3 :: a4 :: some (.int x) :: r) (.int x :: st) M) : P pc (a0 :: a1 :: a2 :: a3 :: a4 :: some (.int x) :: r) st M := g_iload hR (i := 5) rfl hd k
theorem r_istore5 (hR : Bd G cc own nL d rt Q P) {a0 a1 a2 a3 a4 : Option Value} {b0 : Option Value} {r : List (Option Value)} {x : Int32} (ho : ∀ v, a4 = some v → v.category = 1) (hd : decode cc pc = .ok (.istore 5, 2)) (k : P (pc + 2) (a0 :: a1 :: a2 :: a3 :: a4 :: some (.int x) :: r) st M) : P pc (a0 :: a1 :: a2 :: a3 :: a4 :: b0 :: r) (.int x :: st) M := by
  refine g_istore hR (i := 5) (by simp) (okSt_of5 ho) rfl hd k
theorem r_lload5 (hR : Bd G cc own nL d rt Q P) {a0 a1 a2 a3 a4 : Option Value} {r : List (Option Value)} {x : Int64} (hd : decode cc pc = .ok (.lload 5, 2)) (k : P (pc + 2) (a0 :: a1 :: a2 :: a3 :: a4 :: some (.long x) :: r) (.long x :: st) M) : P pc (a0 :: a1 :: a2 :: a3 :: a4 :: some (.long x) :: r) st M := g_lload hR (i := 5) rfl hd k
theorem r_lstore5 (hR : Bd G cc own nL d rt Q P) {a0 a1 a2 a3 a4 : Option Value} {b0 b1 : Option Value} {r : List (Option Value)} {x : Int64} (ho : ∀ v, a4 = some v → v.category = 1) (hd : decode cc pc = .ok (.lstore 5, 2)) (k : P (pc + 2) (a0 :: a1 :: a2 :: a3 :: a4 :: some (.long x) :: none :: r) st M) : P pc (a0 :: a1 :: a2 :: a3 :: a4 :: b0 :: b1 :: r) (.long x :: st) M := by
  refine g_lstore hR (i := 5) (by simp) (okSt_of5 ho) rfl hd k
theorem r_aload5 (hR : Bd G cc own nL d rt Q P) {a0 a1 a2 a3 a4 : Option Value} {r : List (Option Value)} {x : Nat} (hd : decode cc pc = .ok (.aload 5, 2)) (k : P (pc + 2) (a0 :: a1 :: a2 :: a3 :: a4 :: some (.ref x) :: r) (.ref x :: st) M) : P pc (a0 :: a1 :: a2 :: a3 :: a4 :: some (.ref x) :: r) st M := g_aload hR (i := 5) rfl hd k
theorem r_astore5 (hR : Bd G cc own nL d rt Q P) {a0 a1 a2 a3 a4 : Option Value} {b0 : Option Value} {r : List (Option Value)} {x : Nat} (ho : ∀ v, a4 = some v → v.category = 1) (hd : decode cc pc = .ok (.astore 5, 2)) (k : P (pc + 2) (a0 :: a1 :: a2 :: a3 :: a4 :: some (.ref x) :: r) st M) : P pc (a0 :: a1 :: a2 :: a3 :: a4 :: b0 :: r) (.ref x :: st) M := by
  refine g_astore hR (i := 5) (by simp) (okSt_of5 ho) rfl hd k
theorem r_iinc5 (hR : Bd G cc own nL d rt Q P) {a0 a1 a2 a3 a4 : Option Value} {r : List (Option Value)} {x : Int32} {n : Int} (v : Int32) (hv : Int32.ofInt n = v) (ho : ∀ v, a4 = some v → v.category = 1) (hd : decode cc pc = .ok (.iinc 5 n, 3)) (k : P (pc + 3) (a0 :: a1 :: a2 :: a3 :: a4 :: some (.int (x + v)) :: r) st M) : P pc (a0 :: a1 :: a2 :: a3 :: a4 :: some (.int x) :: r) st M := by
  refine g_iinc hR (i := 5) v (by simp) (okSt_of5 ho) rfl hv rfl hd k
theorem r_iload6 (hR : Bd G cc own nL d rt Q P) {a0 a1 a2 a3 a4 a5 : Option Value} {r : List (Option Value)} {x : Int32} (hd : decode cc pc = .ok (.iload 6, 2)) (k : P (pc + 2) (a0 :: a1 :: a2 :: a3 :: a4 :: a5 :: some (.int x) :: r) (.int x :: st) M) : P pc (a0 :: a1 :: a2 :: a3 :: a4 :: a5 :: some (.int x) :: r) st M := g_iload hR (i := 6) rfl hd k
theorem r_istore6 (hR : Bd G cc own nL d rt Q P) {a0 a1 a2 a3 a4 a5 : Option Value} {b0 : Option Value} {r : List (Option Value)} {x : Int32} (ho : ∀ v, a5 = some v → v.category = 1) (hd : decode cc pc = .ok (.istore 6, 2)) (k : P (pc + 2) (a0 :: a1 :: a2 :: a3 :: a4 :: a5 :: some (.int x) :: r) st M) : P pc (a0 :: a1 :: a2 :: a3 :: a4 :: a5 :: b0 :: r) (.int x :: st) M := by
  refine g_istore hR (i := 6) (by simp) (okSt_of6 ho) rfl hd k
theorem r_lload6 (hR : Bd G cc own nL d rt Q P) {a0 a1 a2 a3 a4 a5 : Option Value} {r : List (Option Value)} {x : Int64} (hd : decode cc pc = .ok (.lload 6, 2)) (k : P (pc + 2) (a0 :: a1 :: a2 :: a3 :: a4 :: a5 :: some (.long x) :: r) (.long x :: st) M) : P pc (a0 :: a1 :: a2 :: a3 :: a4 :: a5 :: some (.long x) :: r) st M := g_lload hR (i := 6) rfl hd k
theorem r_lstore6 (hR : Bd G cc own nL d rt Q P) {a0 a1 a2 a3 a4 a5 : Option Value} {b0 b1 : Option Value} {r : List (Option Value)} {x : Int64} (ho : ∀ v, a5 = some v → v.category = 1) (hd : decode cc pc = .ok (.lstore 6, 2)) (k : P (pc + 2) (a0 :: a1 :: a2 :: a3 :: a4 :: a5 :: some (.long x) :: none :: r) st M) : P pc (a0 :: a1 :: a2 :: a3 :: a4 :: a5 :: b0 :: b1 :: r) (.long x :: st) M := by
  refine g_lstore hR (i := 6) (by simp) (okSt_of6 ho) rfl hd k
theorem r_aload6 (hR : Bd G cc own nL d rt Q P) {a0 a1 a2 a3 a4 a5 : Option Value} {r : List (Option Value)} {x : Nat} (hd : decode cc pc = .ok (.aload 6, 2)) (k : P (pc + 2) (a0 :: a1 :: a2 :: a3 :: a4 :: a5 :: some (.ref x) :: r) (.ref x :: st) M) : P pc (a0 :: a1 :: a2 :: a3 :: a4 :: a5 :: some (.ref x) :: r) st M := g_aload hR (i := 6) rfl hd k
theorem r_astore6 (hR : Bd G cc own nL d rt Q P) {a0 a1 a2 a3 a4 a5 : Option Value} {b0 : Option Value} {r : List (Option Value)} {x : Nat} (ho : ∀ v, a5 = some v → v.category = 1) (hd : decode cc pc = .ok (.astore 6, 2)) (k : P (pc + 2) (a0 :: a1 :: a2 :: a3 :: a4 :: a5 :: some (.ref x) :: r) st M) : P pc (a0 :: a1 :: a2 :: a3 :: a4 :: a5 :: b0 :: r) (.ref x :: st) M := by
  refine g_astore hR (i := 6) (by simp) (okSt_of6 ho) rfl hd k
theorem r_iinc6 (hR : Bd G cc own nL d rt Q P) {a0 a1 a2 a3 a4 a5 : Option Value} {r : List (Option Value)} {x : Int32} {n : Int} (v : Int32) (hv : Int32.ofInt n = v) (ho : ∀ v, a5 = some v → v.category = 1) (hd : decode cc pc = .ok (.iinc 6 n, 3)) (k : P (pc + 3) (a0 :: a1 :: a2 :: a3 :: a4 :: a5 :: some (.int (x + v)) :: r) st M) : P pc (a0 :: a1 :: a2 :: a3 :: a4 :: a5 :: some (.int x) :: r) st M := by
  refine g_iinc hR (i := 6) v (by simp) (okSt_of6 ho) rfl hv rfl hd k
theorem r_iload7 (hR : Bd G cc own nL d rt Q P) {a0 a1 a2 a3 a4 a5 a6 : Option Value} {r : List (Option Value)} {x : Int32} (hd : decode cc pc = .ok (.iload 7, 2)) (k : P (pc + 2) (a0 :: a1 :: a2 :: a3 :: a4 :: a5 :: a6 :: some (.int x) :: r) (.int x :: st) M) : P pc (a0 :: a1 :: a2 :: a3 :: a4 :: a5 :: a6 :: some (.int x) :: r) st M := g_iload hR (i := 7) rfl hd k
theorem r_istore7 (hR : Bd G cc own nL d rt Q P) {a0 a1 a2 a3 a4 a5 a6 : Option Value} {b0 : Option Value} {r : List (Option Value)} {x : Int32} (ho : ∀ v, a6 = some v → v.category = 1) (hd : decode cc pc = .ok (.istore 7, 2)) (k : P (pc + 2) (a0 :: a1 :: a2 :: a3 :: a4 :: a5 :: a6 :: some (.int x) :: r) st M) : P pc (a0 :: a1 :: a2 :: a3 :: a4 :: a5 :: a6 :: b0 :: r) (.int x :: st) M := by
  refine g_istore hR (i := 7) (by simp) (okSt_of7 ho) rfl hd k
theorem r_lload7 (hR : Bd G cc own nL d rt Q P) {a0 a1 a2 a3 a4 a5 a6 : Option Value} {r : List (Option Value)} {x : Int64} (hd : decode cc pc = .ok (.lload 7, 2)) (k : P (pc + 2) (a0 :: a1 :: a2 :: a3 :: a4 :: a5 :: a6 :: some (.long x) :: r) (.long x :: st) M) : P pc (a0 :: a1 :: a2 :: a3 :: a4 :: a5 :: a6 :: some (.long x) :: r) st M := g_lload hR (i := 7) rfl hd k
theorem r_lstore7 (hR : Bd G cc own nL d rt Q P) {a0 a1 a2 a3 a4 a5 a6 : Option Value} {b0 b1 : Option Value} {r : List (Option Value)} {x : Int64} (ho : ∀ v, a6 = some v → v.category = 1) (hd : decode cc pc = .ok (.lstore 7, 2)) (k : P (pc + 2) (a0 :: a1 :: a2 :: a3 :: a4 :: a5 :: a6 :: some (.long x) :: none :: r) st M) : P pc (a0 :: a1 :: a2 :: a3 :: a4 :: a5 :: a6 :: b0 :: b1 :: r) (.long x :: st) M := by
  refine g_lstore hR (i := 7) (by simp) (okSt_of7 ho) rfl hd k
theorem r_aload7 (hR : Bd G cc own nL d rt Q P) {a0 a1 a2 a3 a4 a5 a6 : Option Value} {r : List (Option Value)} {x : Nat} (hd : decode cc pc = .ok (.aload 7, 2)) (k : P (pc + 2) (a0 :: a1 :: a2 :: a3 :: a4 :: a5 :: a6 :: some (.ref x) :: r) (.ref x :: st) M) : P pc (a0 :: a1 :: a2 :: a3 :: a4 :: a5 :: a6 :: some (.ref x) :: r) st M := g_aload hR (i := 7) rfl hd k
theorem r_astore7 (hR : Bd G cc own nL d rt Q P) {a0 a1 a2 a3 a4 a5 a6 : Option Value} {b0 : Option Value} {r : List (Option Value)} {x : Nat} (ho : ∀ v, a6 = some v → v.category = 1) (hd : decode cc pc = .ok (.astore 7, 2)) (k : P (pc + 2) (a0 :: a1 :: a2 :: a3 :: a4 :: a5 :: a6 :: some (.ref x) :: r) st M) : P pc (a0 :: a1 :: a2 :: a3 :: a4 :: a5 :: a6 :: b0 :: r) (.ref x :: st) M := by
  refine g_astore hR (i := 7) (by simp) (okSt_of7 ho) rfl hd k
theorem r_iinc7 (hR : Bd G cc own nL d rt Q P) {a0 a1 a2 a3 a4 a5 a6 : Option Value} {r : List (Option Value)} {x : Int32} {n : Int} (v : Int32) (hv : Int32.ofInt n = v) (ho : ∀ v, a6 = some v → v.category = 1) (hd : decode cc pc = .ok (.iinc 7 n, 3)) (k : P (pc + 3) (a0 :: a1 :: a2 :: a3 :: a4 :: a5 :: a6 :: some (.int (x + v)) :: r) st M) : P pc (a0 :: a1 :: a2 :: a3 :: a4 :: a5 :: a6 :: some (.int x) :: r) st M := by
  refine g_iinc hR (i := 7) v (by simp) (okSt_of7 ho) rfl hv rfl hd k
theorem r_iload8 (hR : Bd G cc own nL d rt Q P) {a0 a1 a2 a3 a4 a5 a6 a7 : Option Value} {r : List (Option Value)} {x : Int32} (hd : decode cc pc = .ok (.iload 8, 2)) (k : P (pc + 2) (a0 :: a1 :: a2 :: a3 :: a4 :: a5 :: a6 :: a7 :: some (.int x) :: r) (.int x :: st) M) : P pc (a0 :: a1 :: a2 :: a3 :: a4 :: a5 :: a6 :: a7 :: some (.int x) :: r) st M := g_iload hR (i := 8) rfl hd k
theorem r_istore8 (hR : Bd G cc own nL d rt Q P) {a0 a1 a2 a3 a4 a5 a6 a7 : Option Value} {b0 : Option Value} {r : List (Option Value)} {x : Int32} (ho : ∀ v, a7 = some v → v.category = 1) (hd : decode cc pc = .ok (.istore 8, 2)) (k : P (pc + 2) (a0 :: a1 :: a2 :: a3 :: a4 :: a5 :: a6 :: a7 :: some (.int x) :: r) st M) : P pc (a0 :: a1 :: a2 :: a3 :: a4 :: a5 :: a6 :: a7 :: b0 :: r) (.int x :: st) M := by
  refine g_istore hR (i := 8) (by simp) (okSt_of8 ho) rfl hd k
theorem r_lload8 (hR : Bd G cc own nL d rt Q P) {a0 a1 a2 a3 a4 a5 a6 a7 : Option Value} {r : List (Option Value)} {x : Int64} (hd : decode cc pc = .ok (.lload 8, 2)) (k : P (pc + 2) (a0 :: a1 :: a2 :: a3 :: a4 :: a5 :: a6 :: a7 :: some (.long x) :: r) (.long x :: st) M) : P pc (a0 :: a1 :: a2 :: a3 :: a4 :: a5 :: a6 :: a7 :: some (.long x) :: r) st M := g_lload hR (i := 8) rfl hd k
theorem r_lstore8 (hR : Bd G cc own nL d rt Q P) {a0 a1 a2 a3 a4 a5 a6 a7 : Option Value} {b0 b1 : Option Value} {r : List (Option Value)} {x : Int64} (ho : ∀ v, a7 = some v → v.category = 1) (hd : decode cc pc = .ok (.lstore 8, 2)) (k : P (pc + 2) (a0 :: a1 :: a2 :: a3 :: a4 :: a5 :: a6 :: a7 :: some (.long x) :: none :: r) st M) : P pc (a0 :: a1 :: a2 :: a3 :: a4 :: a5 :: a6 :: a7 :: b0 :: b1 :: r) (.long x :: st) M := by
  refine g_lstore hR (i := 8) (by simp) (okSt_of8 ho) rfl hd k
theorem r_aload8 (hR : Bd G cc own nL d rt Q P) {a0 a1 a2 a3 a4 a5 a6 a7 : Option Value} {r : List (Option Value)} {x : Nat} (hd : decode cc pc = .ok (.aload 8, 2)) (k : P (pc + 2) (a0 :: a1 :: a2 :: a3 :: a4 :: a5 :: a6 :: a7 :: some (.ref x) :: r) (.ref x :: st) M) : P pc (a0 :: a1 :: a2 :: a3 :: a4 :: a5 :: a6 :: a7 :: some (.ref x) :: r) st M := g_aload hR (i := 8) rfl hd k
theorem r_astore8 (hR : Bd G cc own nL d rt Q P) {a0 a1 a2 a3 a4 a5 a6 a7 : Option Value} {b0 : Option Value} {r : List (Option Value)} {x : Nat} (ho : ∀ v, a7 = some v → v.category = 1) (hd : decode cc pc = .ok (.astore 8, 2)) (k : P (pc + 2) (a0 :: a1 :: a2 :: a3 :: a4 :: a5 :: a6 :: a7 :: some (.ref x) :: r) st M) : P pc (a0 :: a1 :: a2 :: a3 :: a4 :: a5 :: a6 :: a7 :: b0 :: r) (.ref x :: st) M := by
  refine g_astore hR (i := 8) (by simp) (okSt_of8 ho) rfl hd k
theorem r_iinc8 (hR : Bd G cc own nL d rt Q P) {a0 a1 a2 a3 a4 a5 a6 a7 : Option Value} {r : List (Option Value)} {x : Int32} {n : Int} (v : Int32) (hv : Int32.ofInt n = v) (ho : ∀ v, a7 = some v → v.category = 1) (hd : decode cc pc = .ok (.iinc 8 n, 3)) (k : P (pc + 3) (a0 :: a1 :: a2 :: a3 :: a4 :: a5 :: a6 :: a7 :: some (.int (x + v)) :: r) st M) : P pc (a0 :: a1 :: a2 :: a3 :: a4 :: a5 :: a6 :: a7 :: some (.int x) :: r) st M := by
  refine g_iinc hR (i := 8) v (by simp) (okSt_of8 ho) rfl hv rfl hd k
theorem r_iload9 (hR : Bd G cc own nL d rt Q P) {a0 a1 a2 a3 a4 a5 a6 a7 a8 : Option Value} {r : List (Option Value)} {x : Int32} (hd : decode cc pc = .ok (.iload 9, 2)) (k : P (pc + 2) (a0 :: a1 :: a2 :: a3 :: a4 :: a5 :: a6 :: a7 :: a8 :: some (.int x) :: r) (.int x :: st) M) : P pc (a0 :: a1 :: a2 :: a3 :: a4 :: a5 :: a6 :: a7 :: a8 :: some (.int x) :: r) st M := g_iload hR (i := 9) rfl hd k
theorem r_istore9 (hR : Bd G cc own nL d rt Q P) {a0 a1 a2 a3 a4 a5 a6 a7 a8 : Option Value} {b0 : Option Value} {r : List (Option Value)} {x : Int32} (ho : ∀ v, a8 = some v → v.category = 1) (hd : decode cc pc = .ok (.istore 9, 2)) (k : P (pc + 2) (a0 :: a1 :: a2 :: a3 :: a4 :: a5 :: a6 :: a7 :: a8 :: some (.int x) :: r) st M) : P pc (a0 :: a1 :: a2 :: a3 :: a4 :: a5 :: a6 :: a7 :: a8 :: b0 :: r) (.int x :: st) M := by
  refine g_istore hR (i := 9) (by simp) (okSt_of9 ho) rfl hd k
theorem r_lload9 (hR : Bd G cc own nL d rt Q P) {a0 a1 a2 a3 a4 a5 a6 a7 a8 : Option Value} {r : List (Option Value)} {x : Int64} (hd : decode cc pc = .ok (.lload 9, 2)) (k : P (pc + 2) (a0 :: a1 :: a2 :: a3 :: a4 :: a5 :: a6 :: a7 :: a8 :: some (.long x) :: r) (.long x :: st) M) : P pc (a0 :: a1 :: a2 :: a3 :: a4 :: a5 :: a6 :: a7 :: a8 :: some (.long x) :: r) st M := g_lload hR (i := 9) rfl hd k
theorem r_lstore9 (hR : Bd G cc own nL d rt Q P) {a0 a1 a2 a3 a4 a5 a6 a7 a8 : Option Value} {b0 b1 : Option Value} {r : List (Option Value)} {x : Int64} (ho : ∀ v, a8 = some v → v.category = 1) (hd : decode cc pc = .ok (.lstore 9, 2)) (k : P (pc + 2) (a0 :: a1 :: a2 :: a3 :: a4 :: a5 :: a6 :: a7 :: a8 :: some (.long x) :: none :: r) st M) : P pc (a0 :: a1 :: a2 :: a3 :: a4 :: a5 :: a6 :: a7 :: a8 :: b0 :: b1 :: r) (.long x :: st) M := by
  refine g_lstore hR (i := 9) (by simp) (okSt_of9 ho) rfl hd k
theorem r_aload9 (hR : Bd G cc own nL d rt Q P) {a0 a1 a2 a3 a4 a5 a6 a7 a8 : Option Value} {r : List (Option Value)} {x : Nat} (hd : decode cc pc = .ok (.aload 9, 2)) (k : P (pc + 2) (a0 :: a1 :: a2 :: a3 :: a4 :: a5 :: a6 :: a7 :: a8 :: some (.ref x) :: r) (.ref x :: st) M) : P pc (a0 :: a1 :: a2 :: a3 :: a4 :: a5 :: a6 :: a7 :: a8 :: some (.ref x) :: r) st M := g_aload hR (i := 9) rfl hd k
theorem r_astore9 (hR : Bd G cc own nL d rt Q P) {a0 a1 a2 a3 a4 a5 a6 a7 a8 : Option Value} {b0 : Option Value} {r : List (Option Value)} {x : Nat} (ho : ∀ v, a8 = some v → v.category = 1) (hd : decode cc pc = .ok (.astore 9, 2)) (k : P (pc + 2) (a0 :: a1 :: a2 :: a3 :: a4 :: a5 :: a6 :: a7 :: a8 :: some (.ref x) :: r) st M) : P pc (a0 :: a1 :: a2 :: a3 :: a4 :: a5 :: a6 :: a7 :: a8 :: b0 :: r) (.ref x :: st) M := by
  refine g_astore hR (i := 9) (by simp) (okSt_of9 ho) rfl hd k
theorem r_iinc9 (hR : Bd G cc own nL d rt Q P) {a0 a1 a2 a3 a4 a5 a6 a7 a8 : Option Value} {r : List (Option Value)} {x : Int32} {n : Int} (v : Int32) (hv : Int32.ofInt n = v) (ho : ∀ v, a8 = some v → v.category = 1) (hd : decode cc pc = .ok (.iinc 9 n, 3)) (k : P (pc + 3) (a0 :: a1 :: a2 :: a3 :: a4 :: a5 :: a6 :: a7 :: a8 :: some (.int (x + v)) :: r) st M) : P pc (a0 :: a1 :: a2 :: a3 :: a4 :: a5 :: a6 :: a7 :: a8 :: some (.int x) :: r) st M := by
  refine g_iinc hR (i := 9) v (by simp) (okSt_of9 ho) rfl hv rfl hd k
theorem r_iload10 (hR : Bd G cc own nL d rt Q P) {a0 a1 a2 a3 a4 a5 a6 a7 a8 a9 : Option Value} {r : List (Option Value)} {x : Int32} (hd : decode cc pc = .ok (.iload 10, 2)) (k : P (pc + 2) (a0 :: a1 :: a2 :: a3 :: a4 :: a5 :: a6 :: a7 :: a8 :: a9 :: some (.int x) :: r) (.int x :: st) M) : P pc (a0 :: a1 :: a2 :: a3 :: a4 :: a5 :: a6 :: a7 :: a8 :: a9 :: some (.int x) :: r) st M := g_iload hR (i := 10) rfl hd k
theorem r_istore10 (hR : Bd G cc own nL d rt Q P) {a0 a1 a2 a3 a4 a5 a6 a7 a8 a9 : Option Value} {b0 : Option Value} {r : List (Option Value)} {x : Int32} (ho : ∀ v, a9 = some v → v.category = 1) (hd : decode cc pc = .ok (.istore 10, 2)) (k : P (pc + 2) (a0 :: a1 :: a2 :: a3 :: a4 :: a5 :: a6 :: a7 :: a8 :: a9 :: some (.int x) :: r) st M) : P pc (a0 :: a1 :: a2 :: a3 :: a4 :: a5 :: a6 :: a7 :: a8 :: a9 :: b0 :: r) (.int x :: st) M := by
  refine g_istore hR (i := 10) (by simp) (okSt_of10 ho) rfl hd k
theorem r_lload10 (hR : Bd G cc own nL d rt Q P) {a0 a1 a2 a3 a4 a5 a6 a7 a8 a9 : Option Value} {r : List (Option Value)} {x : Int64} (hd : decode cc pc = .ok (.lload 10, 2)) (k : P (pc + 2) (a0 :: a1 :: a2 :: a3 :: a4 :: a5 :: a6 :: a7 :: a8 :: a9 :: some (.long x) :: r) (.long x :: st) M) : P pc (a0 :: a1 :: a2 :: a3 :: a4 :: a5 :: a6 :: a7 :: a8 :: a9 :: some (.long x) :: r) st M := g_lload hR (i := 10) rfl hd k
theorem r_lstore10 (hR : Bd G cc own nL d rt Q P) {a0 a1 a2 a3 a4 a5 a6 a7 a8 a9 : Option Value} {b0 b1 : Option Value} {r : List (Option Value)} {x : Int64} (ho : ∀ v, a9 = some v → v.category = 1) (hd : decode cc pc = .ok (.lstore 10, 2)) (k : P (pc + 2) (a0 :: a1 :: a2 :: a3 :: a4 :: a5 :: a6 :: a7 :: a8 :: a9 :: some (.long x) :: none :: r) st M) : P pc (a0 :: a1 :: a2 :: a3 :: a4 :: a5 :: a6 :: a7 :: a8 :: a9 :: b0 :: b1 :: r) (.long x :: st) M := by
  refine g_lstore hR (i := 10) (by simp) (okSt_of10 ho) rfl hd k
theorem r_aload10 (hR : Bd G cc own nL d rt Q P) {a0 a1 a2 a3 a4 a5 a6 a7 a8 a9 : Option Value} {r : List (Option Value)} {x : Nat} (hd : decode cc pc = .ok (.aload 10, 2)) (k : P (pc + 2) (a0 :: a1 :: a2 :: a3 :: a4 :: a5 :: a6 :: a7 :: a8 :: a9 :: some (.ref x) :: r) (.ref x :: st) M) : P pc (a0 :: a1 :: a2 :: a3 :: a4 :: a5 :: a6 :: a7 :: a8 :: a9 :: some (.ref x) :: r) st M := g_aload hR (i := 10) rfl hd k
theorem r_astore10 (hR : Bd G cc own nL d rt Q P) {a0 a1 a2 a3 a4 a5 a6 a7 a8 a9 : Option Value} {b0 : Option Value} {r : List (Option Value)} {x : Nat} (ho : ∀ v, a9 = some v → v.category = 1) (hd : decode cc pc = .ok (.astore 10, 2)) (k : P (pc + 2) (a0 :: a1 :: a2 :: a3 :: a4 :: a5 :: a6 :: a7 :: a8 :: a9 :: some (.ref x) :: r) st M) : P pc (a0 :: a1 :: a2 :: a3 :: a4 :: a5 :: a6 :: a7 :: a8 :: a9 :: b0 :: r) (.ref x :: st) M := by
  refine g_astore hR (i := 10) (by simp) (okSt_of10 ho) rfl hd k
theorem r_iinc10 (hR : Bd G cc own nL d rt Q P) {a0 a1 a2 a3 a4 a5 a6 a7 a8 a9 : Option Value} {r : List (Option Value)} {x : Int32} {n : Int} (v : Int32) (hv : Int32.ofInt n = v) (ho : ∀ v, a9 = some v → v.category = 1) (hd : decode cc pc = .ok (.iinc 10 n, 3)) (k : P (pc + 3) (a0 :: a1 :: a2 :: a3 :: a4 :: a5 :: a6 :: a7 :: a8 :: a9 :: some (.int (x + v)) :: r) st M) : P pc (a0 :: a1 :: a2 :: a3 :: a4 :: a5 :: a6 :: a7 :: a8 :: a9 :: some (.int x) :: r) st M := by
  refine g_iinc hR (i := 10) v (by simp) (okSt_of10 ho) rfl hv rfl hd k
end Rows
end
section
/-! MEMORY ROWS AND CALLS -/
def FLd (own : String) (idx ci k : Nat) : Prop := ∃ (C : String) (T : u_T) (N : Nat), vwCl[ci]? = some (C, T, N) ∧ k < N ∧ Cond.fieldLink own idx (T k).1 (T k).2.1 (T k).2.2.1 ∈ GT ∧ ∀ w ∈ u_ws C T N, w ∈ GT
def FPd (own : String) (idx ci k : Nat) (ty : FieldType) : Prop := ∃ (C : String) (T : u_T) (N : Nat) (ty0 : Nat → FieldType), vwCl[ci]? = some (C, T, N) ∧ k < N ∧ Cond.fieldLink own idx (T k).1 (T k).2.1 (T k).2.2.1 ∈ GT ∧ (∀ w ∈ u_ws C T N, w ∈ GT) ∧ (∀ k, k < N → parseFieldDescriptor (T k).2.2.1 = some (ty0 k)) ∧ (∀ a, a < N → ∀ b, b < N → a ≠ b → (T a).2.1 ≠ (T b).2.1) ∧ (T k).2.2.2 = false ∧ ty0 k = ty
theorem vpN {x : Int32} {j n : Nat} (hx : x = nI j) (hj : j < n) (hn : n < 2 ^ 31) : vp_in x n ∧ x.toNatClampNeg = j := by
  subst hx
  exact ⟨vp_in_nI hj hn, nI_clamp (by omega)⟩
section Rows
variable {G : gG} {cc : ByteArray} {own : String} {nL d : Nat} {rt : Option FieldType} {Q : Option Value → gM → Prop} {P : gP} {pc : Nat} {ls : List (Option Value)} {st : List Value} {M : gM}
theorem r_get (hR : Bd G cc own nL d rt Q P) {r i idx ci k : Nat} {fs : List Value} {v : Value} (hi : i < gcnt r) (hf : FLd own idx ci k) (hE : Es G (M.1 r i) (M.2 r i) r i = .inr (ci, fs)) (hv : fs[k]? = some v) (hd : decode cc pc = .ok (.getfield idx, 3)) (kk : P (pc + 3) ls (v :: st) M) : P pc ls (.ref (ad G r i) :: st) M := by
  obtain ⟨p, l, e, R, s, m, args, below, meth, c, cells, slots, QQ, hx, hb, hml, hown, hts, hroom, hS0, hP, hret⟩ := hR
  obtain ⟨C, T, N, hc, hk, hl, hin⟩ := hf
  exact (hP _ _ _ _).mpr fun H locs lsA h1 h2 h3 => va_get (ws := gWl G M) hx hb hts hin hown hS0.1 h2 (goff r i) (by rw [gWl_at hi, hE]) hc k hk (hts _ hl) (fun _ h => h) hv hd ((hP _ _ _ _).mp kk H locs lsA h1 h2 h3)
theorem r_puti (hR : Bd G cc own nL d rt Q P) {r i idx ci k : Nat} {ty : FieldType} {fs : List Value} {x : Int32} (hi : i < gcnt r) (hf : FPd own idx ci k ty) (hE : Es G (M.1 r i) (M.2 r i) r i = .inr (ci, fs)) (hE2 : Es G (upd (M.1 r i) k x) (M.2 r i) r i = .inr (ci, fs.set k (.int x))) (hl : k < fs.length) (hn : narrow ty (.int x) = .int x) (hfit : fits ty (.int x) = true) (hd : decode cc pc = .ok (.putfield idx, 3)) (kk : P (pc + 3) ls st (seti M r i k x)) : P pc ls (.int x :: .ref (ad G r i) :: st) M := by
  obtain ⟨p, l, e, R, s, m, args, below, meth, c, cells, slots, QQ, hx, hb, hml, hown, hts, hroom, hS0, hP, hret⟩ := hR
  obtain ⟨C, T, N, ty0, hc, hk, hlk, hin, hty, hnm, hfin, hty0⟩ := hf
  refine (hP _ _ _ _).mpr fun H locs lsA h1 h2 h3 => va_put (ws := gWl G M) (A := fr G) hx hb hts hin ty0 hty hnm hown hS0.1 h2 (gWl_D G M) h3 (goff r i) (by rw [gWl_at hi, hE]) hc k hk (hts _ hlk) (fun _ h => h) hfin (by rw [hty k hk, hty0]) hn hfit hl hd (fun H1 locs1 g1 g2 g3 => ?_)
  rw [gWl_set (M' := seti M r i k x) hi (seti_o M r i k x) (by rw [seti_s]; exact hE2)] at g1
  exact (hP _ _ _ _).mp kk H1 locs1 lsA h1 g1 g3
theorem r_iald (hR : Bd G cc own nL d rt Q P) {r i n j : Nat} {x : Int32} (hi : i < gcnt r) (hE : Es G (M.1 r i) (M.2 r i) r i = .inl (gcI G, n, .inl (M.1 r i))) (hx0 : x = nI j) (hj : j < n) (hn : n < 2 ^ 31) (hd : decode cc pc = .ok (.iaload, 1)) (kk : P (pc + 1) ls (.int (M.1 r i j) :: st) M) : P pc ls (.int x :: .ref (ad G r i) :: st) M := by
  obtain ⟨p, l, e, R, s, m, args, below, meth, c, cells, slots, QQ, hx, hb, hml, hown, hts, hroom, hS0, hP, hret⟩ := hR
  obtain ⟨z1, z2⟩ := vpN hx0 hj hn
  refine (hP _ _ _ _).mpr fun H locs lsA h1 h2 h3 => va_iald (ws := gWl G M) hx hb hS0.1 h2 (goff r i) 0 (by rw [gWl_at hi, hE]) rfl z1 hd ?_
  rw [z2]
  exact (hP _ _ _ _).mp kk H locs lsA h1 h2 h3
theorem r_lald (hR : Bd G cc own nL d rt Q P) {r i n j : Nat} {x : Int32} (hi : i < gcnt r) (hE : Es G (M.1 r i) (M.2 r i) r i = .inl (gcL G, n, .inr (.inl (M.2 r i)))) (hx0 : x = nI j) (hj : j < n) (hn : n < 2 ^ 31) (hd : decode cc pc = .ok (.laload, 1)) (kk : P (pc + 1) ls (.long (M.2 r i j) :: st) M) : P pc ls (.int x :: .ref (ad G r i) :: st) M := by
  obtain ⟨p, l, e, R, s, m, args, below, meth, c, cells, slots, QQ, hx, hb, hml, hown, hts, hroom, hS0, hP, hret⟩ := hR
  obtain ⟨z1, z2⟩ := vpN hx0 hj hn
  refine (hP _ _ _ _).mpr fun H locs lsA h1 h2 h3 => va_lald (ws := gWl G M) hx hb hS0.1 h2 (goff r i) 1 (by rw [gWl_at hi, hE]) rfl z1 hd ?_
  rw [z2]
  exact (hP _ _ _ _).mp kk H locs lsA h1 h2 h3
theorem r_iast (hR : Bd G cc own nL d rt Q P) {r i n j : Nat} {x v : Int32} (hi : i < gcnt r) (hE : ∀ f, Es G f (M.2 r i) r i = .inl (gcI G, n, .inl f)) (hx0 : x = nI j) (hj : j < n) (hn : n < 2 ^ 31) (hd : decode cc pc = .ok (.iastore, 1)) (kk : P (pc + 1) ls st (seti M r i j v)) : P pc ls (.int v :: .int x :: .ref (ad G r i) :: st) M := by
  obtain ⟨p, l, e, R, s, m, args, below, meth, c, cells, slots, QQ, hx, hb, hml, hown, hts, hroom, hS0, hP, hret⟩ := hR
  obtain ⟨z1, z2⟩ := vpN hx0 hj hn
  refine (hP _ _ _ _).mpr fun H locs lsA h1 h2 h3 => va_iast (ws := gWl G M) (A := fr G) hx hb hS0.1 h2 (gWl_D G M) h3 (goff r i) 0 (by rw [gWl_at hi, hE]) rfl z1 hd (fun H1 locs1 g1 g2 g3 => ?_)
  rw [z2, gWl_set (M' := seti M r i j v) hi (seti_o M r i j v) (by rw [seti_s]; exact hE _)] at g1
  exact (hP _ _ _ _).mp kk H1 locs1 lsA h1 g1 g3
theorem r_last (hR : Bd G cc own nL d rt Q P) {r i n j : Nat} {x : Int32} {v : Int64} (hi : i < gcnt r) (hE : ∀ f, Es G (M.1 r i) f r i = .inl (gcL G, n, .inr (.inl f))) (hx0 : x = nI j) (hj : j < n) (hn : n < 2 ^ 31) (hd : decode cc pc = .ok (.lastore, 1)) (kk : P (pc + 1) ls st (setl M r i j v)) : P pc ls (.long v :: .int x :: .ref (ad G r i) :: st) M := by
  obtain ⟨p, l, e, R, s, m, args, below, meth, c, cells, slots, QQ, hx, hb, hml, hown, hts, hroom, hS0, hP, hret⟩ := hR
  obtain ⟨z1, z2⟩ := vpN hx0 hj hn
  refine (hP _ _ _ _).mpr fun H locs lsA h1 h2 h3 => va_last (ws := gWl G M) (A := fr G) hx hb hS0.1 h2 (gWl_D G M) h3 (goff r i) 1 (by rw [gWl_at hi, hE]) rfl z1 hd (fun H1 locs1 g1 g2 g3 => ?_)
  rw [z2, gWl_set (M' := setl M r i j v) hi (setl_o M r i j v) (by rw [setl_s]; exact hE _)] at g1
  exact (hP _ _ _ _).mp kk H1 locs1 lsA h1 g1 g3
theorem r_aald (hR : Bd G cc own nL d rt Q P) {r i n j a t0 : Nat} {cA : ClassId} {C : String} {f : Nat → Option Nat} {x : Int32} (hi : i < gcnt r) (hE : Es G (M.1 r i) (M.2 r i) r i = .inl (cA, rfA n f)) (ht : (gtys G)[t0]? = some (cA, .object C)) (hx0 : x = nI j) (hj : j < n) (hn : n < 2 ^ 31) (ha : f j = some a) (hd : decode cc pc = .ok (.aaload, 1)) (kk : P (pc + 1) ls (.ref a :: st) M) : P pc ls (.int x :: .ref (ad G r i) :: st) M := by
  obtain ⟨p, l, e, R, s, m, args, below, meth, c, cells, slots, QQ, hx, hb, hml, hown, hts, hroom, hS0, hP, hret⟩ := hR
  obtain ⟨z1, z2⟩ := vpN hx0 hj hn
  refine (hP _ _ _ _).mpr fun H locs lsA h1 h2 h3 => va_aldq (ws := gWl G M) hx hb hS0.1 h2 (goff r i) t0 (by rw [gWl_at hi, hE]) ht z1 hd ?_
  rw [z2, ha]
  exact (hP _ _ _ _).mp kk H locs lsA h1 h2 h3
theorem r_gets (hR : Bd G cc own nL d rt Q P) {idx : Nat} (k : Nat) (hk : k < 4) (hl : Cond.fieldLink own idx (sC k) (sN k) "[I" ∈ GT) (hd : decode cc pc = .ok (.getstatic idx, 3)) (kk : P (pc + 3) ls (.ref (gsa G k) :: st) M) : P pc ls st M := by
  obtain ⟨p, l, e, R, s, m, args, below, meth, c, cells, slots, QQ, hx, hb, hml, hown, hts, hroom, hS0, hP, hret⟩ := hR
  exact (hP _ _ _ _).mpr fun H locs lsA h1 h2 h3 => va_gets hx hb (hS0.2.1 k hk).1 h3 hown (hts _ hl) (fun _ h => h) hd ((hP _ _ _ _).mp kk H locs lsA h1 h2 h3)
theorem r_getsN (hR : Bd G cc RX5 nL d rt Q P) (hd : decode cc pc = .ok (.getstatic 55, 3)) (kk : P (pc + 3) ls (.ref (gsa G 2) :: st) M) : P pc ls st M := by
  obtain ⟨p, l, e, R, s, m, args, below, meth, c, cells, slots, QQ, hx, hb, hml, hown, hts, hroom, hS0, hP, hret⟩ := hR
  exact (hP _ _ _ _).mpr fun H locs lsA h1 h2 h3 => va_getsN (C := "WindRota") (n := "NEARER_WAY") (d := "[I") (ref := RX7) (host := RX7) hx hb (hS0.2.1 2 (by decide)).1 h3 hown (va_Nw.use rfl hS0.2.2.2.2.2.2.2) (fun _ h => h) hd ((hP _ _ _ _).mp kk H locs lsA h1 h2 h3)
theorem r_tald (hR : Bd G cc own nL d rt Q P) {j : Nat} {x : Int32} {k : Nat} (hk : k < 4) (hx0 : x = nI j) (hj : j < (sFl k).length) (hn : (sFl k).length < 2 ^ 31) (hd : decode cc pc = .ok (.iaload, 1)) (kk : P (pc + 1) ls (.int ((sFl k).getD j 0) :: st) M) : P pc ls (.int x :: .ref (gsa G k) :: st) M := by
  obtain ⟨p, l, e, R, s, m, args, below, meth, c, cells, slots, QQ, hx, hb, hml, hown, hts, hroom, hS0, hP, hret⟩ := hR
  obtain ⟨z1, z2⟩ := vpN hx0 hj hn
  exact (hP _ _ _ _).mpr fun H locs lsA h1 h2 h3 => va_ti hx hb (hS0.2.1 k hk).2 h3 z1 (by rw [z2]) hd ((hP _ _ _ _).mp kk H locs lsA h1 h2 h3)
theorem r_ldcS (hR : Bd G cc "WindRota$Teller" nL d rt Q P) (i : Nat) {ix : Nat} (hi : i < 12) (hix : kIx.getD i 0 = ix) (hd : decode cc pc = .ok (.ldc ix, 2)) (kk : P (pc + 2) ls (.ref (gks G i) :: st) M) : P pc ls st M := by
  obtain ⟨p, l, e, R, s, m, args, below, meth, c, cells, slots, QQ, hx, hb, hml, hown, hts, hroom, hS0, hP, hret⟩ := hR
  subst hix
  exact (hP _ _ _ _).mpr fun H locs lsA h1 h2 h3 => va_ldcS hx hb hown (hS0.2.2.2.2.1 i hi) hd ((hP _ _ _ _).mp kk H locs lsA h1 h2 h3)
theorem r_iret (hR : Bd G cc own nL d (some .int) Q P) {x : Int32} (hd : decode cc pc = .ok (.ireturn, 1)) (hq : Q (some (.int x)) M) : P pc ls [.int x] M := by
  obtain ⟨p, l, e, R, s, m, args, below, meth, c, cells, slots, QQ, hx, hb, hml, hown, hts, hroom, hS0, hP, hret⟩ := hR
  exact hret.1 pc ls x M .int rfl hd rfl hq
theorem r_zret (hR : Bd G cc own nL d (some .boolean) Q P) {x : Int32} (hd : decode cc pc = .ok (.ireturn, 1)) (hn : narrow .boolean (.int x) = .int x) (hq : Q (some (.int x)) M) : P pc ls [.int x] M := by
  obtain ⟨p, l, e, R, s, m, args, below, meth, c, cells, slots, QQ, hx, hb, hml, hown, hts, hroom, hS0, hP, hret⟩ := hR
  exact hret.1 pc ls x M .boolean rfl hd hn hq
theorem r_lret (hR : Bd G cc own nL d (some .long) Q P) {x : Int64} (hd : decode cc pc = .ok (.lreturn, 1)) (hq : Q (some (.long x)) M) : P pc ls [.long x] M := by
  obtain ⟨p, l, e, R, s, m, args, below, meth, c, cells, slots, QQ, hx, hb, hml, hown, hts, hroom, hS0, hP, hret⟩ := hR
  exact hret.2.1 pc ls x M rfl hd hq
theorem r_vret (hR : Bd G cc own nL d none Q P) (hd : decode cc pc = .ok (.return_, 1)) (hq : Q none M) : P pc ls [] M := by
  obtain ⟨p, l, e, R, s, m, args, below, meth, c, cells, slots, QQ, hx, hb, hml, hown, hts, hroom, hS0, hP, hret⟩ := hR
  exact hret.2.2 pc ls M rfl hd hq
/-- the value on top gets a name -/
theorem r_nm {x : Int32} (y : Int32) (h : x = y) (k : P pc ls (.int y :: st) M) : P pc ls (.int x :: st) M := by rw [h]; exact k
theorem r_nml {x : Int64} (y : Int64) (h : x = y) (k : P pc ls (.long y :: st) M) : P pc ls (.long x :: st) M := by rw [h]; exact k
theorem r_mem {M2 : gM} (h : M = M2) (k : P pc ls st M2) : P pc ls st M := by rw [h]; exact k
theorem r_ls {ls2 : List (Option Value)} (h : ls = ls2) (k : P pc ls2 st M) : P pc ls st M := by rw [h]; exact k
/-! calls -/
theorem g_run {p : Program} {l : Launch} {e : Env} {R : Room} {s : State} {m : MethodId} {args : Array Value} {below : List Frame} {meth : Method} {c : Code} {H : Heap} {locs : List Loc} {cells slots : Nat} {QQ : State → Prop} {lsA : Array Slot} {st0 : List Value} {Qc : Option Value → gM → Prop}
    (hr : va_Run p l e R s m args below meth c H locs cells slots 0 0 (F0 m pc lsA st0) st (fun st oc t => ∃ (v : Option Value) (M' : gM), oc = .returned v ∧ Qc v M' ∧ gH G M' t.heap ∧ va_F (fr G) st t) (fr G)) (hS : va_S (fr G) s.heap H locs)
    (kk : ∀ (v : Option Value) (M' : gM) (H1 : Heap) (locs1 : List Loc), Qc v M' → gH G M' H1 → va_S (fr G) s.heap H1 locs1 → W p l e R s m args below meth c H1 locs1 cells slots QQ (F0 m (pc + 3) lsA (v.toList ++ st))) : W p l e R s m args below meth c H locs cells slots QQ (F0 m pc lsA st0) := by
  intro T hT X
  obtain ⟨v, st₀, t, T', L, h0, X', hL, e1, e2, ⟨v', M', hv, hq, hg, hF⟩, hgo⟩ := hr T hT X
  cases hv
  obtain ⟨hz, hk⟩ := hF
  rw [h0] at hz hk
  obtain ⟨t2, a1, b1⟩ := kk v M' T'.heap (locs ++ L) hq (by rw [e1]; exact hg)
    ⟨Nat.le_trans hS.1 (by rw [e1]; exact hz), fun q h1 h2 => by rw [e1, hk q (Nat.lt_of_lt_of_le h1 hS.1) h2]; exact hS.2.1 q h1 h2, fun q hq => by
      rcases List.mem_append.mp hq with h | h
      · exact hS.2.2 q h
      · exact hL q h⟩ T' rfl X'
  exact ⟨t2, hgo t2 a1, b1⟩
def KC (Y : gY) (n : Nat) : Prop := Cond.initialized Y.1.cls ∈ GT ∧ Cond.code Y.1 Y.2.1 Y.2.2.1 Y.2.2.2 ∈ GT ∧ (Y.1.cls ≠ "java/lang/invoke/MethodHandle" ∧ Y.1.cls ≠ "java/lang/invoke/VarHandle" ∧ (parseMethodDescriptor Y.1.desc).map (fun d => d.parameters.length) = some n) ∧ Y.2.2.1 ≤ 11
def KV (own : String) (idx : Nat) (Y : gY) (n : Nat) : Prop := KC Y n ∧ Cond.methodLink own idx Y.1 ∈ GT ∧ Cond.instanceMethod Y.1 ∈ GT ∧ Cond.selects Y.1.cls Y.1 Y.1 ∈ GT
def KS (own : String) (idx : Nat) (Y : gY) (n : Nat) : Prop := KC Y n ∧ Cond.methodLink own idx Y.1 ∈ GT ∧ Cond.static Y.1 ∈ GT
theorem g_pre {Y : gY} {dc : Nat} {vs : List Value} {s : State} {H : Heap} {locs : List Loc} (hS0 : gS G s s.heap) (h2 : gH G M H) (h3 : va_S (fr G) s.heap H locs) :
    FrameBlind (va_Pc vs (fun U => gS G U U.heap ∧ gH G M U.heap)) ∧ ∀ U : State, U.heap = H → s.WarmedH U.vm → va_Pc vs (fun U => gS G U U.heap ∧ gH G M U.heap) vs.toArray U := by
  refine ⟨fun a U g mk q => ⟨q.1, gS.same (u := U) rfl q.2.1, q.2.2⟩, fun U hU hW => ⟨rfl, ?_, ?_⟩⟩
  · rw [hU]
    exact (hS0.kept (fun a ha hn => h3.2.1 a ha hn)).warm hW
  · rw [hU]; exact h2
theorem g_recv {s : State} {H : Heap} {r i ci : Nat} {fs : List Value} {C : String} (hS0 : gS G s s.heap) (h2 : gH G M H) (hi : i < gcnt r) (hE : Es G (M.1 r i) (M.2 r i) r i = .inr (ci, fs)) (hC : (vwCl[ci]?).map (fun q => q.1) = some C) : ∃ cell : Cell, H[ad G r i]? = some cell ∧ cell.vm.isStatics = false ∧ s.vm.findClass C = some cell.cls := by
  cases hq : vwCl[ci]? with
  | none => rw [hq] at hC; cases hC
  | some q =>
    rw [hq] at hC
    cases hC
    exact va_recv hS0.1 h2 (ci := ci) (q0 := goff r i) hq (by rw [gWl_at hi, hE])
theorem g_callV (hR : Bd G cc own nL d rt Q P) {Y : gY} {n idx dc b : Nat} {As st0 : List Value} {Qc : Option Value → gM → Prop} (hK : KV own idx Y n) (hdc : dc + 1 ≤ d) (hlen : As.length = n) (hC : Ct G Y dc (.ref b :: As) M Qc) (hrec : ∀ (s : State) (H : Heap) (locs : List Loc), gS G s s.heap → gH G M H → va_S (fr G) s.heap H locs → ∃ cell : Cell, H[b]? = some cell ∧ cell.vm.isStatics = false ∧ s.vm.findClass Y.1.cls = some cell.cls)
    (hst : st0 = As.reverse ++ .ref b :: st) (hcat : (st.map fun v => v.category).sum ≤ 8) (hd : decode cc pc = .ok (.invokevirtual idx, 3)) (kk : ∀ v M', Qc v M' → P (pc + 3) ls (v.toList ++ st) M') : P pc ls st0 M := by
  obtain ⟨p, l, e, R, s, m, args, below, meth, c, cells, slots, QQ, hx, hb, hml, hown, hts, hroom, hS0, hP, hret⟩ := hR
  obtain ⟨⟨k1, k2, k3, k4⟩, k5, k6, k7⟩ := hK
  obtain ⟨ro1, ro2, ro3, ro4⟩ := hroom
  refine (hP _ _ _ _).mpr fun H locs lsA h1 h2 h3 => ?_
  have hb0 := callB_of (R := R) (rm := rmD dc) (mc := 0) (ms := 0) n hts (good_wsY k2) rfl rfl rfl (hts _ k1) (hts _ k5) k3 ⟨Nat.le_trans hdc ro1, by show 8 + (Y.2.2.1 + 11) + 30 * dc ≤ R.locals; omega⟩
  have hp := g_pre (Y := Y) (dc := dc) (vs := .ref b :: As) hS0 h2 h3
  exact g_run (va_runV (Ts := GT) ⟨hx, hb, hml, hown, hts⟩ (hC l) ⟨hb0, hts _ k6, hts _ k7⟩ ⟨hp.1, hrec s H locs hS0 h2 h3, hp.2⟩ rfl hlen (by obtain ⟨-, lv, q, -⟩ := h1; exact q.1) hst (by show 2 * 0 + _ ≤ 8; omega) hd ⟨ro3, ro4⟩) h3 (fun v M' H1 locs1 q1 q2 q3 => (hP _ _ _ _).mp (kk v M' q1) H1 locs1 lsA h1 q2 q3)
theorem g_callS (hR : Bd G cc own nL d rt Q P) {Y : gY} {n idx dc : Nat} {As st0 : List Value} {Qc : Option Value → gM → Prop} (hK : KS own idx Y n) (hdc : dc + 1 ≤ d) (hlen : As.length = n) (hC : Ct G Y dc As M Qc)
    (hst : st0 = As.reverse ++ st) (hcat : (st.map fun v => v.category).sum ≤ 8) (hd : decode cc pc = .ok (.invokestatic idx, 3)) (kk : ∀ v M', Qc v M' → P (pc + 3) ls (v.toList ++ st) M') : P pc ls st0 M := by
  obtain ⟨p, l, e, R, s, m, args, below, meth, c, cells, slots, QQ, hx, hb, hml, hown, hts, hroom, hS0, hP, hret⟩ := hR
  obtain ⟨⟨k1, k2, k3, k4⟩, k5, k6⟩ := hK
  obtain ⟨ro1, ro2, ro3, ro4⟩ := hroom
  refine (hP _ _ _ _).mpr fun H locs lsA h1 h2 h3 => ?_
  have hb0 := callB_of (R := R) (rm := rmD dc) (mc := 0) (ms := 0) n hts (good_wsY k2) rfl rfl rfl (hts _ k1) (hts _ k5) k3 ⟨Nat.le_trans hdc ro1, by show 8 + (Y.2.2.1 + 11) + 30 * dc ≤ R.locals; omega⟩
  have hp := g_pre (Y := Y) (dc := dc) (vs := As) hS0 h2 h3
  exact g_run (va_runS (Ts := GT) ⟨hx, hb, hml, hown, hts⟩ (hC l) ⟨hb0, hts _ k6⟩ hp rfl hlen (by obtain ⟨-, lv, q, -⟩ := h1; exact q.1) hst (by show 2 * 0 + _ ≤ 8; omega) hd ⟨ro3, ro4⟩) h3 (fun v M' H1 locs1 q1 q2 q3 => (hP _ _ _ _).mp (kk v M' q1) H1 locs1 lsA h1 q2 q3)
/-- a static method of a nest mate -/
theorem g_callN (hR : Bd G cc own nL d rt Q P) {Y : gY} {n idx dc : Nat} {host : String} {As st0 : List Value} {Qc : Option Value → gM → Prop} (hK : KC Y n ∧ Cond.static Y.1 ∈ GT) (hnw : ∀ s : State, gS G s s.heap → va_Nw (.methodLinkNest own idx Y.1 host) s) (hdc : dc + 1 ≤ d) (hlen : As.length = n) (hC : Ct G Y dc As M Qc)
    (hst : st0 = As.reverse ++ st) (hcat : (st.map fun v => v.category).sum ≤ 8) (hd : decode cc pc = .ok (.invokestatic idx, 3)) (kk : ∀ v M', Qc v M' → P (pc + 3) ls (v.toList ++ st) M') : P pc ls st0 M := by
  obtain ⟨p, l, e, R, s, m, args, below, meth, c, cells, slots, QQ, hx, hb, hml, hown, hts, hroom, hS0, hP, hret⟩ := hR
  obtain ⟨⟨k1, k2, k3, k4⟩, k6⟩ := hK
  obtain ⟨ro1, ro2, ro3, ro4⟩ := hroom
  refine (hP _ _ _ _).mpr fun H locs lsA h1 h2 h3 => ?_
  have hb0 := va_cnB (R := R) (rm := rmD dc) (mc := 0) (ms := 0) n hts (good_wsY k2) rfl rfl rfl (hnw s hS0) (hts _ k1) k3 ⟨Nat.le_trans hdc ro1, by show 8 + (Y.2.2.1 + 11) + 30 * dc ≤ R.locals; omega⟩
  have hp := g_pre (Y := Y) (dc := dc) (vs := As) hS0 h2 h3
  exact g_run (va_runSN (Ts := GT) ⟨hx, hb, hml, hown, hts⟩ (hC l) ⟨hb0, hts _ k6, trivial⟩ hp rfl hlen (by obtain ⟨-, lv, q, -⟩ := h1; exact q.1) hst (by show 2 * 0 + _ ≤ 8; omega) hd ⟨ro3, ro4⟩) h3 (fun v M' H1 locs1 q1 q2 q3 => (hP _ _ _ _).mp (kk v M' q1) H1 locs1 lsA h1 q2 q3)
theorem r_cv0v (hR : Bd G cc own nL d rt Q P) {Y : gY} {idx dc r i ci : Nat} {v : Value} {fs : List Value} {M2 : gM} (hK : KV own idx Y 0) (hdc : dc + 1 ≤ d) (hC : Cf G Y dc [.ref (ad G r i)] M (some v) M2) (hi : i < gcnt r) (hE : Es G (M.1 r i) (M.2 r i) r i = .inr (ci, fs)) (hci : (vwCl[ci]?).map (fun q => q.1) = some Y.1.cls) (hcat : (st.map fun v => v.category).sum ≤ 8) (hd : decode cc pc = .ok (.invokevirtual idx, 3)) (k : P (pc + 3) ls (v :: st) M2) : P pc ls (.ref (ad G r i) :: st) M := by
  refine g_callV hR (As := []) (st := st) hK hdc rfl hC (fun s H locs q1 q2 q3 => g_recv q1 q2 hi hE hci) rfl hcat hd (fun v' M' q => ?_)
  obtain ⟨rfl, rfl⟩ := q
  exact k
theorem r_cs0v (hR : Bd G cc own nL d rt Q P) {Y : gY} {idx dc : Nat} {v : Value} {M2 : gM} (hK : KS own idx Y 0) (hdc : dc + 1 ≤ d) (hC : Cf G Y dc [] M (some v) M2) (hcat : (st.map fun v => v.category).sum ≤ 8) (hd : decode cc pc = .ok (.invokestatic idx, 3)) (k : P (pc + 3) ls (v :: st) M2) : P pc ls (st) M := by
  refine g_callS hR (As := []) (st := st) hK hdc rfl hC rfl hcat hd (fun v' M' q => ?_)
  obtain ⟨rfl, rfl⟩ := q
  exact k
theorem r_cn0v (hR : Bd G cc own nL d rt Q P) {Y : gY} {idx dc : Nat} {host : String} {v : Value} {M2 : gM} (hK : KC Y 0 ∧ Cond.static Y.1 ∈ GT) (hnw : ∀ s : State, gS G s s.heap → va_Nw (.methodLinkNest own idx Y.1 host) s) (hdc : dc + 1 ≤ d) (hC : Cf G Y dc [] M (some v) M2) (hcat : (st.map fun v => v.category).sum ≤ 8) (hd : decode cc pc = .ok (.invokestatic idx, 3)) (k : P (pc + 3) ls (v :: st) M2) : P pc ls (st) M := by
  refine g_callN hR (As := []) (st := st) hK hnw hdc rfl hC rfl hcat hd (fun v' M' q => ?_)
  obtain ⟨rfl, rfl⟩ := q
  exact k
theorem r_cv0u (hR : Bd G cc own nL d rt Q P) {Y : gY} {idx dc r i ci : Nat} {fs : List Value} {M2 : gM} (hK : KV own idx Y 0) (hdc : dc + 1 ≤ d) (hC : Cf G Y dc [.ref (ad G r i)] M none M2) (hi : i < gcnt r) (hE : Es G (M.1 r i) (M.2 r i) r i = .inr (ci, fs)) (hci : (vwCl[ci]?).map (fun q => q.1) = some Y.1.cls) (hcat : (st.map fun v => v.category).sum ≤ 8) (hd : decode cc pc = .ok (.invokevirtual idx, 3)) (k : P (pc + 3) ls (st) M2) : P pc ls (.ref (ad G r i) :: st) M := by
  refine g_callV hR (As := []) (st := st) hK hdc rfl hC (fun s H locs q1 q2 q3 => g_recv q1 q2 hi hE hci) rfl hcat hd (fun v' M' q => ?_)
  obtain ⟨rfl, rfl⟩ := q
  exact k
theorem r_cs0u (hR : Bd G cc own nL d rt Q P) {Y : gY} {idx dc : Nat} {M2 : gM} (hK : KS own idx Y 0) (hdc : dc + 1 ≤ d) (hC : Cf G Y dc [] M none M2) (hcat : (st.map fun v => v.category).sum ≤ 8) (hd : decode cc pc = .ok (.invokestatic idx, 3)) (k : P (pc + 3) ls (st) M2) : P pc ls (st) M := by
  refine g_callS hR (As := []) (st := st) hK hdc rfl hC rfl hcat hd (fun v' M' q => ?_)
  obtain ⟨rfl, rfl⟩ := q
  exact k
theorem r_cn0u (hR : Bd G cc own nL d rt Q P) {Y : gY} {idx dc : Nat} {host : String} {M2 : gM} (hK : KC Y 0 ∧ Cond.static Y.1 ∈ GT) (hnw : ∀ s : State, gS G s s.heap → va_Nw (.methodLinkNest own idx Y.1 host) s) (hdc : dc + 1 ≤ d) (hC : Cf G Y dc [] M none M2) (hcat : (st.map fun v => v.category).sum ≤ 8) (hd : decode cc pc = .ok (.invokestatic idx, 3)) (k : P (pc + 3) ls (st) M2) : P pc ls (st) M := by
  refine g_callN hR (As := []) (st := st) hK hnw hdc rfl hC rfl hcat hd (fun v' M' q => ?_)
  obtain ⟨rfl, rfl⟩ := q
  exact k
theorem r_cv1v (hR : Bd G cc own nL d rt Q P) {Y : gY} {idx dc r i ci : Nat} {x0 : Value} {v : Value} {fs : List Value} {M2 : gM} (hK : KV own idx Y 1) (hdc : dc + 1 ≤ d) (hC : Cf G Y dc [.ref (ad G r i), x0] M (some v) M2) (hi : i < gcnt r) (hE : Es G (M.1 r i) (M.2 r i) r i = .inr (ci, fs)) (hci : (vwCl[ci]?).map (fun q => q.1) = some Y.1.cls) (hcat : (st.map fun v => v.category).sum ≤ 8) (hd : decode cc pc = .ok (.invokevirtual idx, 3)) (k : P (pc + 3) ls (v :: st) M2) : P pc ls (x0 :: .ref (ad G r i) :: st) M := by
  refine g_callV hR (As := [x0]) (st := st) hK hdc rfl hC (fun s H locs q1 q2 q3 => g_recv q1 q2 hi hE hci) rfl hcat hd (fun v' M' q => ?_)
  obtain ⟨rfl, rfl⟩ := q
  exact k
theorem r_cs1v (hR : Bd G cc own nL d rt Q P) {Y : gY} {idx dc : Nat} {x0 : Value} {v : Value} {M2 : gM} (hK : KS own idx Y 1) (hdc : dc + 1 ≤ d) (hC : Cf G Y dc [x0] M (some v) M2) (hcat : (st.map fun v => v.category).sum ≤ 8) (hd : decode cc pc = .ok (.invokestatic idx, 3)) (k : P (pc + 3) ls (v :: st) M2) : P pc ls (x0 :: st) M := by
  refine g_callS hR (As := [x0]) (st := st) hK hdc rfl hC rfl hcat hd (fun v' M' q => ?_)
  obtain ⟨rfl, rfl⟩ := q
  exact k
theorem r_cn1v (hR : Bd G cc own nL d rt Q P) {Y : gY} {idx dc : Nat} {host : String} {x0 : Value} {v : Value} {M2 : gM} (hK : KC Y 1 ∧ Cond.static Y.1 ∈ GT) (hnw : ∀ s : State, gS G s s.heap → va_Nw (.methodLinkNest own idx Y.1 host) s) (hdc : dc + 1 ≤ d) (hC : Cf G Y dc [x0] M (some v) M2) (hcat : (st.map fun v => v.category).sum ≤ 8) (hd : decode cc pc = .ok (.invokestatic idx, 3)) (k : P (pc + 3) ls (v :: st) M2) : P pc ls (x0 :: st) M := by
  refine g_callN hR (As := [x0]) (st := st) hK hnw hdc rfl hC rfl hcat hd (fun v' M' q => ?_)
  obtain ⟨rfl, rfl⟩ := q
  exact k
theorem r_cv1u (hR : Bd G cc own nL d rt Q P) {Y : gY} {idx dc r i ci : Nat} {x0 : Value} {fs : List Value} {M2 : gM} (hK : KV own idx Y 1) (hdc : dc + 1 ≤ d) (hC : Cf G Y dc [.ref (ad G r i), x0] M none M2) (hi : i < gcnt r) (hE : Es G (M.1 r i) (M.2 r i) r i = .inr (ci, fs)) (hci : (vwCl[ci]?).map (fun q => q.1) = some Y.1.cls) (hcat : (st.map fun v => v.category).sum ≤ 8) (hd : decode cc pc = .ok (.invokevirtual idx, 3)) (k : P (pc + 3) ls (st) M2) : P pc ls (x0 :: .ref (ad G r i) :: st) M := by
  refine g_callV hR (As := [x0]) (st := st) hK hdc rfl hC (fun s H locs q1 q2 q3 => g_recv q1 q2 hi hE hci) rfl hcat hd (fun v' M' q => ?_)
  obtain ⟨rfl, rfl⟩ := q
  exact k
theorem r_cs1u (hR : Bd G cc own nL d rt Q P) {Y : gY} {idx dc : Nat} {x0 : Value} {M2 : gM} (hK : KS own idx Y 1) (hdc : dc + 1 ≤ d) (hC : Cf G Y dc [x0] M none M2) (hcat : (st.map fun v => v.category).sum ≤ 8) (hd : decode cc pc = .ok (.invokestatic idx, 3)) (k : P (pc + 3) ls (st) M2) : P pc ls (x0 :: st) M := by
  refine g_callS hR (As := [x0]) (st := st) hK hdc rfl hC rfl hcat hd (fun v' M' q => ?_)
  obtain ⟨rfl, rfl⟩ := q
  exact k
theorem r_cn1u (hR : Bd G cc own nL d rt Q P) {Y : gY} {idx dc : Nat} {host : String} {x0 : Value} {M2 : gM} (hK : KC Y 1 ∧ Cond.static Y.1 ∈ GT) (hnw : ∀ s : State, gS G s s.heap → va_Nw (.methodLinkNest own idx Y.1 host) s) (hdc : dc + 1 ≤ d) (hC : Cf G Y dc [x0] M none M2) (hcat : (st.map fun v => v.category).sum ≤ 8) (hd : decode cc pc = .ok (.invokestatic idx, 3)) (k : P (pc + 3) ls (st) M2) : P pc ls (x0 :: st) M := by
  refine g_callN hR (As := [x0]) (st := st) hK hnw hdc rfl hC rfl hcat hd (fun v' M' q => ?_)
  obtain ⟨rfl, rfl⟩ := q
  exact k
theorem r_cv2v (hR : Bd G cc own nL d rt Q P) {Y : gY} {idx dc r i ci : Nat} {x0 x1 : Value} {v : Value} {fs : List Value} {M2 : gM} (hK : KV own idx Y 2) (hdc : dc + 1 ≤ d) (hC : Cf G Y dc [.ref (ad G r i), x0, x1] M (some v) M2) (hi : i < gcnt r) (hE : Es G (M.1 r i) (M.2 r i) r i = .inr (ci, fs)) (hci : (vwCl[ci]?).map (fun q => q.1) = some Y.1.cls) (hcat : (st.map fun v => v.category).sum ≤ 8) (hd : decode cc pc = .ok (.invokevirtual idx, 3)) (k : P (pc + 3) ls (v :: st) M2) : P pc ls (x1 :: x0 :: .ref (ad G r i) :: st) M := by
  refine g_callV hR (As := [x0, x1]) (st := st) hK hdc rfl hC (fun s H locs q1 q2 q3 => g_recv q1 q2 hi hE hci) rfl hcat hd (fun v' M' q => ?_)
  obtain ⟨rfl, rfl⟩ := q
  exact k
theorem r_cs2v (hR : Bd G cc own nL d rt Q P) {Y : gY} {idx dc : Nat} {x0 x1 : Value} {v : Value} {M2 : gM} (hK : KS own idx Y 2) (hdc : dc + 1 ≤ d) (hC : Cf G Y dc [x0, x1] M (some v) M2) (hcat : (st.map fun v => v.category).sum ≤ 8) (hd : decode cc pc = .ok (.invokestatic idx, 3)) (k : P (pc + 3) ls (v :: st) M2) : P pc ls (x1 :: x0 :: st) M := by
  refine g_callS hR (As := [x0, x1]) (st := st) hK hdc rfl hC rfl hcat hd (fun v' M' q => ?_)
  obtain ⟨rfl, rfl⟩ := q
  exact k
theorem r_cn2v (hR : Bd G cc own nL d rt Q P) {Y : gY} {idx dc : Nat} {host : String} {x0 x1 : Value} {v : Value} {M2 : gM} (hK : KC Y 2 ∧ Cond.static Y.1 ∈ GT) (hnw : ∀ s : State, gS G s s.heap → va_Nw (.methodLinkNest own idx Y.1 host) s) (hdc : dc + 1 ≤ d) (hC : Cf G Y dc [x0, x1] M (some v) M2) (hcat : (st.map fun v => v.category).sum ≤ 8) (hd : decode cc pc = .ok (.invokestatic idx, 3)) (k : P (pc + 3) ls (v :: st) M2) : P pc ls (x1 :: x0 :: st) M := by
  refine g_callN hR (As := [x0, x1]) (st := st) hK hnw hdc rfl hC rfl hcat hd (fun v' M' q => ?_)
  obtain ⟨rfl, rfl⟩ := q
  exact k
theorem r_cv2u (hR : Bd G cc own nL d rt Q P) {Y : gY} {idx dc r i ci : Nat} {x0 x1 : Value} {fs : List Value} {M2 : gM} (hK : KV own idx Y 2) (hdc : dc + 1 ≤ d) (hC : Cf G Y dc [.ref (ad G r i), x0, x1] M none M2) (hi : i < gcnt r) (hE : Es G (M.1 r i) (M.2 r i) r i = .inr (ci, fs)) (hci : (vwCl[ci]?).map (fun q => q.1) = some Y.1.cls) (hcat : (st.map fun v => v.category).sum ≤ 8) (hd : decode cc pc = .ok (.invokevirtual idx, 3)) (k : P (pc + 3) ls (st) M2) : P pc ls (x1 :: x0 :: .ref (ad G r i) :: st) M := by
  refine g_callV hR (As := [x0, x1]) (st := st) hK hdc rfl hC (fun s H locs q1 q2 q3 => g_recv q1 q2 hi hE hci) rfl hcat hd (fun v' M' q => ?_)
  obtain ⟨rfl, rfl⟩ := q
  exact k
theorem r_cs2u (hR : Bd G cc own nL d rt Q P) {Y : gY} {idx dc : Nat} {x0 x1 : Value} {M2 : gM} (hK : KS own idx Y 2) (hdc : dc + 1 ≤ d) (hC : Cf G Y dc [x0, x1] M none M2) (hcat : (st.map fun v => v.category).sum ≤ 8) (hd : decode cc pc = .ok (.invokestatic idx, 3)) (k : P (pc + 3) ls (st) M2) : P pc ls (x1 :: x0 :: st) M := by
  refine g_callS hR (As := [x0, x1]) (st := st) hK hdc rfl hC rfl hcat hd (fun v' M' q => ?_)
  obtain ⟨rfl, rfl⟩ := q
  exact k
theorem r_cn2u (hR : Bd G cc own nL d rt Q P) {Y : gY} {idx dc : Nat} {host : String} {x0 x1 : Value} {M2 : gM} (hK : KC Y 2 ∧ Cond.static Y.1 ∈ GT) (hnw : ∀ s : State, gS G s s.heap → va_Nw (.methodLinkNest own idx Y.1 host) s) (hdc : dc + 1 ≤ d) (hC : Cf G Y dc [x0, x1] M none M2) (hcat : (st.map fun v => v.category).sum ≤ 8) (hd : decode cc pc = .ok (.invokestatic idx, 3)) (k : P (pc + 3) ls (st) M2) : P pc ls (x1 :: x0 :: st) M := by
  refine g_callN hR (As := [x0, x1]) (st := st) hK hnw hdc rfl hC rfl hcat hd (fun v' M' q => ?_)
  obtain ⟨rfl, rfl⟩ := q
  exact k
theorem r_cv3v (hR : Bd G cc own nL d rt Q P) {Y : gY} {idx dc r i ci : Nat} {x0 x1 x2 : Value} {v : Value} {fs : List Value} {M2 : gM} (hK : KV own idx Y 3) (hdc : dc + 1 ≤ d) (hC : Cf G Y dc [.ref (ad G r i), x0, x1, x2] M (some v) M2) (hi : i < gcnt r) (hE : Es G (M.1 r i) (M.2 r i) r i = .inr (ci, fs)) (hci : (vwCl[ci]?).map (fun q => q.1) = some Y.1.cls) (hcat : (st.map fun v => v.category).sum ≤ 8) (hd : decode cc pc = .ok (.invokevirtual idx, 3)) (k : P (pc + 3) ls (v :: st) M2) : P pc ls (x2 :: x1 :: x0 :: .ref (ad G r i) :: st) M := by
  refine g_callV hR (As := [x0, x1, x2]) (st := st) hK hdc rfl hC (fun s H locs q1 q2 q3 => g_recv q1 q2 hi hE hci) rfl hcat hd (fun v' M' q => ?_)
  obtain ⟨rfl, rfl⟩ := q
  exact k
theorem r_cs3v (hR : Bd G cc own nL d rt Q P) {Y : gY} {idx dc : Nat} {x0 x1 x2 : Value} {v : Value} {M2 : gM} (hK : KS own idx Y 3) (hdc : dc + 1 ≤ d) (hC : Cf G Y dc [x0, x1, x2] M (some v) M2) (hcat : (st.map fun v => v.category).sum ≤ 8) (hd : decode cc pc = .ok (.invokestatic idx, 3)) (k : P (pc + 3) ls (v :: st) M2) : P pc ls (x2 :: x1 :: x0 :: st) M := by
  refine g_callS hR (As := [x0, x1, x2]) (st := st) hK hdc rfl hC rfl hcat hd (fun v' M' q => ?_)
  obtain ⟨rfl, rfl⟩ := q
  exact k
theorem r_cn3v (hR : Bd G cc own nL d rt Q P) {Y : gY} {idx dc : Nat} {host : String} {x0 x1 x2 : Value} {v : Value} {M2 : gM} (hK : KC Y 3 ∧ Cond.static Y.1 ∈ GT) (hnw : ∀ s : State, gS G s s.heap → va_Nw (.methodLinkNest own idx Y.1 host) s) (hdc : dc + 1 ≤ d) (hC : Cf G Y dc [x0, x1, x2] M (some v) M2) (hcat : (st.map fun v => v.category).sum ≤ 8) (hd : decode cc pc = .ok (.invokestatic idx, 3)) (k : P (pc + 3) ls (v :: st) M2) : P pc ls (x2 :: x1 :: x0 :: st) M := by
  refine g_callN hR (As := [x0, x1, x2]) (st := st) hK hnw hdc rfl hC rfl hcat hd (fun v' M' q => ?_)
  obtain ⟨rfl, rfl⟩ := q
  exact k
theorem r_cv3u (hR : Bd G cc own nL d rt Q P) {Y : gY} {idx dc r i ci : Nat} {x0 x1 x2 : Value} {fs : List Value} {M2 : gM} (hK : KV own idx Y 3) (hdc : dc + 1 ≤ d) (hC : Cf G Y dc [.ref (ad G r i), x0, x1, x2] M none M2) (hi : i < gcnt r) (hE : Es G (M.1 r i) (M.2 r i) r i = .inr (ci, fs)) (hci : (vwCl[ci]?).map (fun q => q.1) = some Y.1.cls) (hcat : (st.map fun v => v.category).sum ≤ 8) (hd : decode cc pc = .ok (.invokevirtual idx, 3)) (k : P (pc + 3) ls (st) M2) : P pc ls (x2 :: x1 :: x0 :: .ref (ad G r i) :: st) M := by
  refine g_callV hR (As := [x0, x1, x2]) (st := st) hK hdc rfl hC (fun s H locs q1 q2 q3 => g_recv q1 q2 hi hE hci) rfl hcat hd (fun v' M' q => ?_)
  obtain ⟨rfl, rfl⟩ := q
  exact k
theorem r_cs3u (hR : Bd G cc own nL d rt Q P) {Y : gY} {idx dc : Nat} {x0 x1 x2 : Value} {M2 : gM} (hK : KS own idx Y 3) (hdc : dc + 1 ≤ d) (hC : Cf G Y dc [x0, x1, x2] M none M2) (hcat : (st.map fun v => v.category).sum ≤ 8) (hd : decode cc pc = .ok (.invokestatic idx, 3)) (k : P (pc + 3) ls (st) M2) : P pc ls (x2 :: x1 :: x0 :: st) M := by
  refine g_callS hR (As := [x0, x1, x2]) (st := st) hK hdc rfl hC rfl hcat hd (fun v' M' q => ?_)
  obtain ⟨rfl, rfl⟩ := q
  exact k
theorem r_cn3u (hR : Bd G cc own nL d rt Q P) {Y : gY} {idx dc : Nat} {host : String} {x0 x1 x2 : Value} {M2 : gM} (hK : KC Y 3 ∧ Cond.static Y.1 ∈ GT) (hnw : ∀ s : State, gS G s s.heap → va_Nw (.methodLinkNest own idx Y.1 host) s) (hdc : dc + 1 ≤ d) (hC : Cf G Y dc [x0, x1, x2] M none M2) (hcat : (st.map fun v => v.category).sum ≤ 8) (hd : decode cc pc = .ok (.invokestatic idx, 3)) (k : P (pc + 3) ls (st) M2) : P pc ls (x2 :: x1 :: x0 :: st) M := by
  refine g_callN hR (As := [x0, x1, x2]) (st := st) hK hnw hdc rfl hC rfl hcat hd (fun v' M' q => ?_)
  obtain ⟨rfl, rfl⟩ := q
  exact k
theorem r_cv4v (hR : Bd G cc own nL d rt Q P) {Y : gY} {idx dc r i ci : Nat} {x0 x1 x2 x3 : Value} {v : Value} {fs : List Value} {M2 : gM} (hK : KV own idx Y 4) (hdc : dc + 1 ≤ d) (hC : Cf G Y dc [.ref (ad G r i), x0, x1, x2, x3] M (some v) M2) (hi : i < gcnt r) (hE : Es G (M.1 r i) (M.2 r i) r i = .inr (ci, fs)) (hci : (vwCl[ci]?).map (fun q => q.1) = some Y.1.cls) (hcat : (st.map fun v => v.category).sum ≤ 8) (hd : decode cc pc = .ok (.invokevirtual idx, 3)) (k : P (pc + 3) ls (v :: st) M2) : P pc ls (x3 :: x2 :: x1 :: x0 :: .ref (ad G r i) :: st) M := by
  refine g_callV hR (As := [x0, x1, x2, x3]) (st := st) hK hdc rfl hC (fun s H locs q1 q2 q3 => g_recv q1 q2 hi hE hci) rfl hcat hd (fun v' M' q => ?_)
  obtain ⟨rfl, rfl⟩ := q
  exact k
theorem r_cs4v (hR : Bd G cc own nL d rt Q P) {Y : gY} {idx dc : Nat} {x0 x1 x2 x3 : Value} {v : Value} {M2 : gM} (hK : KS own idx Y 4) (hdc : dc + 1 ≤ d) (hC : Cf G Y dc [x0, x1, x2, x3] M (some v) M2) (hcat : (st.map fun v => v.category).sum ≤ 8) (hd : decode cc pc = .ok (.invokestatic idx, 3)) (k : P (pc + 3) ls (v :: st) M2) : P pc ls (x3 :: x2 :: x1 :: x0 :: st) M := by
  refine g_callS hR (As := [x0, x1, x2, x3]) (st := st) hK hdc rfl hC rfl hcat hd (fun v' M' q => ?_)
  obtain ⟨rfl, rfl⟩ := q
  exact k
theorem r_cn4v (hR : Bd G cc own nL d rt Q P) {Y : gY} {idx dc : Nat} {host : String} {x0 x1 x2 x3 : Value} {v : Value} {M2 : gM} (hK : KC Y 4 ∧ Cond.static Y.1 ∈ GT) (hnw : ∀ s : State, gS G s s.heap → va_Nw (.methodLinkNest own idx Y.1 host) s) (hdc : dc + 1 ≤ d) (hC : Cf G Y dc [x0, x1, x2, x3] M (some v) M2) (hcat : (st.map fun v => v.category).sum ≤ 8) (hd : decode cc pc = .ok (.invokestatic idx, 3)) (k : P (pc + 3) ls (v :: st) M2) : P pc ls (x3 :: x2 :: x1 :: x0 :: st) M := by
  refine g_callN hR (As := [x0, x1, x2, x3]) (st := st) hK hnw hdc rfl hC rfl hcat hd (fun v' M' q => ?_)
  obtain ⟨rfl, rfl⟩ := q
  exact k
theorem r_cv4u (hR : Bd G cc own nL d rt Q P) {Y : gY} {idx dc r i ci : Nat} {x0 x1 x2 x3 : Value} {fs : List Value} {M2 : gM} (hK : KV own idx Y 4) (hdc : dc + 1 ≤ d) (hC : Cf G Y dc [.ref (ad G r i), x0, x1, x2, x3] M none M2) (hi : i < gcnt r) (hE : Es G (M.1 r i) (M.2 r i) r i = .inr (ci, fs)) (hci : (vwCl[ci]?).map (fun q => q.1) = some Y.1.cls) (hcat : (st.map fun v => v.category).sum ≤ 8) (hd : decode cc pc = .ok (.invokevirtual idx, 3)) (k : P (pc + 3) ls (st) M2) : P pc ls (x3 :: x2 :: x1 :: x0 :: .ref (ad G r i) :: st) M := by
  refine g_callV hR (As := [x0, x1, x2, x3]) (st := st) hK hdc rfl hC (fun s H locs q1 q2 q3 => g_recv q1 q2 hi hE hci) rfl hcat hd (fun v' M' q => ?_)
  obtain ⟨rfl, rfl⟩ := q
  exact k
theorem r_cs4u (hR : Bd G cc own nL d rt Q P) {Y : gY} {idx dc : Nat} {x0 x1 x2 x3 : Value} {M2 : gM} (hK : KS own idx Y 4) (hdc : dc + 1 ≤ d) (hC : Cf G Y dc [x0, x1, x2, x3] M none M2) (hcat : (st.map fun v => v.category).sum ≤ 8) (hd : decode cc pc = .ok (.invokestatic idx, 3)) (k : P (pc + 3) ls (st) M2) : P pc ls (x3 :: x2 :: x1 :: x0 :: st) M := by
  refine g_callS hR (As := [x0, x1, x2, x3]) (st := st) hK hdc rfl hC rfl hcat hd (fun v' M' q => ?_)
  obtain ⟨rfl, rfl⟩ := q
  exact k
theorem r_cn4u (hR : Bd G cc own nL d rt Q P) {Y : gY} {idx dc : Nat} {host : String} {x0 x1 x2 x3 : Value} {M2 : gM} (hK : KC Y 4 ∧ Cond.static Y.1 ∈ GT) (hnw : ∀ s : State, gS G s s.heap → va_Nw (.methodLinkNest own idx Y.1 host) s) (hdc : dc + 1 ≤ d) (hC : Cf G Y dc [x0, x1, x2, x3] M none M2) (hcat : (st.map fun v => v.category).sum ≤ 8) (hd : decode cc pc = .ok (.invokestatic idx, 3)) (k : P (pc + 3) ls (st) M2) : P pc ls (x3 :: x2 :: x1 :: x0 :: st) M := by
  refine g_callN hR (As := [x0, x1, x2, x3]) (st := st) hK hnw hdc rfl hC rfl hcat hd (fun v' M' q => ?_)
  obtain ⟨rfl, rfl⟩ := q
  exact k
theorem r_cv5v (hR : Bd G cc own nL d rt Q P) {Y : gY} {idx dc r i ci : Nat} {x0 x1 x2 x3 x4 : Value} {v : Value} {fs : List Value} {M2 : gM} (hK : KV own idx Y 5) (hdc : dc + 1 ≤ d) (hC : Cf G Y dc [.ref (ad G r i), x0, x1, x2, x3, x4] M (some v) M2) (hi : i < gcnt r) (hE : Es G (M.1 r i) (M.2 r i) r i = .inr (ci, fs)) (hci : (vwCl[ci]?).map (fun q => q.1) = some Y.1.cls) (hcat : (st.map fun v => v.category).sum ≤ 8) (hd : decode cc pc = .ok (.invokevirtual idx, 3)) (k : P (pc + 3) ls (v :: st) M2) : P pc ls (x4 :: x3 :: x2 :: x1 :: x0 :: .ref (ad G r i) :: st) M := by
  refine g_callV hR (As := [x0, x1, x2, x3, x4]) (st := st) hK hdc rfl hC (fun s H locs q1 q2 q3 => g_recv q1 q2 hi hE hci) rfl hcat hd (fun v' M' q => ?_)
  obtain ⟨rfl, rfl⟩ := q
  exact k
theorem r_cs5v (hR : Bd G cc own nL d rt Q P) {Y : gY} {idx dc : Nat} {x0 x1 x2 x3 x4 : Value} {v : Value} {M2 : gM} (hK : KS own idx Y 5) (hdc : dc + 1 ≤ d) (hC : Cf G Y dc [x0, x1, x2, x3, x4] M (some v) M2) (hcat : (st.map fun v => v.category).sum ≤ 8) (hd : decode cc pc = .ok (.invokestatic idx, 3)) (k : P (pc + 3) ls (v :: st) M2) : P pc ls (x4 :: x3 :: x2 :: x1 :: x0 :: st) M := by
  refine g_callS hR (As := [x0, x1, x2, x3, x4]) (st := st) hK hdc rfl hC rfl hcat hd (fun v' M' q => ?_)
  obtain ⟨rfl, rfl⟩ := q
  exact k
theorem r_cn5v (hR : Bd G cc own nL d rt Q P) {Y : gY} {idx dc : Nat} {host : String} {x0 x1 x2 x3 x4 : Value} {v : Value} {M2 : gM} (hK : KC Y 5 ∧ Cond.static Y.1 ∈ GT) (hnw : ∀ s : State, gS G s s.heap → va_Nw (.methodLinkNest own idx Y.1 host) s) (hdc : dc + 1 ≤ d) (hC : Cf G Y dc [x0, x1, x2, x3, x4] M (some v) M2) (hcat : (st.map fun v => v.category).sum ≤ 8) (hd : decode cc pc = .ok (.invokestatic idx, 3)) (k : P (pc + 3) ls (v :: st) M2) : P pc ls (x4 :: x3 :: x2 :: x1 :: x0 :: st) M := by
  refine g_callN hR (As := [x0, x1, x2, x3, x4]) (st := st) hK hnw hdc rfl hC rfl hcat hd (fun v' M' q => ?_)
  obtain ⟨rfl, rfl⟩ := q
  exact k
theorem r_cv5u (hR : Bd G cc own nL d rt Q P) {Y : gY} {idx dc r i ci : Nat} {x0 x1 x2 x3 x4 : Value} {fs : List Value} {M2 : gM} (hK : KV own idx Y 5) (hdc : dc + 1 ≤ d) (hC : Cf G Y dc [.ref (ad G r i), x0, x1, x2, x3, x4] M none M2) (hi : i < gcnt r) (hE : Es G (M.1 r i) (M.2 r i) r i = .inr (ci, fs)) (hci : (vwCl[ci]?).map (fun q => q.1) = some Y.1.cls) (hcat : (st.map fun v => v.category).sum ≤ 8) (hd : decode cc pc = .ok (.invokevirtual idx, 3)) (k : P (pc + 3) ls (st) M2) : P pc ls (x4 :: x3 :: x2 :: x1 :: x0 :: .ref (ad G r i) :: st) M := by
  refine g_callV hR (As := [x0, x1, x2, x3, x4]) (st := st) hK hdc rfl hC (fun s H locs q1 q2 q3 => g_recv q1 q2 hi hE hci) rfl hcat hd (fun v' M' q => ?_)
  obtain ⟨rfl, rfl⟩ := q
  exact k
theorem r_cs5u (hR : Bd G cc own nL d rt Q P) {Y : gY} {idx dc : Nat} {x0 x1 x2 x3 x4 : Value} {M2 : gM} (hK : KS own idx Y 5) (hdc : dc + 1 ≤ d) (hC : Cf G Y dc [x0, x1, x2, x3, x4] M none M2) (hcat : (st.map fun v => v.category).sum ≤ 8) (hd : decode cc pc = .ok (.invokestatic idx, 3)) (k : P (pc + 3) ls (st) M2) : P pc ls (x4 :: x3 :: x2 :: x1 :: x0 :: st) M := by
  refine g_callS hR (As := [x0, x1, x2, x3, x4]) (st := st) hK hdc rfl hC rfl hcat hd (fun v' M' q => ?_)
  obtain ⟨rfl, rfl⟩ := q
  exact k
theorem r_cn5u (hR : Bd G cc own nL d rt Q P) {Y : gY} {idx dc : Nat} {host : String} {x0 x1 x2 x3 x4 : Value} {M2 : gM} (hK : KC Y 5 ∧ Cond.static Y.1 ∈ GT) (hnw : ∀ s : State, gS G s s.heap → va_Nw (.methodLinkNest own idx Y.1 host) s) (hdc : dc + 1 ≤ d) (hC : Cf G Y dc [x0, x1, x2, x3, x4] M none M2) (hcat : (st.map fun v => v.category).sum ≤ 8) (hd : decode cc pc = .ok (.invokestatic idx, 3)) (k : P (pc + 3) ls (st) M2) : P pc ls (x4 :: x3 :: x2 :: x1 :: x0 :: st) M := by
  refine g_callN hR (As := [x0, x1, x2, x3, x4]) (st := st) hK hnw hdc rfl hC rfl hcat hd (fun v' M' q => ?_)
  obtain ⟨rfl, rfl⟩ := q
  exact k
/-! the JDK's own: max, min, arraycopy -/
theorem r_max (hR : Bd G cc own nL d rt Q P) {idx : Nat} {x y : Int32} (hl : Cond.methodLink own idx Lib.Math.max.name ∈ GT ∧ Cond.static Lib.Math.max.name ∈ GT ∧ Cond.initialized "java/lang/Math" ∈ GT ∧ Cond.code Lib.Math.max.name Lib.Math.max.code 2 (some .int) ∈ GT) (hdd : 1 ≤ d) (hcat : (st.map fun v => v.category).sum ≤ 8) (hd : decode cc pc = .ok (.invokestatic idx, 3)) (k : P (pc + 3) ls (.int (if x < y then y else x) :: st) M) : P pc ls (.int y :: .int x :: st) M := by
  obtain ⟨p, l, e, R, s, m, args, below, meth, c, cells, slots, QQ, hx, hb, hml, hown, hts, hroom, hS0, hP, hret⟩ := hR
  obtain ⟨ro1, ro2, ro3, ro4⟩ := hroom
  refine (hP _ _ _ _).mpr fun H locs lsA h1 h2 h3 => va_mmax hx hb (by obtain ⟨-, lv, q, -⟩ := h1; rw [hml]; exact q.1.symm) hown (hts _ hl.1) (hts _ hl.2.1) (hts _ hl.2.2.1) (hts _ hl.2.2.2) (by omega) (by omega) ro3 ro4 hd ((hP _ _ _ _).mp k H locs lsA h1 h2 h3)
theorem r_min (hR : Bd G cc own nL d rt Q P) {idx : Nat} {x y : Int32} (hl : Cond.methodLink own idx Lib.Math.min.name ∈ GT ∧ Cond.static Lib.Math.min.name ∈ GT ∧ Cond.initialized "java/lang/Math" ∈ GT ∧ Cond.code Lib.Math.min.name Lib.Math.min.code 2 (some .int) ∈ GT) (hdd : 1 ≤ d) (hcat : (st.map fun v => v.category).sum ≤ 8) (hd : decode cc pc = .ok (.invokestatic idx, 3)) (k : P (pc + 3) ls (.int (if y < x then y else x) :: st) M) : P pc ls (.int y :: .int x :: st) M := by
  obtain ⟨p, l, e, R, s, m, args, below, meth, c, cells, slots, QQ, hx, hb, hml, hown, hts, hroom, hS0, hP, hret⟩ := hR
  obtain ⟨ro1, ro2, ro3, ro4⟩ := hroom
  refine (hP _ _ _ _).mpr fun H locs lsA h1 h2 h3 => va_mmin hx hb (by obtain ⟨-, lv, q, -⟩ := h1; rw [hml]; exact q.1.symm) hown (hts _ hl.1) (hts _ hl.2.1) (hts _ hl.2.2.1) (hts _ hl.2.2.2) (by omega) (by omega) ro3 ro4 hd ((hP _ _ _ _).mp k H locs lsA h1 h2 h3)
abbrev KA (own : String) (idx : Nat) : Prop := Cond.methodLink own idx arraycopyName ∈ GT ∧ Cond.native arraycopyName ∈ GT ∧ Cond.static arraycopyName ∈ GT ∧ Cond.initialized "java/lang/System" ∈ GT
theorem r_copyi (hR : Bd G cc own nL d rt Q P) {idx r i r2 i2 n1 n2 a1 a2 a3 : Nat} {sp dp n : Int32} (hl : KA own idx) (hdd : 2 ≤ d) (hi : i < gcnt r) (hi2 : i2 < gcnt r2) (hE : Es G (M.1 r i) (M.2 r i) r i = .inl (gcI G, n1, .inl (M.1 r i))) (hE2 : ∀ f, Es G f (M.2 r2 i2) r2 i2 = .inl (gcI G, n2, .inl f)) (e1 : sp = nI a1) (e2 : dp = nI a2) (e3 : n = nI a3) (b1 : a1 + a3 ≤ n1) (b2 : a2 + a3 ≤ n2) (b3 : n1 < 2 ^ 31) (b4 : n2 < 2 ^ 31) (hcat : (st.map fun v => v.category).sum ≤ 8) (hd : decode cc pc = .ok (.invokestatic idx, 3)) (k : P (pc + 3) ls st (setI M r2 i2 (va_cpy (M.1 r i) (M.1 r2 i2) a1 a2 a3))) : P pc ls (.int n :: .int dp :: .ref (ad G r2 i2) :: .int sp :: .ref (ad G r i) :: st) M := by
  obtain ⟨p, l, e, R, s, m, args, below, meth, c, cells, slots, QQ, hx, hb, hml, hown, hts, hroom, hS0, hP, hret⟩ := hR
  obtain ⟨ro1, ro2, ro3, ro4⟩ := hroom
  subst e1; subst e2; subst e3
  have c1 : (nI a1).toNatClampNeg = a1 := nI_clamp (by omega)
  have c2 : (nI a2).toNatClampNeg = a2 := nI_clamp (by omega)
  have c3 : (nI a3).toNatClampNeg = a3 := nI_clamp (by omega)
  refine (hP _ _ _ _).mpr fun H locs lsA h1 h2 h3 => va_copyi (ws := gWl G M) (A := fr G) (ty := .int) hx hb (by obtain ⟨-, lv, q, -⟩ := h1; rw [hml]; exact q.1.symm) hown (hts _ hl.1) (hts _ hl.2.1) (hts _ hl.2.2.1) (hts _ hl.2.2.2) hS0.1 h2 (gWl_D G M) h3 (goff r i) (goff r2 i2) 0 0 (by rw [gWl_at hi, hE]) (by rw [gWl_at hi2, hE2]) rfl rfl rfl (nI_pos (by omega)) (nI_pos (by omega)) (nI_pos (by omega)) (by rw [c1, c3]; exact b1) (by rw [c2, c3]; exact b2) (fun _ _ => rfl) (by omega) (Nat.le_trans (show _ ≤ 60 from Nat.le_trans (Nat.add_le_add_right hcat _) (by decide +kernel)) (by omega)) hd (fun H1 locs1 g1 g2 g3 => ?_)
  rw [c1, c2, c3, gWl_set (M' := setI M r2 i2 (va_cpy (M.1 r i) (M.1 r2 i2) a1 a2 a3)) hi2 (setI_o M r2 i2 _) (by rw [setI_s]; exact hE2 _)] at g1
  exact (hP _ _ _ _).mp k H1 locs1 lsA h1 g1 g3
theorem r_copyl (hR : Bd G cc own nL d rt Q P) {idx r i r2 i2 n1 n2 a1 a2 a3 : Nat} {sp dp n : Int32} (hl : KA own idx) (hdd : 2 ≤ d) (hi : i < gcnt r) (hi2 : i2 < gcnt r2) (hE : Es G (M.1 r i) (M.2 r i) r i = .inl (gcL G, n1, .inr (.inl (M.2 r i)))) (hE2 : ∀ f, Es G (M.1 r2 i2) f r2 i2 = .inl (gcL G, n2, .inr (.inl f))) (e1 : sp = nI a1) (e2 : dp = nI a2) (e3 : n = nI a3) (b1 : a1 + a3 ≤ n1) (b2 : a2 + a3 ≤ n2) (b3 : n1 < 2 ^ 31) (b4 : n2 < 2 ^ 31) (hcat : (st.map fun v => v.category).sum ≤ 8) (hd : decode cc pc = .ok (.invokestatic idx, 3)) (k : P (pc + 3) ls st (setL M r2 i2 (va_cpy (M.2 r i) (M.2 r2 i2) a1 a2 a3))) : P pc ls (.int n :: .int dp :: .ref (ad G r2 i2) :: .int sp :: .ref (ad G r i) :: st) M := by
  obtain ⟨p, l, e, R, s, m, args, below, meth, c, cells, slots, QQ, hx, hb, hml, hown, hts, hroom, hS0, hP, hret⟩ := hR
  obtain ⟨ro1, ro2, ro3, ro4⟩ := hroom
  subst e1; subst e2; subst e3
  have c1 : (nI a1).toNatClampNeg = a1 := nI_clamp (by omega)
  have c2 : (nI a2).toNatClampNeg = a2 := nI_clamp (by omega)
  have c3 : (nI a3).toNatClampNeg = a3 := nI_clamp (by omega)
  refine (hP _ _ _ _).mpr fun H locs lsA h1 h2 h3 => va_copyl (ws := gWl G M) (A := fr G) (ty := .long) hx hb (by obtain ⟨-, lv, q, -⟩ := h1; rw [hml]; exact q.1.symm) hown (hts _ hl.1) (hts _ hl.2.1) (hts _ hl.2.2.1) (hts _ hl.2.2.2) hS0.1 h2 (gWl_D G M) h3 (goff r i) (goff r2 i2) 1 1 (by rw [gWl_at hi, hE]) (by rw [gWl_at hi2, hE2]) rfl rfl rfl (nI_pos (by omega)) (nI_pos (by omega)) (nI_pos (by omega)) (by rw [c1, c3]; exact b1) (by rw [c2, c3]; exact b2) (fun _ _ => rfl) (by omega) (Nat.le_trans (show _ ≤ 60 from Nat.le_trans (Nat.add_le_add_right hcat _) (by decide +kernel)) (by omega)) hd (fun H1 locs1 g1 g2 g3 => ?_)
  rw [c1, c2, c3, gWl_set (M' := setL M r2 i2 (va_cpy (M.2 r i) (M.2 r2 i2) a1 a2 a3)) hi2 (setL_o M r2 i2 _) (by rw [setL_s]; exact hE2 _)] at g1
  exact (hP _ _ _ _).mp k H1 locs1 lsA h1 g1 g3
end Rows
end
section
/-! the words of the tables, by their places (printed by wip/whole/words.py) -/
theorem inG_of {C : String} {T : u_T} {N : Nat} (h : ∀ k, k < N → u_lay C T k ∈ GT) : ∀ w ∈ u_ws C T N, w ∈ GT := fun w hw => by
  obtain ⟨k, hk, rfl⟩ := List.mem_map.mp hw
  exact h k (List.mem_range.mp hk)
theorem layX0_0 : u_lay RX0 TX0 0 ∈ GT := (GT_t 112 (by decide +kernel) rfl : Cond.lays RX0 "WindRota$Pick" "found" "I" ∈ GT)
theorem layX0_1 : u_lay RX0 TX0 1 ∈ GT := (GT_t 114 (by decide +kernel) rfl : Cond.lays RX0 "WindRota$Pick" "most" "I" ∈ GT)
theorem inGX0 : ∀ w ∈ u_ws RX0 TX0 2, w ∈ GT := inG_of fun k hk => match k, hk with
  | 0, _ => layX0_0
  | 1, _ => layX0_1
  | k + 2, hk => absurd hk (by omega)
theorem layX1_0 : u_lay RX1 TX1 0 ∈ GT := (GT_t 74 (by decide +kernel) rfl : Cond.lays RX1 "WindRota$Sea" "day" "I" ∈ GT)
theorem layX1_1 : u_lay RX1 TX1 1 ∈ GT := (GT_t 76 (by decide +kernel) rfl : Cond.laysFinal RX1 "WindRota$Sea" "rota" "[I" ∈ GT)
theorem layX1_2 : u_lay RX1 TX1 2 ∈ GT := (GT_t 78 (by decide +kernel) rfl : Cond.lays RX1 "WindRota$Sea" "sick" "I" ∈ GT)
theorem layX1_3 : u_lay RX1 TX1 3 ∈ GT := (GT_t 80 (by decide +kernel) rfl : Cond.lays RX1 "WindRota$Sea" "force" "I" ∈ GT)
theorem layX1_4 : u_lay RX1 TX1 4 ∈ GT := (GT_t 82 (by decide +kernel) rfl : Cond.lays RX1 "WindRota$Sea" "count" "I" ∈ GT)
theorem layX1_5 : u_lay RX1 TX1 5 ∈ GT := (GT_t 84 (by decide +kernel) rfl : Cond.laysFinal RX1 "WindRota$Sea" "things" "[LWindRota$Thing;" ∈ GT)
theorem inGX1 : ∀ w ∈ u_ws RX1 TX1 6, w ∈ GT := inG_of fun k hk => match k, hk with
  | 0, _ => layX1_0
  | 1, _ => layX1_1
  | 2, _ => layX1_2
  | 3, _ => layX1_3
  | 4, _ => layX1_4
  | 5, _ => layX1_5
  | k + 6, hk => absurd hk (by omega)
theorem layX2_0 : u_lay RX2 TX2 0 ∈ GT := (GT_t 165 (by decide +kernel) rfl : Cond.lays RX2 "WindRota$Sheet" "bits" "I" ∈ GT)
theorem layX2_1 : u_lay RX2 TX2 1 ∈ GT := (GT_t 167 (by decide +kernel) rfl : Cond.lays RX2 "WindRota$Sheet" "size" "I" ∈ GT)
theorem layX2_2 : u_lay RX2 TX2 2 ∈ GT := (GT_t 169 (by decide +kernel) rfl : Cond.laysFinal RX2 "WindRota$Sheet" "numbers" "[J" ∈ GT)
theorem inGX2 : ∀ w ∈ u_ws RX2 TX2 3, w ∈ GT := inG_of fun k hk => match k, hk with
  | 0, _ => layX2_0
  | 1, _ => layX2_1
  | 2, _ => layX2_2
  | k + 3, hk => absurd hk (by omega)
theorem layX3_0 : u_lay RX3 TX3 0 ∈ GT := (GT_t 131 (by decide +kernel) rfl : Cond.laysFinal RX3 "WindRota$Tape" "bytes" "[I" ∈ GT)
theorem layX3_1 : u_lay RX3 TX3 1 ∈ GT := (GT_t 133 (by decide +kernel) rfl : Cond.lays RX3 "WindRota$Tape" "length" "I" ∈ GT)
theorem layX3_2 : u_lay RX3 TX3 2 ∈ GT := (GT_t 135 (by decide +kernel) rfl : Cond.lays RX3 "WindRota$Tape" "token" "I" ∈ GT)
theorem layX3_3 : u_lay RX3 TX3 3 ∈ GT := (GT_t 137 (by decide +kernel) rfl : Cond.lays RX3 "WindRota$Tape" "place" "I" ∈ GT)
theorem layX3_4 : u_lay RX3 TX3 4 ∈ GT := (GT_t 139 (by decide +kernel) rfl : Cond.lays RX3 "WindRota$Tape" "behind" "I" ∈ GT)
theorem inGX3 : ∀ w ∈ u_ws RX3 TX3 5, w ∈ GT := inG_of fun k hk => match k, hk with
  | 0, _ => layX3_0
  | 1, _ => layX3_1
  | 2, _ => layX3_2
  | 3, _ => layX3_3
  | 4, _ => layX3_4
  | k + 5, hk => absurd hk (by omega)
theorem layX4_0 : u_lay RX4 TX4 0 ∈ GT := (GT_t 149 (by decide +kernel) rfl : Cond.laysFinal RX4 "WindRota$Teller" "tape" "LWindRota$Tape;" ∈ GT)
theorem inGX4 : ∀ w ∈ u_ws RX4 TX4 1, w ∈ GT := inG_of fun k hk => match k, hk with
  | 0, _ => layX4_0
  | k + 1, hk => absurd hk (by omega)
theorem layX5_0 : u_lay RX5 TX5 0 ∈ GT := (GT_t 50 (by decide +kernel) rfl : Cond.lays RX5 "WindRota$Thing" "kind" "I" ∈ GT)
theorem layX5_1 : u_lay RX5 TX5 1 ∈ GT := (GT_t 52 (by decide +kernel) rfl : Cond.lays RX5 "WindRota$Thing" "cell" "I" ∈ GT)
theorem layX5_2 : u_lay RX5 TX5 2 ∈ GT := (GT_t 54 (by decide +kernel) rfl : Cond.lays RX5 "WindRota$Thing" "facing" "I" ∈ GT)
theorem layX5_3 : u_lay RX5 TX5 3 ∈ GT := (GT_t 56 (by decide +kernel) rfl : Cond.lays RX5 "WindRota$Thing" "sum" "I" ∈ GT)
theorem inGX5 : ∀ w ∈ u_ws RX5 TX5 4, w ∈ GT := inG_of fun k hk => match k, hk with
  | 0, _ => layX5_0
  | 1, _ => layX5_1
  | 2, _ => layX5_2
  | 3, _ => layX5_3
  | k + 4, hk => absurd hk (by omega)
theorem layX6_0 : u_lay RX6 TX6 0 ∈ GT := (GT_t 98 (by decide +kernel) rfl : Cond.laysFinal RX6 "WindRota$Ways" "fewest" "[I" ∈ GT)
theorem layX6_1 : u_lay RX6 TX6 1 ∈ GT := (GT_t 100 (by decide +kernel) rfl : Cond.laysFinal RX6 "WindRota$Ways" "next" "[I" ∈ GT)
theorem inGX6 : ∀ w ∈ u_ws RX6 TX6 2, w ∈ GT := inG_of fun k hk => match k, hk with
  | 0, _ => layX6_0
  | 1, _ => layX6_1
  | k + 2, hk => absurd hk (by omega)
theorem layX7_0 : u_lay RX7 TX7 0 ∈ GT := (GT_t 185 (by decide +kernel) rfl : Cond.laysFinal RX7 "WindRota" "sea" "LWindRota$Sea;" ∈ GT)
theorem layX7_1 : u_lay RX7 TX7 1 ∈ GT := (GT_t 187 (by decide +kernel) rfl : Cond.laysFinal RX7 "WindRota" "trial" "LWindRota$Sea;" ∈ GT)
theorem layX7_2 : u_lay RX7 TX7 2 ∈ GT := (GT_t 189 (by decide +kernel) rfl : Cond.laysFinal RX7 "WindRota" "kept" "LWindRota$Sea;" ∈ GT)
theorem layX7_3 : u_lay RX7 TX7 3 ∈ GT := (GT_t 191 (by decide +kernel) rfl : Cond.lays RX7 "WindRota" "isKept" "Z" ∈ GT)
theorem layX7_4 : u_lay RX7 TX7 4 ∈ GT := (GT_t 193 (by decide +kernel) rfl : Cond.laysFinal RX7 "WindRota" "walker" "LWindRota$Thing;" ∈ GT)
theorem layX7_5 : u_lay RX7 TX7 5 ∈ GT := (GT_t 195 (by decide +kernel) rfl : Cond.laysFinal RX7 "WindRota" "second" "LWindRota$Thing;" ∈ GT)
theorem layX7_6 : u_lay RX7 TX7 6 ∈ GT := (GT_t 197 (by decide +kernel) rfl : Cond.laysFinal RX7 "WindRota" "ways" "LWindRota$Ways;" ∈ GT)
theorem layX7_7 : u_lay RX7 TX7 7 ∈ GT := (GT_t 199 (by decide +kernel) rfl : Cond.laysFinal RX7 "WindRota" "pick" "LWindRota$Pick;" ∈ GT)
theorem layX7_8 : u_lay RX7 TX7 8 ∈ GT := (GT_t 201 (by decide +kernel) rfl : Cond.laysFinal RX7 "WindRota" "tape" "LWindRota$Tape;" ∈ GT)
theorem layX7_9 : u_lay RX7 TX7 9 ∈ GT := (GT_t 203 (by decide +kernel) rfl : Cond.laysFinal RX7 "WindRota" "teller" "LWindRota$Teller;" ∈ GT)
theorem layX7_10 : u_lay RX7 TX7 10 ∈ GT := (GT_t 205 (by decide +kernel) rfl : Cond.laysFinal RX7 "WindRota" "sheets" "[LWindRota$Sheet;" ∈ GT)
theorem layX7_11 : u_lay RX7 TX7 11 ∈ GT := (GT_t 207 (by decide +kernel) rfl : Cond.laysFinal RX7 "WindRota" "told" "[I" ∈ GT)
theorem inGX7 : ∀ w ∈ u_ws RX7 TX7 12, w ∈ GT := inG_of fun k hk => match k, hk with
  | 0, _ => layX7_0
  | 1, _ => layX7_1
  | 2, _ => layX7_2
  | 3, _ => layX7_3
  | 4, _ => layX7_4
  | 5, _ => layX7_5
  | 6, _ => layX7_6
  | 7, _ => layX7_7
  | 8, _ => layX7_8
  | 9, _ => layX7_9
  | 10, _ => layX7_10
  | 11, _ => layX7_11
  | k + 12, hk => absurd hk (by omega)
theorem layX8_0 : u_lay RX8 TX8 0 ∈ GT := (GT_t 727 (by decide +kernel) rfl : Cond.laysFinal RX8 "WindRotaModel" "m" "[I" ∈ GT)
theorem layX8_1 : u_lay RX8 TX8 1 ∈ GT := (GT_t 729 (by decide +kernel) rfl : Cond.laysFinal RX8 "WindRotaModel" "kept" "[I" ∈ GT)
theorem layX8_2 : u_lay RX8 TX8 2 ∈ GT := (GT_t 731 (by decide +kernel) rfl : Cond.laysFinal RX8 "WindRotaModel" "was" "[I" ∈ GT)
theorem layX8_3 : u_lay RX8 TX8 3 ∈ GT := (GT_t 733 (by decide +kernel) rfl : Cond.lays RX8 "WindRotaModel" "isKept" "Z" ∈ GT)
theorem layX8_4 : u_lay RX8 TX8 4 ∈ GT := (GT_t 735 (by decide +kernel) rfl : Cond.laysFinal RX8 "WindRotaModel" "found" "[I" ∈ GT)
theorem layX8_5 : u_lay RX8 TX8 5 ∈ GT := (GT_t 737 (by decide +kernel) rfl : Cond.laysFinal RX8 "WindRotaModel" "cost" "[I" ∈ GT)
theorem layX8_6 : u_lay RX8 TX8 6 ∈ GT := (GT_t 739 (by decide +kernel) rfl : Cond.laysFinal RX8 "WindRotaModel" "then" "[I" ∈ GT)
theorem layX8_7 : u_lay RX8 TX8 7 ∈ GT := (GT_t 741 (by decide +kernel) rfl : Cond.laysFinal RX8 "WindRotaModel" "tape" "[I" ∈ GT)
theorem layX8_8 : u_lay RX8 TX8 8 ∈ GT := (GT_t 743 (by decide +kernel) rfl : Cond.lays RX8 "WindRotaModel" "taped" "I" ∈ GT)
theorem layX8_9 : u_lay RX8 TX8 9 ∈ GT := (GT_t 745 (by decide +kernel) rfl : Cond.lays RX8 "WindRotaModel" "token" "I" ∈ GT)
theorem layX8_10 : u_lay RX8 TX8 10 ∈ GT := (GT_t 747 (by decide +kernel) rfl : Cond.lays RX8 "WindRotaModel" "begin" "I" ∈ GT)
theorem layX8_11 : u_lay RX8 TX8 11 ∈ GT := (GT_t 749 (by decide +kernel) rfl : Cond.lays RX8 "WindRotaModel" "at" "I" ∈ GT)
theorem layX8_12 : u_lay RX8 TX8 12 ∈ GT := (GT_t 751 (by decide +kernel) rfl : Cond.lays RX8 "WindRotaModel" "value" "I" ∈ GT)
theorem layX8_13 : u_lay RX8 TX8 13 ∈ GT := (GT_t 753 (by decide +kernel) rfl : Cond.lays RX8 "WindRotaModel" "bad" "Z" ∈ GT)
theorem layX8_14 : u_lay RX8 TX8 14 ∈ GT := (GT_t 755 (by decide +kernel) rfl : Cond.laysFinal RX8 "WindRotaModel" "bitsOf" "[I" ∈ GT)
theorem layX8_15 : u_lay RX8 TX8 15 ∈ GT := (GT_t 757 (by decide +kernel) rfl : Cond.laysFinal RX8 "WindRotaModel" "sizeOf" "[I" ∈ GT)
theorem layX8_16 : u_lay RX8 TX8 16 ∈ GT := (GT_t 759 (by decide +kernel) rfl : Cond.laysFinal RX8 "WindRotaModel" "cells" "[J" ∈ GT)
theorem inGX8 : ∀ w ∈ u_ws RX8 TX8 17, w ∈ GT := inG_of fun k hk => match k, hk with
  | 0, _ => layX8_0
  | 1, _ => layX8_1
  | 2, _ => layX8_2
  | 3, _ => layX8_3
  | 4, _ => layX8_4
  | 5, _ => layX8_5
  | 6, _ => layX8_6
  | 7, _ => layX8_7
  | 8, _ => layX8_8
  | 9, _ => layX8_9
  | 10, _ => layX8_10
  | 11, _ => layX8_11
  | 12, _ => layX8_12
  | 13, _ => layX8_13
  | 14, _ => layX8_14
  | 15, _ => layX8_15
  | 16, _ => layX8_16
  | k + 17, hk => absurd hk (by omega)
theorem fl_X5_9 : FLd RX5 9 5 0 := ⟨RX5, TX5, 4, rfl, by decide, GT_t 38 (by decide +kernel) rfl, inGX5⟩
theorem fp_X5_9 : FPd RX5 9 5 0 .int := ⟨RX5, TX5, 4, tyX5, rfl, by decide, GT_t 38 (by decide +kernel) rfl, inGX5, tyX5_ok, nmX5, rfl, rfl⟩
theorem fl_X1_49 : FLd RX1 49 5 0 := ⟨RX5, TX5, 4, rfl, by decide, GT_t 39 (by decide +kernel) rfl, inGX5⟩
theorem fp_X1_49 : FPd RX1 49 5 0 .int := ⟨RX5, TX5, 4, tyX5, rfl, by decide, GT_t 39 (by decide +kernel) rfl, inGX5, tyX5_ok, nmX5, rfl, rfl⟩
theorem fl_X7_131 : FLd RX7 131 5 0 := ⟨RX5, TX5, 4, rfl, by decide, GT_t 40 (by decide +kernel) rfl, inGX5⟩
theorem fp_X7_131 : FPd RX7 131 5 0 .int := ⟨RX5, TX5, 4, tyX5, rfl, by decide, GT_t 40 (by decide +kernel) rfl, inGX5, tyX5_ok, nmX5, rfl, rfl⟩
theorem fl_X5_15 : FLd RX5 15 5 1 := ⟨RX5, TX5, 4, rfl, by decide, GT_t 41 (by decide +kernel) rfl, inGX5⟩
theorem fp_X5_15 : FPd RX5 15 5 1 .int := ⟨RX5, TX5, 4, tyX5, rfl, by decide, GT_t 41 (by decide +kernel) rfl, inGX5, tyX5_ok, nmX5, rfl, rfl⟩
theorem fl_X1_52 : FLd RX1 52 5 1 := ⟨RX5, TX5, 4, rfl, by decide, GT_t 42 (by decide +kernel) rfl, inGX5⟩
theorem fp_X1_52 : FPd RX1 52 5 1 .int := ⟨RX5, TX5, 4, tyX5, rfl, by decide, GT_t 42 (by decide +kernel) rfl, inGX5, tyX5_ok, nmX5, rfl, rfl⟩
theorem fl_X7_134 : FLd RX7 134 5 1 := ⟨RX5, TX5, 4, rfl, by decide, GT_t 43 (by decide +kernel) rfl, inGX5⟩
theorem fp_X7_134 : FPd RX7 134 5 1 .int := ⟨RX5, TX5, 4, tyX5, rfl, by decide, GT_t 43 (by decide +kernel) rfl, inGX5, tyX5_ok, nmX5, rfl, rfl⟩
theorem fl_X5_18 : FLd RX5 18 5 2 := ⟨RX5, TX5, 4, rfl, by decide, GT_t 44 (by decide +kernel) rfl, inGX5⟩
theorem fp_X5_18 : FPd RX5 18 5 2 .int := ⟨RX5, TX5, 4, tyX5, rfl, by decide, GT_t 44 (by decide +kernel) rfl, inGX5, tyX5_ok, nmX5, rfl, rfl⟩
theorem fl_X1_55 : FLd RX1 55 5 2 := ⟨RX5, TX5, 4, rfl, by decide, GT_t 45 (by decide +kernel) rfl, inGX5⟩
theorem fp_X1_55 : FPd RX1 55 5 2 .int := ⟨RX5, TX5, 4, tyX5, rfl, by decide, GT_t 45 (by decide +kernel) rfl, inGX5, tyX5_ok, nmX5, rfl, rfl⟩
theorem fl_X7_137 : FLd RX7 137 5 2 := ⟨RX5, TX5, 4, rfl, by decide, GT_t 46 (by decide +kernel) rfl, inGX5⟩
theorem fp_X7_137 : FPd RX7 137 5 2 .int := ⟨RX5, TX5, 4, tyX5, rfl, by decide, GT_t 46 (by decide +kernel) rfl, inGX5, tyX5_ok, nmX5, rfl, rfl⟩
theorem fl_X5_21 : FLd RX5 21 5 3 := ⟨RX5, TX5, 4, rfl, by decide, GT_t 47 (by decide +kernel) rfl, inGX5⟩
theorem fp_X5_21 : FPd RX5 21 5 3 .int := ⟨RX5, TX5, 4, tyX5, rfl, by decide, GT_t 47 (by decide +kernel) rfl, inGX5, tyX5_ok, nmX5, rfl, rfl⟩
theorem fl_X1_58 : FLd RX1 58 5 3 := ⟨RX5, TX5, 4, rfl, by decide, GT_t 48 (by decide +kernel) rfl, inGX5⟩
theorem fp_X1_58 : FPd RX1 58 5 3 .int := ⟨RX5, TX5, 4, tyX5, rfl, by decide, GT_t 48 (by decide +kernel) rfl, inGX5, tyX5_ok, nmX5, rfl, rfl⟩
theorem fl_X7_140 : FLd RX7 140 5 3 := ⟨RX5, TX5, 4, rfl, by decide, GT_t 49 (by decide +kernel) rfl, inGX5⟩
theorem fp_X7_140 : FPd RX7 140 5 3 .int := ⟨RX5, TX5, 4, tyX5, rfl, by decide, GT_t 49 (by decide +kernel) rfl, inGX5, tyX5_ok, nmX5, rfl, rfl⟩
theorem fl_X1_9 : FLd RX1 9 1 0 := ⟨RX1, TX1, 6, rfl, by decide, GT_t 60 (by decide +kernel) rfl, inGX1⟩
theorem fp_X1_9 : FPd RX1 9 1 0 .int := ⟨RX1, TX1, 6, tyX1, rfl, by decide, GT_t 60 (by decide +kernel) rfl, inGX1, tyX1_ok, nmX1, rfl, rfl⟩
theorem fl_X7_128 : FLd RX7 128 1 0 := ⟨RX1, TX1, 6, rfl, by decide, GT_t 61 (by decide +kernel) rfl, inGX1⟩
theorem fp_X7_128 : FPd RX7 128 1 0 .int := ⟨RX1, TX1, 6, tyX1, rfl, by decide, GT_t 61 (by decide +kernel) rfl, inGX1, tyX1_ok, nmX1, rfl, rfl⟩
theorem fl_X1_15 : FLd RX1 15 1 1 := ⟨RX1, TX1, 6, rfl, by decide, GT_t 62 (by decide +kernel) rfl, inGX1⟩
theorem fl_X7_86 : FLd RX7 86 1 1 := ⟨RX1, TX1, 6, rfl, by decide, GT_t 63 (by decide +kernel) rfl, inGX1⟩
theorem fl_X4_82 : FLd RX4 82 1 1 := ⟨RX1, TX1, 6, rfl, by decide, GT_t 64 (by decide +kernel) rfl, inGX1⟩
theorem fl_X1_19 : FLd RX1 19 1 2 := ⟨RX1, TX1, 6, rfl, by decide, GT_t 65 (by decide +kernel) rfl, inGX1⟩
theorem fp_X1_19 : FPd RX1 19 1 2 .int := ⟨RX1, TX1, 6, tyX1, rfl, by decide, GT_t 65 (by decide +kernel) rfl, inGX1, tyX1_ok, nmX1, rfl, rfl⟩
theorem fl_X7_172 : FLd RX7 172 1 2 := ⟨RX1, TX1, 6, rfl, by decide, GT_t 66 (by decide +kernel) rfl, inGX1⟩
theorem fp_X7_172 : FPd RX7 172 1 2 .int := ⟨RX1, TX1, 6, tyX1, rfl, by decide, GT_t 66 (by decide +kernel) rfl, inGX1, tyX1_ok, nmX1, rfl, rfl⟩
theorem fl_X1_22 : FLd RX1 22 1 3 := ⟨RX1, TX1, 6, rfl, by decide, GT_t 67 (by decide +kernel) rfl, inGX1⟩
theorem fp_X1_22 : FPd RX1 22 1 3 .int := ⟨RX1, TX1, 6, tyX1, rfl, by decide, GT_t 67 (by decide +kernel) rfl, inGX1, tyX1_ok, nmX1, rfl, rfl⟩
theorem fl_X7_97 : FLd RX7 97 1 3 := ⟨RX1, TX1, 6, rfl, by decide, GT_t 68 (by decide +kernel) rfl, inGX1⟩
theorem fp_X7_97 : FPd RX7 97 1 3 .int := ⟨RX1, TX1, 6, tyX1, rfl, by decide, GT_t 68 (by decide +kernel) rfl, inGX1, tyX1_ok, nmX1, rfl, rfl⟩
theorem fl_X4_89 : FLd RX4 89 1 3 := ⟨RX1, TX1, 6, rfl, by decide, GT_t 69 (by decide +kernel) rfl, inGX1⟩
theorem fp_X4_89 : FPd RX4 89 1 3 .int := ⟨RX1, TX1, 6, tyX1, rfl, by decide, GT_t 69 (by decide +kernel) rfl, inGX1, tyX1_ok, nmX1, rfl, rfl⟩
theorem fl_X1_25 : FLd RX1 25 1 4 := ⟨RX1, TX1, 6, rfl, by decide, GT_t 70 (by decide +kernel) rfl, inGX1⟩
theorem fp_X1_25 : FPd RX1 25 1 4 .int := ⟨RX1, TX1, 6, tyX1, rfl, by decide, GT_t 70 (by decide +kernel) rfl, inGX1, tyX1_ok, nmX1, rfl, rfl⟩
theorem fl_X7_118 : FLd RX7 118 1 4 := ⟨RX1, TX1, 6, rfl, by decide, GT_t 71 (by decide +kernel) rfl, inGX1⟩
theorem fp_X7_118 : FPd RX7 118 1 4 .int := ⟨RX1, TX1, 6, tyX1, rfl, by decide, GT_t 71 (by decide +kernel) rfl, inGX1, tyX1_ok, nmX1, rfl, rfl⟩
theorem fl_X1_30 : FLd RX1 30 1 5 := ⟨RX1, TX1, 6, rfl, by decide, GT_t 72 (by decide +kernel) rfl, inGX1⟩
theorem fl_X7_124 : FLd RX7 124 1 5 := ⟨RX1, TX1, 6, rfl, by decide, GT_t 73 (by decide +kernel) rfl, inGX1⟩
theorem fl_X6_9 : FLd RX6 9 6 0 := ⟨RX6, TX6, 2, rfl, by decide, GT_t 95 (by decide +kernel) rfl, inGX6⟩
theorem fl_X7_192 : FLd RX7 192 6 0 := ⟨RX6, TX6, 2, rfl, by decide, GT_t 96 (by decide +kernel) rfl, inGX6⟩
theorem fl_X6_15 : FLd RX6 15 6 1 := ⟨RX6, TX6, 2, rfl, by decide, GT_t 97 (by decide +kernel) rfl, inGX6⟩
theorem fl_X0_9 : FLd RX0 9 0 0 := ⟨RX0, TX0, 2, rfl, by decide, GT_t 109 (by decide +kernel) rfl, inGX0⟩
theorem fp_X0_9 : FPd RX0 9 0 0 .int := ⟨RX0, TX0, 2, tyX0, rfl, by decide, GT_t 109 (by decide +kernel) rfl, inGX0, tyX0_ok, nmX0, rfl, rfl⟩
theorem fl_X7_215 : FLd RX7 215 0 0 := ⟨RX0, TX0, 2, rfl, by decide, GT_t 110 (by decide +kernel) rfl, inGX0⟩
theorem fp_X7_215 : FPd RX7 215 0 0 .int := ⟨RX0, TX0, 2, tyX0, rfl, by decide, GT_t 110 (by decide +kernel) rfl, inGX0, tyX0_ok, nmX0, rfl, rfl⟩
theorem fl_X0_13 : FLd RX0 13 0 1 := ⟨RX0, TX0, 2, rfl, by decide, GT_t 111 (by decide +kernel) rfl, inGX0⟩
theorem fp_X0_13 : FPd RX0 13 0 1 .int := ⟨RX0, TX0, 2, tyX0, rfl, by decide, GT_t 111 (by decide +kernel) rfl, inGX0, tyX0_ok, nmX0, rfl, rfl⟩
theorem fl_X3_9 : FLd RX3 9 3 0 := ⟨RX3, TX3, 5, rfl, by decide, GT_t 123 (by decide +kernel) rfl, inGX3⟩
theorem fl_X3_15 : FLd RX3 15 3 1 := ⟨RX3, TX3, 5, rfl, by decide, GT_t 124 (by decide +kernel) rfl, inGX3⟩
theorem fp_X3_15 : FPd RX3 15 3 1 .int := ⟨RX3, TX3, 5, tyX3, rfl, by decide, GT_t 124 (by decide +kernel) rfl, inGX3, tyX3_ok, nmX3, rfl, rfl⟩
theorem fl_X7_222 : FLd RX7 222 3 1 := ⟨RX3, TX3, 5, rfl, by decide, GT_t 125 (by decide +kernel) rfl, inGX3⟩
theorem fp_X7_222 : FPd RX7 222 3 1 .int := ⟨RX3, TX3, 5, tyX3, rfl, by decide, GT_t 125 (by decide +kernel) rfl, inGX3, tyX3_ok, nmX3, rfl, rfl⟩
theorem fl_X4_28 : FLd RX4 28 3 2 := ⟨RX3, TX3, 5, rfl, by decide, GT_t 126 (by decide +kernel) rfl, inGX3⟩
theorem fp_X4_28 : FPd RX4 28 3 2 .int := ⟨RX3, TX3, 5, tyX3, rfl, by decide, GT_t 126 (by decide +kernel) rfl, inGX3, tyX3_ok, nmX3, rfl, rfl⟩
theorem fl_X3_28 : FLd RX3 28 3 2 := ⟨RX3, TX3, 5, rfl, by decide, GT_t 127 (by decide +kernel) rfl, inGX3⟩
theorem fp_X3_28 : FPd RX3 28 3 2 .int := ⟨RX3, TX3, 5, tyX3, rfl, by decide, GT_t 127 (by decide +kernel) rfl, inGX3, tyX3_ok, nmX3, rfl, rfl⟩
theorem fl_X4_24 : FLd RX4 24 3 3 := ⟨RX3, TX3, 5, rfl, by decide, GT_t 128 (by decide +kernel) rfl, inGX3⟩
theorem fp_X4_24 : FPd RX4 24 3 3 .int := ⟨RX3, TX3, 5, tyX3, rfl, by decide, GT_t 128 (by decide +kernel) rfl, inGX3, tyX3_ok, nmX3, rfl, rfl⟩
theorem fl_X3_25 : FLd RX3 25 3 3 := ⟨RX3, TX3, 5, rfl, by decide, GT_t 129 (by decide +kernel) rfl, inGX3⟩
theorem fp_X3_25 : FPd RX3 25 3 3 .int := ⟨RX3, TX3, 5, tyX3, rfl, by decide, GT_t 129 (by decide +kernel) rfl, inGX3, tyX3_ok, nmX3, rfl, rfl⟩
theorem fl_X3_19 : FLd RX3 19 3 4 := ⟨RX3, TX3, 5, rfl, by decide, GT_t 130 (by decide +kernel) rfl, inGX3⟩
theorem fp_X3_19 : FPd RX3 19 3 4 .int := ⟨RX3, TX3, 5, tyX3, rfl, by decide, GT_t 130 (by decide +kernel) rfl, inGX3, tyX3_ok, nmX3, rfl, rfl⟩
theorem fl_X4_9 : FLd RX4 9 4 0 := ⟨RX4, TX4, 1, rfl, by decide, GT_t 148 (by decide +kernel) rfl, inGX4⟩
theorem fl_X2_9 : FLd RX2 9 2 0 := ⟨RX2, TX2, 3, rfl, by decide, GT_t 159 (by decide +kernel) rfl, inGX2⟩
theorem fp_X2_9 : FPd RX2 9 2 0 .int := ⟨RX2, TX2, 3, tyX2, rfl, by decide, GT_t 159 (by decide +kernel) rfl, inGX2, tyX2_ok, nmX2, rfl, rfl⟩
theorem fl_X7_249 : FLd RX7 249 2 0 := ⟨RX2, TX2, 3, rfl, by decide, GT_t 160 (by decide +kernel) rfl, inGX2⟩
theorem fp_X7_249 : FPd RX7 249 2 0 .int := ⟨RX2, TX2, 3, tyX2, rfl, by decide, GT_t 160 (by decide +kernel) rfl, inGX2, tyX2_ok, nmX2, rfl, rfl⟩
theorem fl_X2_15 : FLd RX2 15 2 1 := ⟨RX2, TX2, 3, rfl, by decide, GT_t 161 (by decide +kernel) rfl, inGX2⟩
theorem fp_X2_15 : FPd RX2 15 2 1 .int := ⟨RX2, TX2, 3, tyX2, rfl, by decide, GT_t 161 (by decide +kernel) rfl, inGX2, tyX2_ok, nmX2, rfl, rfl⟩
theorem fl_X7_235 : FLd RX7 235 2 1 := ⟨RX2, TX2, 3, rfl, by decide, GT_t 162 (by decide +kernel) rfl, inGX2⟩
theorem fp_X7_235 : FPd RX7 235 2 1 .int := ⟨RX2, TX2, 3, tyX2, rfl, by decide, GT_t 162 (by decide +kernel) rfl, inGX2, tyX2_ok, nmX2, rfl, rfl⟩
theorem fl_X2_18 : FLd RX2 18 2 2 := ⟨RX2, TX2, 3, rfl, by decide, GT_t 163 (by decide +kernel) rfl, inGX2⟩
theorem fl_X7_242 : FLd RX7 242 2 2 := ⟨RX2, TX2, 3, rfl, by decide, GT_t 164 (by decide +kernel) rfl, inGX2⟩
theorem fl_X7_10 : FLd RX7 10 7 0 := ⟨RX7, TX7, 12, rfl, by decide, GT_t 173 (by decide +kernel) rfl, inGX7⟩
theorem fl_X7_16 : FLd RX7 16 7 1 := ⟨RX7, TX7, 12, rfl, by decide, GT_t 174 (by decide +kernel) rfl, inGX7⟩
theorem fl_X7_19 : FLd RX7 19 7 2 := ⟨RX7, TX7, 12, rfl, by decide, GT_t 175 (by decide +kernel) rfl, inGX7⟩
theorem fl_X7_22 : FLd RX7 22 7 3 := ⟨RX7, TX7, 12, rfl, by decide, GT_t 176 (by decide +kernel) rfl, inGX7⟩
theorem fp_X7_22 : FPd RX7 22 7 3 .boolean := ⟨RX7, TX7, 12, tyX7, rfl, by decide, GT_t 176 (by decide +kernel) rfl, inGX7, tyX7_ok, nmX7, rfl, rfl⟩
theorem fl_X7_29 : FLd RX7 29 7 4 := ⟨RX7, TX7, 12, rfl, by decide, GT_t 177 (by decide +kernel) rfl, inGX7⟩
theorem fl_X7_33 : FLd RX7 33 7 5 := ⟨RX7, TX7, 12, rfl, by decide, GT_t 178 (by decide +kernel) rfl, inGX7⟩
theorem fl_X7_39 : FLd RX7 39 7 6 := ⟨RX7, TX7, 12, rfl, by decide, GT_t 179 (by decide +kernel) rfl, inGX7⟩
theorem fl_X7_46 : FLd RX7 46 7 7 := ⟨RX7, TX7, 12, rfl, by decide, GT_t 180 (by decide +kernel) rfl, inGX7⟩
theorem fl_X7_53 : FLd RX7 53 7 8 := ⟨RX7, TX7, 12, rfl, by decide, GT_t 181 (by decide +kernel) rfl, inGX7⟩
theorem fl_X7_62 : FLd RX7 62 7 9 := ⟨RX7, TX7, 12, rfl, by decide, GT_t 182 (by decide +kernel) rfl, inGX7⟩
theorem fl_X7_68 : FLd RX7 68 7 10 := ⟨RX7, TX7, 12, rfl, by decide, GT_t 183 (by decide +kernel) rfl, inGX7⟩
theorem fl_X7_73 : FLd RX7 73 7 11 := ⟨RX7, TX7, 12, rfl, by decide, GT_t 184 (by decide +kernel) rfl, inGX7⟩
theorem sl_X7_279 : Cond.fieldLink RX7 279 (sC 0) (sN 0) "[I" ∈ GT := GT_t 261 (by decide +kernel) rfl
theorem sl_X7_282 : Cond.fieldLink RX7 282 (sC 1) (sN 1) "[I" ∈ GT := GT_t 263 (by decide +kernel) rfl
theorem jl_J0_38 : Cond.fieldLink RJ0 38 "java/lang/String" "COMPACT_STRINGS" "Z" ∈ GT := GT_t 538 (by decide +kernel) rfl
theorem jl_J0_1053 : Cond.fieldLink RJ0 1053 "jdk/internal/util/Preconditions" "SIOOBE_FORMATTER" "Ljava/util/function/BiFunction;" ∈ GT := GT_t 554 (by decide +kernel) rfl
theorem jl_J2_44 : Cond.fieldLink RJ2 44 "java/lang/StringUTF16" "$assertionsDisabled" "Z" ∈ GT := GT_t 572 (by decide +kernel) rfl
theorem jl_J2_59 : Cond.fieldLink RJ2 59 "java/lang/StringUTF16" "HI_BYTE_SHIFT" "I" ∈ GT := GT_t 574 (by decide +kernel) rfl
theorem jl_J2_63 : Cond.fieldLink RJ2 63 "java/lang/StringUTF16" "LO_BYTE_SHIFT" "I" ∈ GT := GT_t 576 (by decide +kernel) rfl
theorem fl_X8_9 : FLd RX8 9 8 0 := ⟨RX8, TX8, 17, rfl, by decide, GT_t 710 (by decide +kernel) rfl, inGX8⟩
theorem fl_X8_13 : FLd RX8 13 8 1 := ⟨RX8, TX8, 17, rfl, by decide, GT_t 711 (by decide +kernel) rfl, inGX8⟩
theorem fl_X8_16 : FLd RX8 16 8 2 := ⟨RX8, TX8, 17, rfl, by decide, GT_t 712 (by decide +kernel) rfl, inGX8⟩
theorem fl_X8_222 : FLd RX8 222 8 3 := ⟨RX8, TX8, 17, rfl, by decide, GT_t 713 (by decide +kernel) rfl, inGX8⟩
theorem fp_X8_222 : FPd RX8 222 8 3 .boolean := ⟨RX8, TX8, 17, tyX8, rfl, by decide, GT_t 713 (by decide +kernel) rfl, inGX8, tyX8_ok, nmX8, rfl, rfl⟩
theorem fl_X8_19 : FLd RX8 19 8 4 := ⟨RX8, TX8, 17, rfl, by decide, GT_t 714 (by decide +kernel) rfl, inGX8⟩
theorem fl_X8_22 : FLd RX8 22 8 5 := ⟨RX8, TX8, 17, rfl, by decide, GT_t 715 (by decide +kernel) rfl, inGX8⟩
theorem fl_X8_25 : FLd RX8 25 8 6 := ⟨RX8, TX8, 17, rfl, by decide, GT_t 716 (by decide +kernel) rfl, inGX8⟩
theorem fl_X8_28 : FLd RX8 28 8 7 := ⟨RX8, TX8, 17, rfl, by decide, GT_t 717 (by decide +kernel) rfl, inGX8⟩
theorem fl_X8_145 : FLd RX8 145 8 8 := ⟨RX8, TX8, 17, rfl, by decide, GT_t 718 (by decide +kernel) rfl, inGX8⟩
theorem fp_X8_145 : FPd RX8 145 8 8 .int := ⟨RX8, TX8, 17, tyX8, rfl, by decide, GT_t 718 (by decide +kernel) rfl, inGX8, tyX8_ok, nmX8, rfl, rfl⟩
theorem fl_X8_168 : FLd RX8 168 8 9 := ⟨RX8, TX8, 17, rfl, by decide, GT_t 719 (by decide +kernel) rfl, inGX8⟩
theorem fp_X8_168 : FPd RX8 168 8 9 .int := ⟨RX8, TX8, 17, tyX8, rfl, by decide, GT_t 719 (by decide +kernel) rfl, inGX8, tyX8_ok, nmX8, rfl, rfl⟩
theorem fl_X8_152 : FLd RX8 152 8 10 := ⟨RX8, TX8, 17, rfl, by decide, GT_t 720 (by decide +kernel) rfl, inGX8⟩
theorem fp_X8_152 : FPd RX8 152 8 10 .int := ⟨RX8, TX8, 17, tyX8, rfl, by decide, GT_t 720 (by decide +kernel) rfl, inGX8, tyX8_ok, nmX8, rfl, rfl⟩
theorem fl_X8_155 : FLd RX8 155 8 11 := ⟨RX8, TX8, 17, rfl, by decide, GT_t 721 (by decide +kernel) rfl, inGX8⟩
theorem fp_X8_155 : FPd RX8 155 8 11 .int := ⟨RX8, TX8, 17, tyX8, rfl, by decide, GT_t 721 (by decide +kernel) rfl, inGX8, tyX8_ok, nmX8, rfl, rfl⟩
theorem fl_X8_165 : FLd RX8 165 8 12 := ⟨RX8, TX8, 17, rfl, by decide, GT_t 722 (by decide +kernel) rfl, inGX8⟩
theorem fp_X8_165 : FPd RX8 165 8 12 .int := ⟨RX8, TX8, 17, tyX8, rfl, by decide, GT_t 722 (by decide +kernel) rfl, inGX8, tyX8_ok, nmX8, rfl, rfl⟩
theorem fl_X8_174 : FLd RX8 174 8 13 := ⟨RX8, TX8, 17, rfl, by decide, GT_t 723 (by decide +kernel) rfl, inGX8⟩
theorem fp_X8_174 : FPd RX8 174 8 13 .boolean := ⟨RX8, TX8, 17, tyX8, rfl, by decide, GT_t 723 (by decide +kernel) rfl, inGX8, tyX8_ok, nmX8, rfl, rfl⟩
theorem fl_X8_31 : FLd RX8 31 8 14 := ⟨RX8, TX8, 17, rfl, by decide, GT_t 724 (by decide +kernel) rfl, inGX8⟩
theorem fl_X8_34 : FLd RX8 34 8 15 := ⟨RX8, TX8, 17, rfl, by decide, GT_t 725 (by decide +kernel) rfl, inGX8⟩
theorem fl_X8_37 : FLd RX8 37 8 16 := ⟨RX8, TX8, 17, rfl, by decide, GT_t 726 (by decide +kernel) rfl, inGX8⟩
theorem sl_X8_149 : Cond.fieldLink RX8 149 (sC 3) (sN 3) "[I" ∈ GT := GT_t 1010 (by decide +kernel) rfl
theorem jl_J0_9 : Cond.fieldLink RJ0 9 "java/lang/String" "value" "[B" ∈ GT := GT_t 1113 (by decide +kernel) rfl
theorem jl_J0_15 : Cond.fieldLink RJ0 15 "java/lang/String" "coder" "B" ∈ GT := GT_t 1114 (by decide +kernel) rfl
theorem ct_X7_81 : Cond.constant RX7 81 (-1000000001) ∈ GT := GT_t 217 (by decide +kernel) rfl
theorem ct_X7_108 : Cond.constant RX7 108 (-1000000004) ∈ GT := GT_t 265 (by decide +kernel) rfl
theorem ct_X7_113 : Cond.constant RX7 113 (-1000000002) ∈ GT := GT_t 274 (by decide +kernel) rfl
theorem ct_X7_221 : Cond.constant RX7 221 (99999) ∈ GT := GT_t 314 (by decide +kernel) rfl
theorem ct_X7_156 : Cond.constant RX7 156 (-1000000003) ∈ GT := GT_t 329 (by decide +kernel) rfl
theorem ct_X7_160 : Cond.constant RX7 160 (-1000000005) ∈ GT := GT_t 337 (by decide +kernel) rfl
theorem ct_X5_44 : Cond.constant RX5 44 (99999) ∈ GT := GT_t 355 (by decide +kernel) rfl
theorem ct_X7_220 : Cond.constant RX7 220 (-2147483648) ∈ GT := GT_t 461 (by decide +kernel) rfl
theorem ct_X7_232 : Cond.constant RX7 232 (-1000000007) ∈ GT := GT_t 622 (by decide +kernel) rfl
theorem ct_X7_241 : Cond.constant RX7 241 (-1000000006) ∈ GT := GT_t 635 (by decide +kernel) rfl
theorem ct_X7_261 : Cond.constantLong RX7 261 (8) ∈ GT := GT_t 657 (by decide +kernel) rfl
theorem ct_J6_265 : Cond.constant RJ6 265 (1431655765) ∈ GT := GT_t 693 (by decide +kernel) rfl
theorem ct_J6_266 : Cond.constant RJ6 266 (858993459) ∈ GT := GT_t 694 (by decide +kernel) rfl
theorem ct_J6_267 : Cond.constant RJ6 267 (252645135) ∈ GT := GT_t 695 (by decide +kernel) rfl
theorem ct_X8_41 : Cond.constant RX8 41 (-1000000001) ∈ GT := GT_t 773 (by decide +kernel) rfl
theorem ct_X8_42 : Cond.constant RX8 42 (-1000000004) ∈ GT := GT_t 819 (by decide +kernel) rfl
theorem ct_X8_93 : Cond.constant RX8 93 (-1000000002) ∈ GT := GT_t 824 (by decide +kernel) rfl
theorem ct_X8_103 : Cond.constant RX8 103 (99999) ∈ GT := GT_t 864 (by decide +kernel) rfl
theorem ct_X8_104 : Cond.constant RX8 104 (-1000000003) ∈ GT := GT_t 873 (by decide +kernel) rfl
theorem ct_X8_112 : Cond.constant RX8 112 (-1000000005) ∈ GT := GT_t 878 (by decide +kernel) rfl
theorem ct_X8_203 : Cond.constant RX8 203 (-1000000007) ∈ GT := GT_t 1043 (by decide +kernel) rfl
theorem ct_X8_204 : Cond.constant RX8 204 (-1000000006) ∈ GT := GT_t 1052 (by decide +kernel) rfl
theorem ct_L_138 : Cond.constantLong RL 138 (4294967295) ∈ GT := GT_t 1112 (by decide +kernel) rfl
abbrev mX7_init : gY := (yX7_init, cX7_init, 2, none)
theorem kc_X7_init : KC mX7_init 0 := ⟨GT_t 1 (by decide +kernel) rfl, GT_t 21 (by decide +kernel) rfl, by decide +kernel, by decide⟩
abbrev mX1_init : gY := (yX1_init, cX1_init, 2, none)
theorem kc_X1_init : KC mX1_init 0 := ⟨GT_t 2 (by decide +kernel) rfl, GT_t 29 (by decide +kernel) rfl, by decide +kernel, by decide⟩
abbrev mX5_init : gY := (yX5_init, cX5_init, 1, none)
theorem kc_X5_init : KC mX5_init 0 := ⟨GT_t 3 (by decide +kernel) rfl, GT_t 36 (by decide +kernel) rfl, by decide +kernel, by decide⟩
abbrev mX6_init : gY := (yX6_init, cX6_init, 1, none)
theorem kc_X6_init : KC mX6_init 0 := ⟨GT_t 4 (by decide +kernel) rfl, GT_t 93 (by decide +kernel) rfl, by decide +kernel, by decide⟩
abbrev mX0_init : gY := (yX0_init, cX0_init, 1, none)
theorem kc_X0_init : KC mX0_init 0 := ⟨GT_t 5 (by decide +kernel) rfl, GT_t 107 (by decide +kernel) rfl, by decide +kernel, by decide⟩
abbrev mX3_init : gY := (yX3_init, cX3_init, 1, none)
theorem kc_X3_init : KC mX3_init 0 := ⟨GT_t 6 (by decide +kernel) rfl, GT_t 121 (by decide +kernel) rfl, by decide +kernel, by decide⟩
abbrev mX4_init : gY := (yX4_init, cX4_init, 2, none)
theorem kc_X4_init : KC mX4_init 1 := ⟨GT_t 7 (by decide +kernel) rfl, GT_t 146 (by decide +kernel) rfl, by decide +kernel, by decide⟩
abbrev mX2_init : gY := (yX2_init, cX2_init, 1, none)
theorem kc_X2_init : KC mX2_init 0 := ⟨GT_t 8 (by decide +kernel) rfl, GT_t 157 (by decide +kernel) rfl, by decide +kernel, by decide⟩
abbrev mX7_rota : gY := (yX7_rota, cX7_rota, 4, (some .int))
theorem kc_X7_rota : KC mX7_rota 2 := ⟨GT_t 1 (by decide +kernel) rfl, GT_t 213 (by decide +kernel) rfl, by decide +kernel, by decide⟩
abbrev mX7_within : gY := (yX7_within, cX7_within, 2, (some .boolean))
theorem kc_X7_within : KC mX7_within 2 := ⟨GT_t 1 (by decide +kernel) rfl, GT_t 216 (by decide +kernel) rfl, by decide +kernel, by decide⟩
abbrev mX7_finding : gY := (yX7_finding, cX7_finding, 3, (some .int))
theorem kc_X7_finding : KC mX7_finding 1 := ⟨GT_t 1 (by decide +kernel) rfl, GT_t 221 (by decide +kernel) rfl, by decide +kernel, by decide⟩
abbrev mX7_rotaOf : gY := (yX7_rotaOf, cX7_rotaOf, 2, (some .int))
theorem kc_X7_rotaOf : KC mX7_rotaOf 1 := ⟨GT_t 1 (by decide +kernel) rfl, GT_t 225 (by decide +kernel) rfl, by decide +kernel, by decide⟩
abbrev mX7_sick : gY := (yX7_sick, cX7_sick, 4, (some .int))
theorem kc_X7_sick : KC mX7_sick 2 := ⟨GT_t 1 (by decide +kernel) rfl, GT_t 229 (by decide +kernel) rfl, by decide +kernel, by decide⟩
abbrev mX1_isSick : gY := (yX1_isSick, cX1_isSick, 2, (some .boolean))
theorem kc_X1_isSick : KC mX1_isSick 1 := ⟨GT_t 2 (by decide +kernel) rfl, GT_t 233 (by decide +kernel) rfl, by decide +kernel, by decide⟩
abbrev mX1_makeSick : gY := (yX1_makeSick, cX1_makeSick, 3, none)
theorem kc_X1_makeSick : KC mX1_makeSick 2 := ⟨GT_t 2 (by decide +kernel) rfl, GT_t 237 (by decide +kernel) rfl, by decide +kernel, by decide⟩
abbrev mX7_force : gY := (yX7_force, cX7_force, 3, (some .int))
theorem kc_X7_force : KC mX7_force 1 := ⟨GT_t 1 (by decide +kernel) rfl, GT_t 241 (by decide +kernel) rfl, by decide +kernel, by decide⟩
abbrev mX7_blows : gY := (yX7_blows, cX7_blows, 2, (some .int))
theorem kc_X7_blows : KC mX7_blows 1 := ⟨GT_t 1 (by decide +kernel) rfl, GT_t 245 (by decide +kernel) rfl, by decide +kernel, by decide⟩
abbrev mX1_windOn : gY := (yX1_windOn, cX1_windOn, 5, (some .int))
theorem kc_X1_windOn : KC mX1_windOn 1 := ⟨GT_t 2 (by decide +kernel) rfl, GT_t 249 (by decide +kernel) rfl, by decide +kernel, by decide⟩
abbrev mJ9_floorMod_7cf53 : gY := (yJ9_floorMod_7cf53, cJ9_floorMod_7cf53, 3, (some .int))
theorem kc_J9_floorMod_7cf53 : KC mJ9_floorMod_7cf53 2 := ⟨GT_t 10 (by decide +kernel) rfl, GT_t 252 (by decide +kernel) rfl, by decide +kernel, by decide⟩
abbrev mX7_lee : gY := (yX7_lee, cX7_lee, 4, (some .int))
theorem kc_X7_lee : KC mX7_lee 2 := ⟨GT_t 1 (by decide +kernel) rfl, GT_t 257 (by decide +kernel) rfl, by decide +kernel, by decide⟩
abbrev mX7_cellBehind : gY := (yX7_cellBehind, cX7_cellBehind, 4, (some .int))
theorem kc_X7_cellBehind : KC mX7_cellBehind 2 := ⟨GT_t 1 (by decide +kernel) rfl, GT_t 260 (by decide +kernel) rfl, by decide +kernel, by decide⟩
abbrev mX7_thing : gY := (yX7_thing, cX7_thing, 3, (some .int))
theorem kc_X7_thing : KC mX7_thing 2 := ⟨GT_t 1 (by decide +kernel) rfl, GT_t 269 (by decide +kernel) rfl, by decide +kernel, by decide⟩
abbrev mX1_isFull : gY := (yX1_isFull, cX1_isFull, 1, (some .boolean))
theorem kc_X1_isFull : KC mX1_isFull 0 := ⟨GT_t 2 (by decide +kernel) rfl, GT_t 273 (by decide +kernel) rfl, by decide +kernel, by decide⟩
abbrev mX1_add : gY := (yX1_add, cX1_add, 5, none)
theorem kc_X1_add : KC mX1_add 3 := ⟨GT_t 2 (by decide +kernel) rfl, GT_t 278 (by decide +kernel) rfl, by decide +kernel, by decide⟩
abbrev mX7_of : gY := (yX7_of, cX7_of, 5, (some .int))
theorem kc_X7_of : KC mX7_of 2 := ⟨GT_t 1 (by decide +kernel) rfl, GT_t 283 (by decide +kernel) rfl, by decide +kernel, by decide⟩
abbrev mX1_has : gY := (yX1_has, cX1_has, 2, (some .boolean))
theorem kc_X1_has : KC mX1_has 1 := ⟨GT_t 2 (by decide +kernel) rfl, GT_t 287 (by decide +kernel) rfl, by decide +kernel, by decide⟩
abbrev mX5_earnings : gY := (yX5_earnings, cX5_earnings, 7, (some .int))
theorem kc_X5_earnings : KC mX5_earnings 3 := ⟨GT_t 3 (by decide +kernel) rfl, GT_t 291 (by decide +kernel) rfl, by decide +kernel, by decide⟩
abbrev mX5_off : gY := (yX5_off, cX5_off, 2, (some .int))
theorem kc_X5_off : KC mX5_off 1 := ⟨GT_t 3 (by decide +kernel) rfl, GT_t 295 (by decide +kernel) rfl, by decide +kernel, by decide⟩
abbrev mX5_isGoing : gY := (yX5_isGoing, cX5_isGoing, 3, (some .boolean))
theorem kc_X5_isGoing : KC mX5_isGoing 2 := ⟨GT_t 3 (by decide +kernel) rfl, GT_t 304 (by decide +kernel) rfl, by decide +kernel, by decide⟩
abbrev mX7_set : gY := (yX7_set, cX7_set, 6, (some .int))
theorem kc_X7_set : KC mX7_set 3 := ⟨GT_t 1 (by decide +kernel) rfl, GT_t 310 (by decide +kernel) rfl, by decide +kernel, by decide⟩
abbrev mX7_mostOf : gY := (yX7_mostOf, cX7_mostOf, 1, (some .int))
theorem kc_X7_mostOf : KC mX7_mostOf 1 := ⟨GT_t 1 (by decide +kernel) rfl, GT_t 313 (by decide +kernel) rfl, by decide +kernel, by decide⟩
abbrev mX7_turn : gY := (yX7_turn, cX7_turn, 5, (some .int))
theorem kc_X7_turn : KC mX7_turn 2 := ⟨GT_t 1 (by decide +kernel) rfl, GT_t 318 (by decide +kernel) rfl, by decide +kernel, by decide⟩
abbrev mX7_as : gY := (yX7_as, cX7_as, 4, (some .int))
theorem kc_X7_as : KC mX7_as 2 := ⟨GT_t 1 (by decide +kernel) rfl, GT_t 322 (by decide +kernel) rfl, by decide +kernel, by decide⟩
abbrev mX7_isUnder : gY := (yX7_isUnder, cX7_isUnder, 2, (some .boolean))
theorem kc_X7_isUnder : KC mX7_isUnder 2 := ⟨GT_t 1 (by decide +kernel) rfl, GT_t 325 (by decide +kernel) rfl, by decide +kernel, by decide⟩
abbrev mX7_kindAbove : gY := (yX7_kindAbove, cX7_kindAbove, 1, (some .int))
theorem kc_X7_kindAbove : KC mX7_kindAbove 1 := ⟨GT_t 1 (by decide +kernel) rfl, GT_t 328 (by decide +kernel) rfl, by decide +kernel, by decide⟩
abbrev mX7_days : gY := (yX7_days, cX7_days, 2, (some .int))
theorem kc_X7_days : KC mX7_days 1 := ⟨GT_t 1 (by decide +kernel) rfl, GT_t 333 (by decide +kernel) rfl, by decide +kernel, by decide⟩
abbrev mX7_isSpan : gY := (yX7_isSpan, cX7_isSpan, 2, (some .boolean))
theorem kc_X7_isSpan : KC mX7_isSpan 2 := ⟨GT_t 1 (by decide +kernel) rfl, GT_t 336 (by decide +kernel) rfl, by decide +kernel, by decide⟩
abbrev mX1_gainIn : gY := (yX1_gainIn, cX1_gainIn, 4, (some .int))
theorem kc_X1_gainIn : KC mX1_gainIn 1 := ⟨GT_t 2 (by decide +kernel) rfl, GT_t 341 (by decide +kernel) rfl, by decide +kernel, by decide⟩
abbrev mX1_sums : gY := (yX1_sums, cX1_sums, 3, (some .int))
theorem kc_X1_sums : KC mX1_sums 0 := ⟨GT_t 2 (by decide +kernel) rfl, GT_t 345 (by decide +kernel) rfl, by decide +kernel, by decide⟩
abbrev mX1_goDay : gY := (yX1_goDay, cX1_goDay, 3, none)
theorem kc_X1_goDay : KC mX1_goDay 1 := ⟨GT_t 2 (by decide +kernel) rfl, GT_t 350 (by decide +kernel) rfl, by decide +kernel, by decide⟩
abbrev mX5_goDay : gY := (yX5_goDay, cX5_goDay, 4, none)
theorem kc_X5_goDay : KC mX5_goDay 3 := ⟨GT_t 3 (by decide +kernel) rfl, GT_t 354 (by decide +kernel) rfl, by decide +kernel, by decide⟩
abbrev mX5_cellAfter : gY := (yX5_cellAfter, cX5_cellAfter, 5, (some .int))
theorem kc_X5_cellAfter : KC mX5_cellAfter 3 := ⟨GT_t 3 (by decide +kernel) rfl, GT_t 363 (by decide +kernel) rfl, by decide +kernel, by decide⟩
abbrev mX7_bribe : gY := (yX7_bribe, cX7_bribe, 2, (some .int))
theorem kc_X7_bribe : KC mX7_bribe 1 := ⟨GT_t 1 (by decide +kernel) rfl, GT_t 369 (by decide +kernel) rfl, by decide +kernel, by decide⟩
abbrev mX7_now : gY := (yX7_now, cX7_now, 2, (some .int))
theorem kc_X7_now : KC mX7_now 1 := ⟨GT_t 1 (by decide +kernel) rfl, GT_t 374 (by decide +kernel) rfl, by decide +kernel, by decide⟩
abbrev mX1_earningsToday : gY := (yX1_earningsToday, cX1_earningsToday, 4, (some .int))
theorem kc_X1_earningsToday : KC mX1_earningsToday 0 := ⟨GT_t 2 (by decide +kernel) rfl, GT_t 378 (by decide +kernel) rfl, by decide +kernel, by decide⟩
abbrev mX1_goingToday : gY := (yX1_goingToday, cX1_goingToday, 4, (some .int))
theorem kc_X1_goingToday : KC mX1_goingToday 0 := ⟨GT_t 2 (by decide +kernel) rfl, GT_t 383 (by decide +kernel) rfl, by decide +kernel, by decide⟩
abbrev mX7_on : gY := (yX7_on, cX7_on, 5, (some .int))
theorem kc_X7_on : KC mX7_on 3 := ⟨GT_t 1 (by decide +kernel) rfl, GT_t 388 (by decide +kernel) rfl, by decide +kernel, by decide⟩
abbrev mX5_become : gY := (yX5_become, cX5_become, 2, none)
theorem kc_X5_become : KC mX5_become 1 := ⟨GT_t 3 (by decide +kernel) rfl, GT_t 392 (by decide +kernel) rfl, by decide +kernel, by decide⟩
abbrev mX1_carry : gY := (yX1_carry, cX1_carry, 4, none)
theorem kc_X1_carry : KC mX1_carry 2 := ⟨GT_t 2 (by decide +kernel) rfl, GT_t 396 (by decide +kernel) rfl, by decide +kernel, by decide⟩
abbrev mX7_comes : gY := (yX7_comes, cX7_comes, 4, (some .int))
theorem kc_X7_comes : KC mX7_comes 2 := ⟨GT_t 1 (by decide +kernel) rfl, GT_t 400 (by decide +kernel) rfl, by decide +kernel, by decide⟩
abbrev mX7_meet : gY := (yX7_meet, cX7_meet, 4, (some .int))
theorem kc_X7_meet : KC mX7_meet 2 := ⟨GT_t 1 (by decide +kernel) rfl, GT_t 404 (by decide +kernel) rfl, by decide +kernel, by decide⟩
abbrev mX7_bribes : gY := (yX7_bribes, cX7_bribes, 7, (some .int))
theorem kc_X7_bribes : KC mX7_bribes 3 := ⟨GT_t 1 (by decide +kernel) rfl, GT_t 408 (by decide +kernel) rfl, by decide +kernel, by decide⟩
abbrev mX6_begin : gY := (yX6_begin, cX6_begin, 3, none)
theorem kc_X6_begin : KC mX6_begin 1 := ⟨GT_t 4 (by decide +kernel) rfl, GT_t 412 (by decide +kernel) rfl, by decide +kernel, by decide⟩
abbrev mX6_goDay : gY := (yX6_goDay, cX6_goDay, 6, none)
theorem kc_X6_goDay : KC mX6_goDay 3 := ⟨GT_t 4 (by decide +kernel) rfl, GT_t 416 (by decide +kernel) rfl, by decide +kernel, by decide⟩
abbrev mX6_lower : gY := (yX6_lower, cX6_lower, 3, none)
theorem kc_X6_lower : KC mX6_lower 2 := ⟨GT_t 4 (by decide +kernel) rfl, GT_t 421 (by decide +kernel) rfl, by decide +kernel, by decide⟩
abbrev mX7_soonest : gY := (yX7_soonest, cX7_soonest, 6, (some .int))
theorem kc_X7_soonest : KC mX7_soonest 3 := ⟨GT_t 1 (by decide +kernel) rfl, GT_t 430 (by decide +kernel) rfl, by decide +kernel, by decide⟩
abbrev mX7_reach : gY := (yX7_reach, cX7_reach, 5, (some .long))
theorem kc_X7_reach : KC mX7_reach 2 := ⟨GT_t 1 (by decide +kernel) rfl, GT_t 434 (by decide +kernel) rfl, by decide +kernel, by decide⟩
abbrev mX6_reached : gY := (yX6_reached, cX6_reached, 4, (some .long))
theorem kc_X6_reached : KC mX6_reached 0 := ⟨GT_t 4 (by decide +kernel) rfl, GT_t 438 (by decide +kernel) rfl, by decide +kernel, by decide⟩
abbrev mX7_swap : gY := (yX7_swap, cX7_swap, 4, (some .int))
theorem kc_X7_swap : KC mX7_swap 1 := ⟨GT_t 1 (by decide +kernel) rfl, GT_t 442 (by decide +kernel) rfl, by decide +kernel, by decide⟩
abbrev mX1_become : gY := (yX1_become, cX1_become, 3, none)
theorem kc_X1_become : KC mX1_become 1 := ⟨GT_t 2 (by decide +kernel) rfl, GT_t 446 (by decide +kernel) rfl, by decide +kernel, by decide⟩
abbrev mX0_begin : gY := (yX0_begin, cX0_begin, 2, none)
theorem kc_X0_begin : KC mX0_begin 1 := ⟨GT_t 5 (by decide +kernel) rfl, GT_t 452 (by decide +kernel) rfl, by decide +kernel, by decide⟩
abbrev mX0_weigh : gY := (yX0_weigh, cX0_weigh, 3, none)
theorem kc_X0_weigh : KC mX0_weigh 2 := ⟨GT_t 5 (by decide +kernel) rfl, GT_t 456 (by decide +kernel) rfl, by decide +kernel, by decide⟩
abbrev mX7_missed : gY := (yX7_missed, cX7_missed, 3, (some .int))
theorem kc_X7_missed : KC mX7_missed 1 := ⟨GT_t 1 (by decide +kernel) rfl, GT_t 460 (by decide +kernel) rfl, by decide +kernel, by decide⟩
abbrev mX7_enough : gY := (yX7_enough, cX7_enough, 4, (some .int))
theorem kc_X7_enough : KC mX7_enough 2 := ⟨GT_t 1 (by decide +kernel) rfl, GT_t 465 (by decide +kernel) rfl, by decide +kernel, by decide⟩
abbrev mX7_kind : gY := (yX7_kind, cX7_kind, 4, (some .int))
theorem kc_X7_kind : KC mX7_kind 2 := ⟨GT_t 1 (by decide +kernel) rfl, GT_t 469 (by decide +kernel) rfl, by decide +kernel, by decide⟩
abbrev mX7_facing : gY := (yX7_facing, cX7_facing, 4, (some .int))
theorem kc_X7_facing : KC mX7_facing 2 := ⟨GT_t 1 (by decide +kernel) rfl, GT_t 473 (by decide +kernel) rfl, by decide +kernel, by decide⟩
abbrev mX7_best : gY := (yX7_best, cX7_best, 4, (some .int))
theorem kc_X7_best : KC mX7_best 2 := ⟨GT_t 1 (by decide +kernel) rfl, GT_t 477 (by decide +kernel) rfl, by decide +kernel, by decide⟩
abbrev mX7_feed : gY := (yX7_feed, cX7_feed, 4, (some .int))
theorem kc_X7_feed : KC mX7_feed 2 := ⟨GT_t 1 (by decide +kernel) rfl, GT_t 481 (by decide +kernel) rfl, by decide +kernel, by decide⟩
abbrev mX3_put : gY := (yX3_put, cX3_put, 2, none)
theorem kc_X3_put : KC mX3_put 1 := ⟨GT_t 6 (by decide +kernel) rfl, GT_t 485 (by decide +kernel) rfl, by decide +kernel, by decide⟩
abbrev mX7_wipe : gY := (yX7_wipe, cX7_wipe, 2, (some .int))
theorem kc_X7_wipe : KC mX7_wipe 0 := ⟨GT_t 1 (by decide +kernel) rfl, GT_t 489 (by decide +kernel) rfl, by decide +kernel, by decide⟩
abbrev mX7_sea : gY := (yX7_sea, cX7_sea, 2, (some .int))
theorem kc_X7_sea : KC mX7_sea 0 := ⟨GT_t 1 (by decide +kernel) rfl, GT_t 493 (by decide +kernel) rfl, by decide +kernel, by decide⟩
abbrev mX4_tell : gY := (yX4_tell, cX4_tell, 3, (some .int))
theorem kc_X4_tell : KC mX4_tell 1 := ⟨GT_t 7 (by decide +kernel) rfl, GT_t 497 (by decide +kernel) rfl, by decide +kernel, by decide⟩
abbrev mX3_begin : gY := (yX3_begin, cX3_begin, 1, none)
theorem kc_X3_begin : KC mX3_begin 0 := ⟨GT_t 6 (by decide +kernel) rfl, GT_t 501 (by decide +kernel) rfl, by decide +kernel, by decide⟩
abbrev mX3_nextToken : gY := (yX3_nextToken, cX3_nextToken, 1, none)
theorem kc_X3_nextToken : KC mX3_nextToken 0 := ⟨GT_t 6 (by decide +kernel) rfl, GT_t 505 (by decide +kernel) rfl, by decide +kernel, by decide⟩
abbrev mX3_tokenOf : gY := (yX3_tokenOf, cX3_tokenOf, 1, (some .int))
theorem kc_X3_tokenOf : KC mX3_tokenOf 1 := ⟨GT_t 6 (by decide +kernel) rfl, GT_t 508 (by decide +kernel) rfl, by decide +kernel, by decide⟩
abbrev mX4_tellItem : gY := (yX4_tellItem, cX4_tellItem, 3, (some .boolean))
theorem kc_X4_tellItem : KC mX4_tellItem 1 := ⟨GT_t 7 (by decide +kernel) rfl, GT_t 512 (by decide +kernel) rfl, by decide +kernel, by decide⟩
abbrev mX4_kindNamed : gY := (yX4_kindNamed, cX4_kindNamed, 2, (some .int))
theorem kc_X4_kindNamed : KC mX4_kindNamed 0 := ⟨GT_t 7 (by decide +kernel) rfl, GT_t 516 (by decide +kernel) rfl, by decide +kernel, by decide⟩
abbrev mX4_nameOf : gY := (yX4_nameOf, cX4_nameOf, 1, (some (.object "java/lang/String")))
theorem kc_X4_nameOf : KC mX4_nameOf 1 := ⟨GT_t 7 (by decide +kernel) rfl, GT_t 519 (by decide +kernel) rfl, by decide +kernel, by decide⟩
abbrev mX3_isWord : gY := (yX3_isWord, cX3_isWord, 3, (some .boolean))
theorem kc_X3_isWord : KC mX3_isWord 1 := ⟨GT_t 6 (by decide +kernel) rfl, GT_t 529 (by decide +kernel) rfl, by decide +kernel, by decide⟩
abbrev mJ0_length_8abf5 : gY := (yJ0_length_8abf5, cJ0_length_8abf5, 1, (some .int))
theorem kc_J0_length_8abf5 : KC mJ0_length_8abf5 0 := ⟨GT_t 12 (by decide +kernel) rfl, GT_t 533 (by decide +kernel) rfl, by decide +kernel, by decide⟩
abbrev mJ0_coder_7d493 : gY := (yJ0_coder_7d493, cJ0_coder_7d493, 1, (some .byte))
theorem kc_J0_coder_7d493 : KC mJ0_coder_7d493 0 := ⟨GT_t 12 (by decide +kernel) rfl, GT_t 537 (by decide +kernel) rfl, by decide +kernel, by decide⟩
abbrev mJ0_charAt_5068e : gY := (yJ0_charAt_5068e, cJ0_charAt_5068e, 2, (some .char))
theorem kc_J0_charAt_5068e : KC mJ0_charAt_5068e 1 := ⟨GT_t 12 (by decide +kernel) rfl, GT_t 543 (by decide +kernel) rfl, by decide +kernel, by decide⟩
abbrev mJ0_isLatin1_aae02 : gY := (yJ0_isLatin1_aae02, cJ0_isLatin1_aae02, 1, (some .boolean))
theorem kc_J0_isLatin1_aae02 : KC mJ0_isLatin1_aae02 0 := ⟨GT_t 12 (by decide +kernel) rfl, GT_t 547 (by decide +kernel) rfl, by decide +kernel, by decide⟩
abbrev mJ1_charAt_3b067 : gY := (yJ1_charAt_3b067, cJ1_charAt_3b067, 2, (some .char))
theorem kc_J1_charAt_3b067 : KC mJ1_charAt_3b067 2 := ⟨GT_t 13 (by decide +kernel) rfl, GT_t 550 (by decide +kernel) rfl, by decide +kernel, by decide⟩
abbrev mJ0_checkIndex_df160 : gY := (yJ0_checkIndex_df160, cJ0_checkIndex_df160, 2, none)
theorem kc_J0_checkIndex_df160 : KC mJ0_checkIndex_df160 2 := ⟨GT_t 12 (by decide +kernel) rfl, GT_t 553 (by decide +kernel) rfl, by decide +kernel, by decide⟩
abbrev mJ3_checkIndex_8e157 : gY := (yJ3_checkIndex_8e157, cJ3_checkIndex_8e157, 3, (some .int))
theorem kc_J3_checkIndex_8e157 : KC mJ3_checkIndex_8e157 3 := ⟨GT_t 14 (by decide +kernel) rfl, GT_t 558 (by decide +kernel) rfl, by decide +kernel, by decide⟩
abbrev mJ2_charAt_3b067 : gY := (yJ2_charAt_3b067, cJ2_charAt_3b067, 2, (some .char))
theorem kc_J2_charAt_3b067 : KC mJ2_charAt_3b067 2 := ⟨GT_t 15 (by decide +kernel) rfl, GT_t 561 (by decide +kernel) rfl, by decide +kernel, by decide⟩
abbrev mJ2_checkIndex_2214a : gY := (yJ2_checkIndex_2214a, cJ2_checkIndex_2214a, 2, none)
theorem kc_J2_checkIndex_2214a : KC mJ2_checkIndex_2214a 2 := ⟨GT_t 15 (by decide +kernel) rfl, GT_t 564 (by decide +kernel) rfl, by decide +kernel, by decide⟩
abbrev mJ2_length_9d52b : gY := (yJ2_length_9d52b, cJ2_length_9d52b, 1, (some .int))
theorem kc_J2_length_9d52b : KC mJ2_length_9d52b 1 := ⟨GT_t 15 (by decide +kernel) rfl, GT_t 567 (by decide +kernel) rfl, by decide +kernel, by decide⟩
abbrev mJ2_getChar_3b067 : gY := (yJ2_getChar_3b067, cJ2_getChar_3b067, 2, (some .char))
theorem kc_J2_getChar_3b067 : KC mJ2_getChar_3b067 2 := ⟨GT_t 15 (by decide +kernel) rfl, GT_t 571 (by decide +kernel) rfl, by decide +kernel, by decide⟩
abbrev mX4_tellThing : gY := (yX4_tellThing, cX4_tellThing, 5, (some .boolean))
theorem kc_X4_tellThing : KC mX4_tellThing 2 := ⟨GT_t 7 (by decide +kernel) rfl, GT_t 581 (by decide +kernel) rfl, by decide +kernel, by decide⟩
abbrev mX4_takesWord : gY := (yX4_takesWord, cX4_takesWord, 2, (some .boolean))
theorem kc_X4_takesWord : KC mX4_takesWord 1 := ⟨GT_t 7 (by decide +kernel) rfl, GT_t 588 (by decide +kernel) rfl, by decide +kernel, by decide⟩
abbrev mX4_takenNumber : gY := (yX4_takenNumber, cX4_takenNumber, 3, (some .int))
theorem kc_X4_takenNumber : KC mX4_takenNumber 1 := ⟨GT_t 7 (by decide +kernel) rfl, GT_t 592 (by decide +kernel) rfl, by decide +kernel, by decide⟩
abbrev mX3_number : gY := (yX3_number, cX3_number, 3, (some .int))
theorem kc_X3_number : KC mX3_number 0 := ⟨GT_t 6 (by decide +kernel) rfl, GT_t 596 (by decide +kernel) rfl, by decide +kernel, by decide⟩
abbrev mX4_tellRota : gY := (yX4_tellRota, cX4_tellRota, 4, (some .boolean))
theorem kc_X4_tellRota : KC mX4_tellRota 1 := ⟨GT_t 7 (by decide +kernel) rfl, GT_t 604 (by decide +kernel) rfl, by decide +kernel, by decide⟩
abbrev mX4_tellHealth : gY := (yX4_tellHealth, cX4_tellHealth, 4, (some .boolean))
theorem kc_X4_tellHealth : KC mX4_tellHealth 2 := ⟨GT_t 7 (by decide +kernel) rfl, GT_t 609 (by decide +kernel) rfl, by decide +kernel, by decide⟩
abbrev mX4_tellForce : gY := (yX4_tellForce, cX4_tellForce, 3, (some .boolean))
theorem kc_X4_tellForce : KC mX4_tellForce 1 := ⟨GT_t 7 (by decide +kernel) rfl, GT_t 616 (by decide +kernel) rfl, by decide +kernel, by decide⟩
abbrev mX7_sheet : gY := (yX7_sheet, cX7_sheet, 4, (some .int))
theorem kc_X7_sheet : KC mX7_sheet 3 := ⟨GT_t 1 (by decide +kernel) rfl, GT_t 621 (by decide +kernel) rfl, by decide +kernel, by decide⟩
abbrev mX2_begin : gY := (yX2_begin, cX2_begin, 4, none)
theorem kc_X2_begin : KC mX2_begin 2 := ⟨GT_t 8 (by decide +kernel) rfl, GT_t 626 (by decide +kernel) rfl, by decide +kernel, by decide⟩
abbrev mX7_write : gY := (yX7_write, cX7_write, 8, (some .long))
theorem kc_X7_write : KC mX7_write 3 := ⟨GT_t 1 (by decide +kernel) rfl, GT_t 630 (by decide +kernel) rfl, by decide +kernel, by decide⟩
abbrev mX2_isMissing : gY := (yX2_isMissing, cX2_isMissing, 1, (some .boolean))
theorem kc_X2_isMissing : KC mX2_isMissing 0 := ⟨GT_t 8 (by decide +kernel) rfl, GT_t 634 (by decide +kernel) rfl, by decide +kernel, by decide⟩
abbrev mX2_put : gY := (yX2_put, cX2_put, 4, none)
theorem kc_X2_put : KC mX2_put 2 := ⟨GT_t 8 (by decide +kernel) rfl, GT_t 639 (by decide +kernel) rfl, by decide +kernel, by decide⟩
abbrev mX2_lowest : gY := (yX2_lowest, cX2_lowest, 3, (some .long))
theorem kc_X2_lowest : KC mX2_lowest 1 := ⟨GT_t 8 (by decide +kernel) rfl, GT_t 643 (by decide +kernel) rfl, by decide +kernel, by decide⟩
abbrev mX7_copy : gY := (yX7_copy, cX7_copy, 8, (some .int))
theorem kc_X7_copy : KC mX7_copy 5 := ⟨GT_t 1 (by decide +kernel) rfl, GT_t 647 (by decide +kernel) rfl, by decide +kernel, by decide⟩
abbrev mX2_spans : gY := (yX2_spans, cX2_spans, 3, (some .boolean))
theorem kc_X2_spans : KC mX2_spans 2 := ⟨GT_t 8 (by decide +kernel) rfl, GT_t 651 (by decide +kernel) rfl, by decide +kernel, by decide⟩
abbrev mX7_lays : gY := (yX7_lays, cX7_lays, 7, (some .int))
theorem kc_X7_lays : KC mX7_lays 1 := ⟨GT_t 1 (by decide +kernel) rfl, GT_t 656 (by decide +kernel) rfl, by decide +kernel, by decide⟩
abbrev mX7_book : gY := (yX7_book, cX7_book, 6, (some .int))
theorem kc_X7_book : KC mX7_book 2 := ⟨GT_t 1 (by decide +kernel) rfl, GT_t 661 (by decide +kernel) rfl, by decide +kernel, by decide⟩
abbrev mX7_sheetFinding : gY := (yX7_sheetFinding, cX7_sheetFinding, 3, (some .int))
theorem kc_X7_sheetFinding : KC mX7_sheetFinding 2 := ⟨GT_t 1 (by decide +kernel) rfl, GT_t 665 (by decide +kernel) rfl, by decide +kernel, by decide⟩
abbrev mX7_read : gY := (yX7_read, cX7_read, 7, (some .int))
theorem kc_X7_read : KC mX7_read 2 := ⟨GT_t 1 (by decide +kernel) rfl, GT_t 669 (by decide +kernel) rfl, by decide +kernel, by decide⟩
abbrev mX7_walkerMakes : gY := (yX7_walkerMakes, cX7_walkerMakes, 3, (some .boolean))
theorem kc_X7_walkerMakes : KC mX7_walkerMakes 1 := ⟨GT_t 1 (by decide +kernel) rfl, GT_t 673 (by decide +kernel) rfl, by decide +kernel, by decide⟩
abbrev mX7_image : gY := (yX7_image, cX7_image, 1, (some .int))
theorem kc_X7_image : KC mX7_image 0 := ⟨GT_t 1 (by decide +kernel) rfl, GT_t 677 (by decide +kernel) rfl, by decide +kernel, by decide⟩
abbrev mX7_undo : gY := (yX7_undo, cX7_undo, 1, (some .int))
theorem kc_X7_undo : KC mX7_undo 0 := ⟨GT_t 1 (by decide +kernel) rfl, GT_t 681 (by decide +kernel) rfl, by decide +kernel, by decide⟩
abbrev mX7_tear : gY := (yX7_tear, cX7_tear, 2, (some .int))
theorem kc_X7_tear : KC mX7_tear 0 := ⟨GT_t 1 (by decide +kernel) rfl, GT_t 685 (by decide +kernel) rfl, by decide +kernel, by decide⟩
abbrev mX7_count : gY := (yX7_count, cX7_count, 2, (some .int))
theorem kc_X7_count : KC mX7_count 1 := ⟨GT_t 1 (by decide +kernel) rfl, GT_t 689 (by decide +kernel) rfl, by decide +kernel, by decide⟩
abbrev mJ6_bitCount_0f7a4 : gY := (yJ6_bitCount_0f7a4, cJ6_bitCount_0f7a4, 1, (some .int))
theorem kc_J6_bitCount_0f7a4 : KC mJ6_bitCount_0f7a4 1 := ⟨GT_t 16 (by decide +kernel) rfl, GT_t 692 (by decide +kernel) rfl, by decide +kernel, by decide⟩
abbrev mX1_calms : gY := (yX1_calms, cX1_calms, 3, (some .int))
theorem kc_X1_calms : KC mX1_calms 0 := ⟨GT_t 2 (by decide +kernel) rfl, GT_t 699 (by decide +kernel) rfl, by decide +kernel, by decide⟩
abbrev mX7_status : gY := (yX7_status, cX7_status, 4, (some .int))
theorem kc_X7_status : KC mX7_status 1 := ⟨GT_t 1 (by decide +kernel) rfl, GT_t 703 (by decide +kernel) rfl, by decide +kernel, by decide⟩
abbrev mX8_init : gY := (yX8_init, cX8_init, 2, none)
theorem kc_X8_init : KC mX8_init 0 := ⟨GT_t 9 (by decide +kernel) rfl, GT_t 708 (by decide +kernel) rfl, by decide +kernel, by decide⟩
abbrev mX8_rota : gY := (yX8_rota, cX8_rota, 3, (some .int))
theorem kc_X8_rota : KC mX8_rota 2 := ⟨GT_t 9 (by decide +kernel) rfl, GT_t 765 (by decide +kernel) rfl, by decide +kernel, by decide⟩
abbrev mX8_in : gY := (yX8_in, cX8_in, 4, (some .boolean))
theorem kc_X8_in : KC mX8_in 3 := ⟨GT_t 9 (by decide +kernel) rfl, GT_t 768 (by decide +kernel) rfl, by decide +kernel, by decide⟩
abbrev mX8_becomes : gY := (yX8_becomes, cX8_becomes, 4, (some .int))
theorem kc_X8_becomes : KC mX8_becomes 2 := ⟨GT_t 9 (by decide +kernel) rfl, GT_t 772 (by decide +kernel) rfl, by decide +kernel, by decide⟩
abbrev mX8_finds : gY := (yX8_finds, cX8_finds, 2, (some .int))
theorem kc_X8_finds : KC mX8_finds 1 := ⟨GT_t 9 (by decide +kernel) rfl, GT_t 777 (by decide +kernel) rfl, by decide +kernel, by decide⟩
abbrev mX8_rotaOf : gY := (yX8_rotaOf, cX8_rotaOf, 2, (some .int))
theorem kc_X8_rotaOf : KC mX8_rotaOf 1 := ⟨GT_t 9 (by decide +kernel) rfl, GT_t 781 (by decide +kernel) rfl, by decide +kernel, by decide⟩
abbrev mX8_sick : gY := (yX8_sick, cX8_sick, 4, (some .int))
theorem kc_X8_sick : KC mX8_sick 2 := ⟨GT_t 9 (by decide +kernel) rfl, GT_t 785 (by decide +kernel) rfl, by decide +kernel, by decide⟩
abbrev mX8_isWind : gY := (yX8_isWind, cX8_isWind, 1, (some .boolean))
theorem kc_X8_isWind : KC mX8_isWind 1 := ⟨GT_t 9 (by decide +kernel) rfl, GT_t 788 (by decide +kernel) rfl, by decide +kernel, by decide⟩
abbrev mX8_ails : gY := (yX8_ails, cX8_ails, 3, none)
theorem kc_X8_ails : KC mX8_ails 2 := ⟨GT_t 9 (by decide +kernel) rfl, GT_t 792 (by decide +kernel) rfl, by decide +kernel, by decide⟩
abbrev mX8_force : gY := (yX8_force, cX8_force, 2, (some .int))
theorem kc_X8_force : KC mX8_force 1 := ⟨GT_t 9 (by decide +kernel) rfl, GT_t 796 (by decide +kernel) rfl, by decide +kernel, by decide⟩
abbrev mX8_blows : gY := (yX8_blows, cX8_blows, 2, (some .int))
theorem kc_X8_blows : KC mX8_blows 1 := ⟨GT_t 9 (by decide +kernel) rfl, GT_t 800 (by decide +kernel) rfl, by decide +kernel, by decide⟩
abbrev mX8_blowing : gY := (yX8_blowing, cX8_blowing, 4, (some .int))
theorem kc_X8_blowing : KC mX8_blowing 1 := ⟨GT_t 9 (by decide +kernel) rfl, GT_t 804 (by decide +kernel) rfl, by decide +kernel, by decide⟩
abbrev mX8_lee : gY := (yX8_lee, cX8_lee, 3, (some .int))
theorem kc_X8_lee : KC mX8_lee 2 := ⟨GT_t 9 (by decide +kernel) rfl, GT_t 808 (by decide +kernel) rfl, by decide +kernel, by decide⟩
abbrev mX8_isCell : gY := (yX8_isCell, cX8_isCell, 1, (some .boolean))
theorem kc_X8_isCell : KC mX8_isCell 1 := ⟨GT_t 9 (by decide +kernel) rfl, GT_t 811 (by decide +kernel) rfl, by decide +kernel, by decide⟩
abbrev mX8_blownTo : gY := (yX8_blownTo, cX8_blownTo, 6, (some .int))
theorem kc_X8_blownTo : KC mX8_blownTo 2 := ⟨GT_t 9 (by decide +kernel) rfl, GT_t 814 (by decide +kernel) rfl, by decide +kernel, by decide⟩
abbrev mX8_orNone : gY := (yX8_orNone, cX8_orNone, 2, (some .int))
theorem kc_X8_orNone : KC mX8_orNone 1 := ⟨GT_t 9 (by decide +kernel) rfl, GT_t 818 (by decide +kernel) rfl, by decide +kernel, by decide⟩
abbrev mX8_thing : gY := (yX8_thing, cX8_thing, 3, (some .int))
theorem kc_X8_thing : KC mX8_thing 2 := ⟨GT_t 9 (by decide +kernel) rfl, GT_t 823 (by decide +kernel) rfl, by decide +kernel, by decide⟩
abbrev mX8_comesAt : gY := (yX8_comesAt, cX8_comesAt, 5, (some .int))
theorem kc_X8_comesAt : KC mX8_comesAt 3 := ⟨GT_t 9 (by decide +kernel) rfl, GT_t 828 (by decide +kernel) rfl, by decide +kernel, by decide⟩
abbrev mX8_put : gY := (yX8_put, cX8_put, 4, none)
theorem kc_X8_put : KC mX8_put 3 := ⟨GT_t 9 (by decide +kernel) rfl, GT_t 832 (by decide +kernel) rfl, by decide +kernel, by decide⟩
abbrev mX8_of : gY := (yX8_of, cX8_of, 4, (some .int))
theorem kc_X8_of : KC mX8_of 2 := ⟨GT_t 9 (by decide +kernel) rfl, GT_t 836 (by decide +kernel) rfl, by decide +kernel, by decide⟩
abbrev mX8_isThing : gY := (yX8_isThing, cX8_isThing, 2, (some .boolean))
theorem kc_X8_isThing : KC mX8_isThing 1 := ⟨GT_t 9 (by decide +kernel) rfl, GT_t 840 (by decide +kernel) rfl, by decide +kernel, by decide⟩
abbrev mX8_it : gY := (yX8_it, cX8_it, 3, (some .int))
theorem kc_X8_it : KC mX8_it 2 := ⟨GT_t 9 (by decide +kernel) rfl, GT_t 844 (by decide +kernel) rfl, by decide +kernel, by decide⟩
abbrev mX8_earns : gY := (yX8_earns, cX8_earns, 6, (some .int))
theorem kc_X8_earns : KC mX8_earns 2 := ⟨GT_t 9 (by decide +kernel) rfl, GT_t 848 (by decide +kernel) rfl, by decide +kernel, by decide⟩
abbrev mX8_off : gY := (yX8_off, cX8_off, 4, (some .int))
theorem kc_X8_off : KC mX8_off 2 := ⟨GT_t 9 (by decide +kernel) rfl, GT_t 852 (by decide +kernel) rfl, by decide +kernel, by decide⟩
abbrev mX8_held : gY := (yX8_held, cX8_held, 3, (some .int))
theorem kc_X8_held : KC mX8_held 3 := ⟨GT_t 9 (by decide +kernel) rfl, GT_t 855 (by decide +kernel) rfl, by decide +kernel, by decide⟩
abbrev mX8_doesGo : gY := (yX8_doesGo, cX8_doesGo, 3, (some .boolean))
theorem kc_X8_doesGo : KC mX8_doesGo 2 := ⟨GT_t 9 (by decide +kernel) rfl, GT_t 859 (by decide +kernel) rfl, by decide +kernel, by decide⟩
abbrev mX8_set : gY := (yX8_set, cX8_set, 5, (some .int))
theorem kc_X8_set : KC mX8_set 3 := ⟨GT_t 9 (by decide +kernel) rfl, GT_t 863 (by decide +kernel) rfl, by decide +kernel, by decide⟩
abbrev mX8_turn : gY := (yX8_turn, cX8_turn, 3, (some .int))
theorem kc_X8_turn : KC mX8_turn 2 := ⟨GT_t 9 (by decide +kernel) rfl, GT_t 868 (by decide +kernel) rfl, by decide +kernel, by decide⟩
abbrev mX8_as : gY := (yX8_as, cX8_as, 5, (some .int))
theorem kc_X8_as : KC mX8_as 2 := ⟨GT_t 9 (by decide +kernel) rfl, GT_t 872 (by decide +kernel) rfl, by decide +kernel, by decide⟩
abbrev mX8_days : gY := (yX8_days, cX8_days, 3, (some .int))
theorem kc_X8_days : KC mX8_days 1 := ⟨GT_t 9 (by decide +kernel) rfl, GT_t 877 (by decide +kernel) rfl, by decide +kernel, by decide⟩
abbrev mX8_day : gY := (yX8_day, cX8_day, 1, none)
theorem kc_X8_day : KC mX8_day 0 := ⟨GT_t 9 (by decide +kernel) rfl, GT_t 882 (by decide +kernel) rfl, by decide +kernel, by decide⟩
abbrev mX8_goes : gY := (yX8_goes, cX8_goes, 3, none)
theorem kc_X8_goes : KC mX8_goes 1 := ⟨GT_t 9 (by decide +kernel) rfl, GT_t 886 (by decide +kernel) rfl, by decide +kernel, by decide⟩
abbrev mX8_wentTo : gY := (yX8_wentTo, cX8_wentTo, 5, (some .int))
theorem kc_X8_wentTo : KC mX8_wentTo 3 := ⟨GT_t 9 (by decide +kernel) rfl, GT_t 890 (by decide +kernel) rfl, by decide +kernel, by decide⟩
abbrev mX8_sums : gY := (yX8_sums, cX8_sums, 3, (some .int))
theorem kc_X8_sums : KC mX8_sums 0 := ⟨GT_t 9 (by decide +kernel) rfl, GT_t 894 (by decide +kernel) rfl, by decide +kernel, by decide⟩
abbrev mX8_bribe : gY := (yX8_bribe, cX8_bribe, 2, (some .int))
theorem kc_X8_bribe : KC mX8_bribe 1 := ⟨GT_t 9 (by decide +kernel) rfl, GT_t 898 (by decide +kernel) rfl, by decide +kernel, by decide⟩
abbrev mX8_now : gY := (yX8_now, cX8_now, 6, (some .int))
theorem kc_X8_now : KC mX8_now 1 := ⟨GT_t 9 (by decide +kernel) rfl, GT_t 902 (by decide +kernel) rfl, by decide +kernel, by decide⟩
abbrev mX8_on : gY := (yX8_on, cX8_on, 5, (some .int))
theorem kc_X8_on : KC mX8_on 3 := ⟨GT_t 9 (by decide +kernel) rfl, GT_t 906 (by decide +kernel) rfl, by decide +kernel, by decide⟩
abbrev mX8_thinks : gY := (yX8_thinks, cX8_thinks, 1, none)
theorem kc_X8_thinks : KC mX8_thinks 0 := ⟨GT_t 9 (by decide +kernel) rfl, GT_t 910 (by decide +kernel) rfl, by decide +kernel, by decide⟩
abbrev mX8_copyAll : gY := (yX8_copyAll, cX8_copyAll, 3, none)
theorem kc_X8_copyAll : KC mX8_copyAll 2 := ⟨GT_t 9 (by decide +kernel) rfl, GT_t 913 (by decide +kernel) rfl, by decide +kernel, by decide⟩
abbrev mX8_putsBack : gY := (yX8_putsBack, cX8_putsBack, 1, none)
theorem kc_X8_putsBack : KC mX8_putsBack 0 := ⟨GT_t 9 (by decide +kernel) rfl, GT_t 917 (by decide +kernel) rfl, by decide +kernel, by decide⟩
abbrev mX8_comes : gY := (yX8_comes, cX8_comes, 4, (some .int))
theorem kc_X8_comes : KC mX8_comes 2 := ⟨GT_t 9 (by decide +kernel) rfl, GT_t 921 (by decide +kernel) rfl, by decide +kernel, by decide⟩
abbrev mX8_meet : gY := (yX8_meet, cX8_meet, 4, (some .int))
theorem kc_X8_meet : KC mX8_meet 2 := ⟨GT_t 9 (by decide +kernel) rfl, GT_t 925 (by decide +kernel) rfl, by decide +kernel, by decide⟩
abbrev mX8_bribes : gY := (yX8_bribes, cX8_bribes, 6, (some .int))
theorem kc_X8_bribes : KC mX8_bribes 3 := ⟨GT_t 9 (by decide +kernel) rfl, GT_t 929 (by decide +kernel) rfl, by decide +kernel, by decide⟩
abbrev mX8_begins : gY := (yX8_begins, cX8_begins, 3, none)
theorem kc_X8_begins : KC mX8_begins 1 := ⟨GT_t 9 (by decide +kernel) rfl, GT_t 933 (by decide +kernel) rfl, by decide +kernel, by decide⟩
abbrev mX8_dayOn : gY := (yX8_dayOn, cX8_dayOn, 6, none)
theorem kc_X8_dayOn : KC mX8_dayOn 2 := ⟨GT_t 9 (by decide +kernel) rfl, GT_t 937 (by decide +kernel) rfl, by decide +kernel, by decide⟩
abbrev mX8_cheaper : gY := (yX8_cheaper, cX8_cheaper, 3, none)
theorem kc_X8_cheaper : KC mX8_cheaper 2 := ⟨GT_t 9 (by decide +kernel) rfl, GT_t 941 (by decide +kernel) rfl, by decide +kernel, by decide⟩
abbrev mX8_soonest : gY := (yX8_soonest, cX8_soonest, 5, (some .int))
theorem kc_X8_soonest : KC mX8_soonest 3 := ⟨GT_t 9 (by decide +kernel) rfl, GT_t 945 (by decide +kernel) rfl, by decide +kernel, by decide⟩
abbrev mX8_reach : gY := (yX8_reach, cX8_reach, 6, (some .long))
theorem kc_X8_reach : KC mX8_reach 2 := ⟨GT_t 9 (by decide +kernel) rfl, GT_t 949 (by decide +kernel) rfl, by decide +kernel, by decide⟩
abbrev mX8_swap : gY := (yX8_swap, cX8_swap, 7, (some .int))
theorem kc_X8_swap : KC mX8_swap 1 := ⟨GT_t 9 (by decide +kernel) rfl, GT_t 953 (by decide +kernel) rfl, by decide +kernel, by decide⟩
abbrev mX8_gainOn : gY := (yX8_gainOn, cX8_gainOn, 4, (some .int))
theorem kc_X8_gainOn : KC mX8_gainOn 1 := ⟨GT_t 9 (by decide +kernel) rfl, GT_t 957 (by decide +kernel) rfl, by decide +kernel, by decide⟩
abbrev mX8_missed : gY := (yX8_missed, cX8_missed, 7, (some .int))
theorem kc_X8_missed : KC mX8_missed 1 := ⟨GT_t 9 (by decide +kernel) rfl, GT_t 961 (by decide +kernel) rfl, by decide +kernel, by decide⟩
abbrev mX8_enough : gY := (yX8_enough, cX8_enough, 5, (some .int))
theorem kc_X8_enough : KC mX8_enough 2 := ⟨GT_t 9 (by decide +kernel) rfl, GT_t 965 (by decide +kernel) rfl, by decide +kernel, by decide⟩
abbrev mX8_kind : gY := (yX8_kind, cX8_kind, 3, (some .int))
theorem kc_X8_kind : KC mX8_kind 2 := ⟨GT_t 9 (by decide +kernel) rfl, GT_t 969 (by decide +kernel) rfl, by decide +kernel, by decide⟩
abbrev mX8_bestAt : gY := (yX8_bestAt, cX8_bestAt, 8, (some .int))
theorem kc_X8_bestAt : KC mX8_bestAt 3 := ⟨GT_t 9 (by decide +kernel) rfl, GT_t 973 (by decide +kernel) rfl, by decide +kernel, by decide⟩
abbrev mX8_facing : gY := (yX8_facing, cX8_facing, 3, (some .int))
theorem kc_X8_facing : KC mX8_facing 2 := ⟨GT_t 9 (by decide +kernel) rfl, GT_t 977 (by decide +kernel) rfl, by decide +kernel, by decide⟩
abbrev mX8_best : gY := (yX8_best, cX8_best, 3, (some .int))
theorem kc_X8_best : KC mX8_best 2 := ⟨GT_t 9 (by decide +kernel) rfl, GT_t 981 (by decide +kernel) rfl, by decide +kernel, by decide⟩
abbrev mX8_feed : gY := (yX8_feed, cX8_feed, 4, (some .int))
theorem kc_X8_feed : KC mX8_feed 2 := ⟨GT_t 9 (by decide +kernel) rfl, GT_t 985 (by decide +kernel) rfl, by decide +kernel, by decide⟩
abbrev mX8_wipe : gY := (yX8_wipe, cX8_wipe, 2, (some .int))
theorem kc_X8_wipe : KC mX8_wipe 0 := ⟨GT_t 9 (by decide +kernel) rfl, GT_t 989 (by decide +kernel) rfl, by decide +kernel, by decide⟩
abbrev mX8_sea : gY := (yX8_sea, cX8_sea, 2, (some .int))
theorem kc_X8_sea : KC mX8_sea 0 := ⟨GT_t 9 (by decide +kernel) rfl, GT_t 993 (by decide +kernel) rfl, by decide +kernel, by decide⟩
abbrev mX8_reads : gY := (yX8_reads, cX8_reads, 1, none)
theorem kc_X8_reads : KC mX8_reads 0 := ⟨GT_t 9 (by decide +kernel) rfl, GT_t 997 (by decide +kernel) rfl, by decide +kernel, by decide⟩
abbrev mX8_isByte : gY := (yX8_isByte, cX8_isByte, 4, (some .boolean))
theorem kc_X8_isByte : KC mX8_isByte 3 := ⟨GT_t 9 (by decide +kernel) rfl, GT_t 1001 (by decide +kernel) rfl, by decide +kernel, by decide⟩
abbrev mX8_wordHere : gY := (yX8_wordHere, cX8_wordHere, 2, (some .int))
theorem kc_X8_wordHere : KC mX8_wordHere 0 := ⟨GT_t 9 (by decide +kernel) rfl, GT_t 1005 (by decide +kernel) rfl, by decide +kernel, by decide⟩
abbrev mX8_isName : gY := (yX8_isName, cX8_isName, 5, (some .boolean))
theorem kc_X8_isName : KC mX8_isName 2 := ⟨GT_t 9 (by decide +kernel) rfl, GT_t 1009 (by decide +kernel) rfl, by decide +kernel, by decide⟩
abbrev mX8_item : gY := (yX8_item, cX8_item, 3, none)
theorem kc_X8_item : KC mX8_item 0 := ⟨GT_t 9 (by decide +kernel) rfl, GT_t 1015 (by decide +kernel) rfl, by decide +kernel, by decide⟩
abbrev mX8_thingItem : gY := (yX8_thingItem, cX8_thingItem, 4, none)
theorem kc_X8_thingItem : KC mX8_thingItem 0 := ⟨GT_t 9 (by decide +kernel) rfl, GT_t 1019 (by decide +kernel) rfl, by decide +kernel, by decide⟩
abbrev mX8_passes : gY := (yX8_passes, cX8_passes, 2, (some .boolean))
theorem kc_X8_passes : KC mX8_passes 1 := ⟨GT_t 9 (by decide +kernel) rfl, GT_t 1023 (by decide +kernel) rfl, by decide +kernel, by decide⟩
abbrev mX8_number : gY := (yX8_number, cX8_number, 4, (some .int))
theorem kc_X8_number : KC mX8_number 2 := ⟨GT_t 9 (by decide +kernel) rfl, GT_t 1027 (by decide +kernel) rfl, by decide +kernel, by decide⟩
abbrev mX8_perhaps : gY := (yX8_perhaps, cX8_perhaps, 5, (some .int))
theorem kc_X8_perhaps : KC mX8_perhaps 4 := ⟨GT_t 9 (by decide +kernel) rfl, GT_t 1031 (by decide +kernel) rfl, by decide +kernel, by decide⟩
abbrev mX8_rotaItem : gY := (yX8_rotaItem, cX8_rotaItem, 3, none)
theorem kc_X8_rotaItem : KC mX8_rotaItem 0 := ⟨GT_t 9 (by decide +kernel) rfl, GT_t 1035 (by decide +kernel) rfl, by decide +kernel, by decide⟩
abbrev mX8_sheet : gY := (yX8_sheet, cX8_sheet, 5, (some .int))
theorem kc_X8_sheet : KC mX8_sheet 3 := ⟨GT_t 9 (by decide +kernel) rfl, GT_t 1039 (by decide +kernel) rfl, by decide +kernel, by decide⟩
abbrev mX8_isSheet : gY := (yX8_isSheet, cX8_isSheet, 1, (some .boolean))
theorem kc_X8_isSheet : KC mX8_isSheet 1 := ⟨GT_t 9 (by decide +kernel) rfl, GT_t 1042 (by decide +kernel) rfl, by decide +kernel, by decide⟩
abbrev mX8_write : gY := (yX8_write, cX8_write, 8, (some .long))
theorem kc_X8_write : KC mX8_write 3 := ⟨GT_t 9 (by decide +kernel) rfl, GT_t 1047 (by decide +kernel) rfl, by decide +kernel, by decide⟩
abbrev mX8_notThere : gY := (yX8_notThere, cX8_notThere, 2, (some .int))
theorem kc_X8_notThere : KC mX8_notThere 1 := ⟨GT_t 9 (by decide +kernel) rfl, GT_t 1051 (by decide +kernel) rfl, by decide +kernel, by decide⟩
abbrev mX8_cutTo : gY := (yX8_cutTo, cX8_cutTo, 3, (some .long))
theorem kc_X8_cutTo : KC mX8_cutTo 2 := ⟨GT_t 9 (by decide +kernel) rfl, GT_t 1055 (by decide +kernel) rfl, by decide +kernel, by decide⟩
abbrev mX8_copy : gY := (yX8_copy, cX8_copy, 9, (some .int))
theorem kc_X8_copy : KC mX8_copy 5 := ⟨GT_t 9 (by decide +kernel) rfl, GT_t 1059 (by decide +kernel) rfl, by decide +kernel, by decide⟩
abbrev mX8_notCopied : gY := (yX8_notCopied, cX8_notCopied, 7, (some .int))
theorem kc_X8_notCopied : KC mX8_notCopied 5 := ⟨GT_t 9 (by decide +kernel) rfl, GT_t 1063 (by decide +kernel) rfl, by decide +kernel, by decide⟩
abbrev mX8_lays : gY := (yX8_lays, cX8_lays, 5, (some .int))
theorem kc_X8_lays : KC mX8_lays 1 := ⟨GT_t 9 (by decide +kernel) rfl, GT_t 1067 (by decide +kernel) rfl, by decide +kernel, by decide⟩
abbrev mX8_book : gY := (yX8_book, cX8_book, 5, (some .int))
theorem kc_X8_book : KC mX8_book 2 := ⟨GT_t 9 (by decide +kernel) rfl, GT_t 1071 (by decide +kernel) rfl, by decide +kernel, by decide⟩
abbrev mX8_notAsked : gY := (yX8_notAsked, cX8_notAsked, 4, (some .int))
theorem kc_X8_notAsked : KC mX8_notAsked 2 := ⟨GT_t 9 (by decide +kernel) rfl, GT_t 1075 (by decide +kernel) rfl, by decide +kernel, by decide⟩
abbrev mX8_read : gY := (yX8_read, cX8_read, 6, (some .int))
theorem kc_X8_read : KC mX8_read 2 := ⟨GT_t 9 (by decide +kernel) rfl, GT_t 1079 (by decide +kernel) rfl, by decide +kernel, by decide⟩
abbrev mX8_isBook : gY := (yX8_isBook, cX8_isBook, 5, (some .boolean))
theorem kc_X8_isBook : KC mX8_isBook 2 := ⟨GT_t 9 (by decide +kernel) rfl, GT_t 1083 (by decide +kernel) rfl, by decide +kernel, by decide⟩
abbrev mX8_image : gY := (yX8_image, cX8_image, 1, (some .int))
theorem kc_X8_image : KC mX8_image 0 := ⟨GT_t 9 (by decide +kernel) rfl, GT_t 1087 (by decide +kernel) rfl, by decide +kernel, by decide⟩
abbrev mX8_undo : gY := (yX8_undo, cX8_undo, 1, (some .int))
theorem kc_X8_undo : KC mX8_undo 0 := ⟨GT_t 9 (by decide +kernel) rfl, GT_t 1091 (by decide +kernel) rfl, by decide +kernel, by decide⟩
abbrev mX8_tear : gY := (yX8_tear, cX8_tear, 2, (some .int))
theorem kc_X8_tear : KC mX8_tear 0 := ⟨GT_t 9 (by decide +kernel) rfl, GT_t 1095 (by decide +kernel) rfl, by decide +kernel, by decide⟩
abbrev mX8_count : gY := (yX8_count, cX8_count, 2, (some .int))
theorem kc_X8_count : KC mX8_count 1 := ⟨GT_t 9 (by decide +kernel) rfl, GT_t 1099 (by decide +kernel) rfl, by decide +kernel, by decide⟩
abbrev mX8_sickOnes : gY := (yX8_sickOnes, cX8_sickOnes, 3, (some .int))
theorem kc_X8_sickOnes : KC mX8_sickOnes 0 := ⟨GT_t 9 (by decide +kernel) rfl, GT_t 1103 (by decide +kernel) rfl, by decide +kernel, by decide⟩
abbrev mX8_calms : gY := (yX8_calms, cX8_calms, 3, (some .int))
theorem kc_X8_calms : KC mX8_calms 0 := ⟨GT_t 9 (by decide +kernel) rfl, GT_t 1107 (by decide +kernel) rfl, by decide +kernel, by decide⟩
abbrev mX8_status : gY := (yX8_status, cX8_status, 4, (some .int))
theorem kc_X8_status : KC mX8_status 1 := ⟨GT_t 9 (by decide +kernel) rfl, GT_t 1111 (by decide +kernel) rfl, by decide +kernel, by decide⟩
theorem kv_L_13 : KV RL 13 mX7_rota 2 := ⟨kc_X7_rota, GT_t 210 (by decide +kernel) rfl, GT_t 211 (by decide +kernel) rfl, GT_t 212 (by decide +kernel) rfl⟩
theorem ks_X7_77 : KS RX7 77 mX7_within 2 := ⟨kc_X7_within, GT_t 214 (by decide +kernel) rfl, GT_t 215 (by decide +kernel) rfl⟩
theorem kv_X7_82 : KV RX7 82 mX7_finding 1 := ⟨kc_X7_finding, GT_t 218 (by decide +kernel) rfl, GT_t 220 (by decide +kernel) rfl, GT_p (y := yX7_finding) (n := 12) 0 (by decide +kernel)⟩
theorem kv_L_18 : KV RL 18 mX7_rotaOf 1 := ⟨kc_X7_rotaOf, GT_t 222 (by decide +kernel) rfl, GT_t 223 (by decide +kernel) rfl, GT_t 224 (by decide +kernel) rfl⟩
theorem kv_L_23 : KV RL 23 mX7_sick 2 := ⟨kc_X7_sick, GT_t 226 (by decide +kernel) rfl, GT_t 227 (by decide +kernel) rfl, GT_t 228 (by decide +kernel) rfl⟩
theorem kv_X7_89 : KV RX7 89 mX1_isSick 1 := ⟨kc_X1_isSick, GT_t 230 (by decide +kernel) rfl, GT_t 231 (by decide +kernel) rfl, GT_t 232 (by decide +kernel) rfl⟩
theorem kv_X7_93 : KV RX7 93 mX1_makeSick 2 := ⟨kc_X1_makeSick, GT_t 234 (by decide +kernel) rfl, GT_t 235 (by decide +kernel) rfl, GT_t 236 (by decide +kernel) rfl⟩
theorem kv_L_27 : KV RL 27 mX7_force 1 := ⟨kc_X7_force, GT_t 238 (by decide +kernel) rfl, GT_t 239 (by decide +kernel) rfl, GT_t 240 (by decide +kernel) rfl⟩
theorem kv_L_31 : KV RL 31 mX7_blows 1 := ⟨kc_X7_blows, GT_t 242 (by decide +kernel) rfl, GT_t 243 (by decide +kernel) rfl, GT_t 244 (by decide +kernel) rfl⟩
theorem kv_X7_101 : KV RX7 101 mX1_windOn 1 := ⟨kc_X1_windOn, GT_t 246 (by decide +kernel) rfl, GT_t 247 (by decide +kernel) rfl, GT_t 248 (by decide +kernel) rfl⟩
theorem ks_X1_61 : KS RX1 61 mJ9_floorMod_7cf53 2 := ⟨kc_J9_floorMod_7cf53, GT_t 250 (by decide +kernel) rfl, GT_t 251 (by decide +kernel) rfl⟩
theorem kv_X1_67 : KV RX1 67 mX1_isSick 1 := ⟨kc_X1_isSick, GT_t 253 (by decide +kernel) rfl, GT_t 231 (by decide +kernel) rfl, GT_t 232 (by decide +kernel) rfl⟩
theorem kv_L_35 : KV RL 35 mX7_lee 2 := ⟨kc_X7_lee, GT_t 254 (by decide +kernel) rfl, GT_t 255 (by decide +kernel) rfl, GT_t 256 (by decide +kernel) rfl⟩
theorem ks_X7_104 : KS RX7 104 mX7_cellBehind 2 := ⟨kc_X7_cellBehind, GT_t 258 (by decide +kernel) rfl, GT_t 259 (by decide +kernel) rfl⟩
theorem kv_L_39 : KV RL 39 mX7_thing 2 := ⟨kc_X7_thing, GT_t 266 (by decide +kernel) rfl, GT_t 267 (by decide +kernel) rfl, GT_t 268 (by decide +kernel) rfl⟩
theorem kv_X7_109 : KV RX7 109 mX1_isFull 0 := ⟨kc_X1_isFull, GT_t 270 (by decide +kernel) rfl, GT_t 271 (by decide +kernel) rfl, GT_t 272 (by decide +kernel) rfl⟩
theorem kv_X7_114 : KV RX7 114 mX1_add 3 := ⟨kc_X1_add, GT_t 275 (by decide +kernel) rfl, GT_t 276 (by decide +kernel) rfl, GT_t 277 (by decide +kernel) rfl⟩
theorem kv_X1_45 : KV RX1 45 mX1_isFull 0 := ⟨kc_X1_isFull, GT_t 279 (by decide +kernel) rfl, GT_t 271 (by decide +kernel) rfl, GT_t 272 (by decide +kernel) rfl⟩
theorem kv_L_43 : KV RL 43 mX7_of 2 := ⟨kc_X7_of, GT_t 280 (by decide +kernel) rfl, GT_t 281 (by decide +kernel) rfl, GT_t 282 (by decide +kernel) rfl⟩
theorem kv_X7_121 : KV RX7 121 mX1_has 1 := ⟨kc_X1_has, GT_t 284 (by decide +kernel) rfl, GT_t 285 (by decide +kernel) rfl, GT_t 286 (by decide +kernel) rfl⟩
theorem kv_X7_143 : KV RX7 143 mX5_earnings 3 := ⟨kc_X5_earnings, GT_t 288 (by decide +kernel) rfl, GT_t 289 (by decide +kernel) rfl, GT_t 290 (by decide +kernel) rfl⟩
theorem kv_X5_24 : KV RX5 24 mX5_off 1 := ⟨kc_X5_off, GT_t 292 (by decide +kernel) rfl, GT_t 294 (by decide +kernel) rfl, GT_p (y := yX5_off) (n := 4) 1 (by decide +kernel)⟩
theorem kmax_X5_28 : Cond.methodLink RX5 28 Lib.Math.max.name ∈ GT ∧ Cond.static Lib.Math.max.name ∈ GT ∧ Cond.initialized "java/lang/Math" ∈ GT ∧ Cond.code Lib.Math.max.name Lib.Math.max.code 2 (some .int) ∈ GT := ⟨GT_t 298 (by decide +kernel) rfl, GT_t 299 (by decide +kernel) rfl, GT_t 10 (by decide +kernel) rfl, GT_t 300 (by decide +kernel) rfl⟩
theorem kv_X5_34 : KV RX5 34 mX5_isGoing 2 := ⟨kc_X5_isGoing, GT_t 301 (by decide +kernel) rfl, GT_t 302 (by decide +kernel) rfl, GT_t 303 (by decide +kernel) rfl⟩
theorem ks_X5_38 : KS RX5 38 mJ9_floorMod_7cf53 2 := ⟨kc_J9_floorMod_7cf53, GT_t 305 (by decide +kernel) rfl, GT_t 251 (by decide +kernel) rfl⟩
theorem kv_X7_147 : KV RX7 147 mX5_isGoing 2 := ⟨kc_X5_isGoing, GT_t 306 (by decide +kernel) rfl, GT_t 302 (by decide +kernel) rfl, GT_t 303 (by decide +kernel) rfl⟩
theorem kv_L_47 : KV RL 47 mX7_set 3 := ⟨kc_X7_set, GT_t 307 (by decide +kernel) rfl, GT_t 308 (by decide +kernel) rfl, GT_t 309 (by decide +kernel) rfl⟩
theorem ks_X7_150 : KS RX7 150 mX7_mostOf 1 := ⟨kc_X7_mostOf, GT_t 311 (by decide +kernel) rfl, GT_t 312 (by decide +kernel) rfl⟩
theorem kv_L_52 : KV RL 52 mX7_turn 2 := ⟨kc_X7_turn, GT_t 315 (by decide +kernel) rfl, GT_t 316 (by decide +kernel) rfl, GT_t 317 (by decide +kernel) rfl⟩
theorem kv_L_56 : KV RL 56 mX7_as 2 := ⟨kc_X7_as, GT_t 319 (by decide +kernel) rfl, GT_t 320 (by decide +kernel) rfl, GT_t 321 (by decide +kernel) rfl⟩
theorem ks_X7_153 : KS RX7 153 mX7_isUnder 2 := ⟨kc_X7_isUnder, GT_t 323 (by decide +kernel) rfl, GT_t 324 (by decide +kernel) rfl⟩
theorem ks_X7_276 : KS RX7 276 mX7_kindAbove 1 := ⟨kc_X7_kindAbove, GT_t 326 (by decide +kernel) rfl, GT_t 327 (by decide +kernel) rfl⟩
theorem kv_L_60 : KV RL 60 mX7_days 1 := ⟨kc_X7_days, GT_t 330 (by decide +kernel) rfl, GT_t 331 (by decide +kernel) rfl, GT_t 332 (by decide +kernel) rfl⟩
theorem ks_X7_157 : KS RX7 157 mX7_isSpan 2 := ⟨kc_X7_isSpan, GT_t 334 (by decide +kernel) rfl, GT_t 335 (by decide +kernel) rfl⟩
theorem kv_X7_161 : KV RX7 161 mX1_gainIn 1 := ⟨kc_X1_gainIn, GT_t 338 (by decide +kernel) rfl, GT_t 339 (by decide +kernel) rfl, GT_t 340 (by decide +kernel) rfl⟩
theorem kv_X1_87 : KV RX1 87 mX1_sums 0 := ⟨kc_X1_sums, GT_t 342 (by decide +kernel) rfl, GT_t 343 (by decide +kernel) rfl, GT_t 344 (by decide +kernel) rfl⟩
theorem kv_X1_71 : KV RX1 71 mX1_windOn 1 := ⟨kc_X1_windOn, GT_t 346 (by decide +kernel) rfl, GT_t 247 (by decide +kernel) rfl, GT_t 248 (by decide +kernel) rfl⟩
theorem kv_X1_91 : KV RX1 91 mX1_goDay 1 := ⟨kc_X1_goDay, GT_t 347 (by decide +kernel) rfl, GT_t 348 (by decide +kernel) rfl, GT_t 349 (by decide +kernel) rfl⟩
theorem kv_X1_83 : KV RX1 83 mX5_goDay 3 := ⟨kc_X5_goDay, GT_t 351 (by decide +kernel) rfl, GT_t 352 (by decide +kernel) rfl, GT_t 353 (by decide +kernel) rfl⟩
theorem kv_X5_45 : KV RX5 45 mX5_earnings 3 := ⟨kc_X5_earnings, GT_t 356 (by decide +kernel) rfl, GT_t 289 (by decide +kernel) rfl, GT_t 290 (by decide +kernel) rfl⟩
theorem kmin_X5_49 : Cond.methodLink RX5 49 Lib.Math.min.name ∈ GT ∧ Cond.static Lib.Math.min.name ∈ GT ∧ Cond.initialized "java/lang/Math" ∈ GT ∧ Cond.code Lib.Math.min.name Lib.Math.min.code 2 (some .int) ∈ GT := ⟨GT_t 357 (by decide +kernel) rfl, GT_t 358 (by decide +kernel) rfl, GT_t 10 (by decide +kernel) rfl, GT_t 359 (by decide +kernel) rfl⟩
theorem kv_X5_52 : KV RX5 52 mX5_cellAfter 3 := ⟨kc_X5_cellAfter, GT_t 360 (by decide +kernel) rfl, GT_t 361 (by decide +kernel) rfl, GT_t 362 (by decide +kernel) rfl⟩
theorem kv_X7_164 : KV RX7 164 mX1_sums 0 := ⟨kc_X1_sums, GT_t 365 (by decide +kernel) rfl, GT_t 343 (by decide +kernel) rfl, GT_t 344 (by decide +kernel) rfl⟩
theorem kv_L_64 : KV RL 64 mX7_bribe 1 := ⟨kc_X7_bribe, GT_t 366 (by decide +kernel) rfl, GT_t 367 (by decide +kernel) rfl, GT_t 368 (by decide +kernel) rfl⟩
theorem kv_X7_168 : KV RX7 168 mX1_goDay 1 := ⟨kc_X1_goDay, GT_t 370 (by decide +kernel) rfl, GT_t 348 (by decide +kernel) rfl, GT_t 349 (by decide +kernel) rfl⟩
theorem kv_L_68 : KV RL 68 mX7_now 1 := ⟨kc_X7_now, GT_t 371 (by decide +kernel) rfl, GT_t 372 (by decide +kernel) rfl, GT_t 373 (by decide +kernel) rfl⟩
theorem kv_X7_175 : KV RX7 175 mX1_earningsToday 0 := ⟨kc_X1_earningsToday, GT_t 375 (by decide +kernel) rfl, GT_t 376 (by decide +kernel) rfl, GT_t 377 (by decide +kernel) rfl⟩
theorem kv_X1_75 : KV RX1 75 mX5_earnings 3 := ⟨kc_X5_earnings, GT_t 379 (by decide +kernel) rfl, GT_t 289 (by decide +kernel) rfl, GT_t 290 (by decide +kernel) rfl⟩
theorem kv_X7_178 : KV RX7 178 mX1_goingToday 0 := ⟨kc_X1_goingToday, GT_t 380 (by decide +kernel) rfl, GT_t 381 (by decide +kernel) rfl, GT_t 382 (by decide +kernel) rfl⟩
theorem kv_X1_79 : KV RX1 79 mX5_isGoing 2 := ⟨kc_X5_isGoing, GT_t 384 (by decide +kernel) rfl, GT_t 302 (by decide +kernel) rfl, GT_t 303 (by decide +kernel) rfl⟩
theorem kv_L_72 : KV RL 72 mX7_on 3 := ⟨kc_X7_on, GT_t 385 (by decide +kernel) rfl, GT_t 386 (by decide +kernel) rfl, GT_t 387 (by decide +kernel) rfl⟩
theorem kv_X7_181 : KV RX7 181 mX5_become 1 := ⟨kc_X5_become, GT_t 389 (by decide +kernel) rfl, GT_t 390 (by decide +kernel) rfl, GT_t 391 (by decide +kernel) rfl⟩
theorem kv_X7_185 : KV RX7 185 mX1_carry 2 := ⟨kc_X1_carry, GT_t 393 (by decide +kernel) rfl, GT_t 394 (by decide +kernel) rfl, GT_t 395 (by decide +kernel) rfl⟩
theorem kv_L_76 : KV RL 76 mX7_comes 2 := ⟨kc_X7_comes, GT_t 397 (by decide +kernel) rfl, GT_t 398 (by decide +kernel) rfl, GT_t 399 (by decide +kernel) rfl⟩
theorem kv_L_80 : KV RL 80 mX7_meet 2 := ⟨kc_X7_meet, GT_t 401 (by decide +kernel) rfl, GT_t 402 (by decide +kernel) rfl, GT_t 403 (by decide +kernel) rfl⟩
theorem kv_L_84 : KV RL 84 mX7_bribes 3 := ⟨kc_X7_bribes, GT_t 405 (by decide +kernel) rfl, GT_t 406 (by decide +kernel) rfl, GT_t 407 (by decide +kernel) rfl⟩
theorem kv_X7_189 : KV RX7 189 mX6_begin 1 := ⟨kc_X6_begin, GT_t 409 (by decide +kernel) rfl, GT_t 410 (by decide +kernel) rfl, GT_t 411 (by decide +kernel) rfl⟩
theorem kv_X7_195 : KV RX7 195 mX6_goDay 3 := ⟨kc_X6_goDay, GT_t 413 (by decide +kernel) rfl, GT_t 414 (by decide +kernel) rfl, GT_t 415 (by decide +kernel) rfl⟩
theorem kv_X6_18 : KV RX6 18 mX5_cellAfter 3 := ⟨kc_X5_cellAfter, GT_t 417 (by decide +kernel) rfl, GT_t 361 (by decide +kernel) rfl, GT_t 362 (by decide +kernel) rfl⟩
theorem kv_X6_24 : KV RX6 24 mX6_lower 2 := ⟨kc_X6_lower, GT_t 418 (by decide +kernel) rfl, GT_t 420 (by decide +kernel) rfl, GT_p (y := yX6_lower) (n := 2) 2 (by decide +kernel)⟩
theorem ka_X6_28 : KA RX6 28 := ⟨GT_t 423 (by decide +kernel) rfl, GT_t 425 (by decide +kernel) rfl, GT_t 424 (by decide +kernel) rfl, GT_t 11 (by decide +kernel) rfl⟩
theorem kmin_X7_198 : Cond.methodLink RX7 198 Lib.Math.min.name ∈ GT ∧ Cond.static Lib.Math.min.name ∈ GT ∧ Cond.initialized "java/lang/Math" ∈ GT ∧ Cond.code Lib.Math.min.name Lib.Math.min.code 2 (some .int) ∈ GT := ⟨GT_t 426 (by decide +kernel) rfl, GT_t 358 (by decide +kernel) rfl, GT_t 10 (by decide +kernel) rfl, GT_t 359 (by decide +kernel) rfl⟩
theorem kv_L_88 : KV RL 88 mX7_soonest 3 := ⟨kc_X7_soonest, GT_t 427 (by decide +kernel) rfl, GT_t 428 (by decide +kernel) rfl, GT_t 429 (by decide +kernel) rfl⟩
theorem kv_L_92 : KV RL 92 mX7_reach 2 := ⟨kc_X7_reach, GT_t 431 (by decide +kernel) rfl, GT_t 432 (by decide +kernel) rfl, GT_t 433 (by decide +kernel) rfl⟩
theorem kv_X7_203 : KV RX7 203 mX6_reached 0 := ⟨kc_X6_reached, GT_t 435 (by decide +kernel) rfl, GT_t 436 (by decide +kernel) rfl, GT_t 437 (by decide +kernel) rfl⟩
theorem kv_L_97 : KV RL 97 mX7_swap 1 := ⟨kc_X7_swap, GT_t 439 (by decide +kernel) rfl, GT_t 440 (by decide +kernel) rfl, GT_t 441 (by decide +kernel) rfl⟩
theorem kv_X7_207 : KV RX7 207 mX1_become 1 := ⟨kc_X1_become, GT_t 443 (by decide +kernel) rfl, GT_t 444 (by decide +kernel) rfl, GT_t 445 (by decide +kernel) rfl⟩
theorem ka_X1_35 : KA RX1 35 := ⟨GT_t 447 (by decide +kernel) rfl, GT_t 425 (by decide +kernel) rfl, GT_t 424 (by decide +kernel) rfl, GT_t 11 (by decide +kernel) rfl⟩
theorem kv_X1_41 : KV RX1 41 mX5_become 1 := ⟨kc_X5_become, GT_t 448 (by decide +kernel) rfl, GT_t 390 (by decide +kernel) rfl, GT_t 391 (by decide +kernel) rfl⟩
theorem kv_X7_210 : KV RX7 210 mX0_begin 1 := ⟨kc_X0_begin, GT_t 449 (by decide +kernel) rfl, GT_t 450 (by decide +kernel) rfl, GT_t 451 (by decide +kernel) rfl⟩
theorem kv_X7_211 : KV RX7 211 mX0_weigh 2 := ⟨kc_X0_weigh, GT_t 453 (by decide +kernel) rfl, GT_t 454 (by decide +kernel) rfl, GT_t 455 (by decide +kernel) rfl⟩
theorem kv_L_101 : KV RL 101 mX7_missed 1 := ⟨kc_X7_missed, GT_t 457 (by decide +kernel) rfl, GT_t 458 (by decide +kernel) rfl, GT_t 459 (by decide +kernel) rfl⟩
theorem kv_L_105 : KV RL 105 mX7_enough 2 := ⟨kc_X7_enough, GT_t 462 (by decide +kernel) rfl, GT_t 463 (by decide +kernel) rfl, GT_t 464 (by decide +kernel) rfl⟩
theorem kv_L_109 : KV RL 109 mX7_kind 2 := ⟨kc_X7_kind, GT_t 466 (by decide +kernel) rfl, GT_t 467 (by decide +kernel) rfl, GT_t 468 (by decide +kernel) rfl⟩
theorem kv_L_113 : KV RL 113 mX7_facing 2 := ⟨kc_X7_facing, GT_t 470 (by decide +kernel) rfl, GT_t 471 (by decide +kernel) rfl, GT_t 472 (by decide +kernel) rfl⟩
theorem kv_L_117 : KV RL 117 mX7_best 2 := ⟨kc_X7_best, GT_t 474 (by decide +kernel) rfl, GT_t 475 (by decide +kernel) rfl, GT_t 476 (by decide +kernel) rfl⟩
theorem kv_L_121 : KV RL 121 mX7_feed 2 := ⟨kc_X7_feed, GT_t 478 (by decide +kernel) rfl, GT_t 479 (by decide +kernel) rfl, GT_t 480 (by decide +kernel) rfl⟩
theorem kv_X7_225 : KV RX7 225 mX3_put 1 := ⟨kc_X3_put, GT_t 482 (by decide +kernel) rfl, GT_t 483 (by decide +kernel) rfl, GT_t 484 (by decide +kernel) rfl⟩
theorem kv_L_125 : KV RL 125 mX7_wipe 0 := ⟨kc_X7_wipe, GT_t 486 (by decide +kernel) rfl, GT_t 487 (by decide +kernel) rfl, GT_t 488 (by decide +kernel) rfl⟩
theorem kv_L_130 : KV RL 130 mX7_sea 0 := ⟨kc_X7_sea, GT_t 490 (by decide +kernel) rfl, GT_t 491 (by decide +kernel) rfl, GT_t 492 (by decide +kernel) rfl⟩
theorem kv_X7_228 : KV RX7 228 mX4_tell 1 := ⟨kc_X4_tell, GT_t 494 (by decide +kernel) rfl, GT_t 495 (by decide +kernel) rfl, GT_t 496 (by decide +kernel) rfl⟩
theorem kv_X4_15 : KV RX4 15 mX3_begin 0 := ⟨kc_X3_begin, GT_t 498 (by decide +kernel) rfl, GT_t 499 (by decide +kernel) rfl, GT_t 500 (by decide +kernel) rfl⟩
theorem kv_X3_22 : KV RX3 22 mX3_nextToken 0 := ⟨kc_X3_nextToken, GT_t 502 (by decide +kernel) rfl, GT_t 503 (by decide +kernel) rfl, GT_t 504 (by decide +kernel) rfl⟩
theorem ks_X3_31 : KS RX3 31 mX3_tokenOf 1 := ⟨kc_X3_tokenOf, GT_t 506 (by decide +kernel) rfl, GT_t 507 (by decide +kernel) rfl⟩
theorem kv_X4_20 : KV RX4 20 mX4_tellItem 1 := ⟨kc_X4_tellItem, GT_t 509 (by decide +kernel) rfl, GT_t 511 (by decide +kernel) rfl, GT_p (y := yX4_tellItem) (n := 1) 3 (by decide +kernel)⟩
theorem kv_X4_34 : KV RX4 34 mX4_kindNamed 0 := ⟨kc_X4_kindNamed, GT_t 513 (by decide +kernel) rfl, GT_t 515 (by decide +kernel) rfl, GT_p (y := yX4_kindNamed) (n := 1) 4 (by decide +kernel)⟩
theorem ks_X4_91 : KS RX4 91 mX4_nameOf 1 := ⟨kc_X4_nameOf, GT_t 517 (by decide +kernel) rfl, GT_t 518 (by decide +kernel) rfl⟩
theorem kv_X4_95 : KV RX4 95 mX3_isWord 1 := ⟨kc_X3_isWord, GT_t 526 (by decide +kernel) rfl, GT_t 527 (by decide +kernel) rfl, GT_t 528 (by decide +kernel) rfl⟩
theorem kv_X3_35 : KV RX3 35 mJ0_length_8abf5 0 := ⟨kc_J0_length_8abf5, GT_t 530 (by decide +kernel) rfl, GT_t 531 (by decide +kernel) rfl, GT_t 532 (by decide +kernel) rfl⟩
theorem kv_J0_335 : KV RJ0 335 mJ0_coder_7d493 0 := ⟨kc_J0_coder_7d493, GT_t 534 (by decide +kernel) rfl, GT_t 535 (by decide +kernel) rfl, GT_t 536 (by decide +kernel) rfl⟩
theorem kv_X3_40 : KV RX3 40 mJ0_charAt_5068e 1 := ⟨kc_J0_charAt_5068e, GT_t 540 (by decide +kernel) rfl, GT_t 541 (by decide +kernel) rfl, GT_t 542 (by decide +kernel) rfl⟩
theorem kv_J0_492 : KV RJ0 492 mJ0_isLatin1_aae02 0 := ⟨kc_J0_isLatin1_aae02, GT_t 544 (by decide +kernel) rfl, GT_t 545 (by decide +kernel) rfl, GT_t 546 (by decide +kernel) rfl⟩
theorem ks_J0_495 : KS RJ0 495 mJ1_charAt_3b067 2 := ⟨kc_J1_charAt_3b067, GT_t 548 (by decide +kernel) rfl, GT_t 549 (by decide +kernel) rfl⟩
theorem ks_J1_9 : KS RJ1 9 mJ0_checkIndex_df160 2 := ⟨kc_J0_checkIndex_df160, GT_t 551 (by decide +kernel) rfl, GT_t 552 (by decide +kernel) rfl⟩
theorem ks_J0_1059 : KS RJ0 1059 mJ3_checkIndex_8e157 3 := ⟨kc_J3_checkIndex_8e157, GT_t 556 (by decide +kernel) rfl, GT_t 557 (by decide +kernel) rfl⟩
theorem ks_J0_498 : KS RJ0 498 mJ2_charAt_3b067 2 := ⟨kc_J2_charAt_3b067, GT_t 559 (by decide +kernel) rfl, GT_t 560 (by decide +kernel) rfl⟩
theorem ks_J2_67 : KS RJ2 67 mJ2_checkIndex_2214a 2 := ⟨kc_J2_checkIndex_2214a, GT_t 562 (by decide +kernel) rfl, GT_t 563 (by decide +kernel) rfl⟩
theorem ks_J2_48 : KS RJ2 48 mJ2_length_9d52b 1 := ⟨kc_J2_length_9d52b, GT_t 565 (by decide +kernel) rfl, GT_t 566 (by decide +kernel) rfl⟩
theorem ks_J2_414 : KS RJ2 414 mJ0_checkIndex_df160 2 := ⟨kc_J0_checkIndex_df160, GT_t 568 (by decide +kernel) rfl, GT_t 552 (by decide +kernel) rfl⟩
theorem ks_J2_71 : KS RJ2 71 mJ2_getChar_3b067 2 := ⟨kc_J2_getChar_3b067, GT_t 569 (by decide +kernel) rfl, GT_t 570 (by decide +kernel) rfl⟩
theorem kv_X4_38 : KV RX4 38 mX4_tellThing 2 := ⟨kc_X4_tellThing, GT_t 578 (by decide +kernel) rfl, GT_t 580 (by decide +kernel) rfl, GT_p (y := yX4_tellThing) (n := 1) 5 (by decide +kernel)⟩
theorem kv_X4_64 : KV RX4 64 mX1_isFull 0 := ⟨kc_X1_isFull, GT_t 582 (by decide +kernel) rfl, GT_t 271 (by decide +kernel) rfl, GT_t 272 (by decide +kernel) rfl⟩
theorem kv_X4_31 : KV RX4 31 mX3_nextToken 0 := ⟨kc_X3_nextToken, GT_t 583 (by decide +kernel) rfl, GT_t 503 (by decide +kernel) rfl, GT_t 504 (by decide +kernel) rfl⟩
theorem kv_X4_44 : KV RX4 44 mX4_takesWord 1 := ⟨kc_X4_takesWord, GT_t 585 (by decide +kernel) rfl, GT_t 587 (by decide +kernel) rfl, GT_p (y := yX4_takesWord) (n := 1) 6 (by decide +kernel)⟩
theorem kv_X4_72 : KV RX4 72 mX4_takenNumber 1 := ⟨kc_X4_takenNumber, GT_t 589 (by decide +kernel) rfl, GT_t 591 (by decide +kernel) rfl, GT_p (y := yX4_takenNumber) (n := 1) 7 (by decide +kernel)⟩
theorem kv_X4_110 : KV RX4 110 mX3_number 0 := ⟨kc_X3_number, GT_t 593 (by decide +kernel) rfl, GT_t 594 (by decide +kernel) rfl, GT_t 595 (by decide +kernel) rfl⟩
theorem kmin_X3_44 : Cond.methodLink RX3 44 Lib.Math.min.name ∈ GT ∧ Cond.static Lib.Math.min.name ∈ GT ∧ Cond.initialized "java/lang/Math" ∈ GT ∧ Cond.code Lib.Math.min.name Lib.Math.min.code 2 (some .int) ∈ GT := ⟨GT_t 597 (by decide +kernel) rfl, GT_t 358 (by decide +kernel) rfl, GT_t 10 (by decide +kernel) rfl, GT_t 359 (by decide +kernel) rfl⟩
theorem kv_X4_78 : KV RX4 78 mX1_add 3 := ⟨kc_X1_add, GT_t 599 (by decide +kernel) rfl, GT_t 276 (by decide +kernel) rfl, GT_t 277 (by decide +kernel) rfl⟩
theorem kv_X4_48 : KV RX4 48 mX4_tellRota 1 := ⟨kc_X4_tellRota, GT_t 601 (by decide +kernel) rfl, GT_t 603 (by decide +kernel) rfl, GT_p (y := yX4_tellRota) (n := 1) 8 (by decide +kernel)⟩
theorem kv_X4_53 : KV RX4 53 mX4_tellHealth 2 := ⟨kc_X4_tellHealth, GT_t 606 (by decide +kernel) rfl, GT_t 608 (by decide +kernel) rfl, GT_p (y := yX4_tellHealth) (n := 1) 9 (by decide +kernel)⟩
theorem kv_X4_85 : KV RX4 85 mX1_makeSick 2 := ⟨kc_X1_makeSick, GT_t 610 (by decide +kernel) rfl, GT_t 235 (by decide +kernel) rfl, GT_t 236 (by decide +kernel) rfl⟩
theorem kv_X4_61 : KV RX4 61 mX4_tellForce 1 := ⟨kc_X4_tellForce, GT_t 613 (by decide +kernel) rfl, GT_t 615 (by decide +kernel) rfl, GT_p (y := yX4_tellForce) (n := 1) 10 (by decide +kernel)⟩
theorem kv_L_134 : KV RL 134 mX7_sheet 3 := ⟨kc_X7_sheet, GT_t 618 (by decide +kernel) rfl, GT_t 619 (by decide +kernel) rfl, GT_t 620 (by decide +kernel) rfl⟩
theorem kv_X7_233 : KV RX7 233 mX2_begin 2 := ⟨kc_X2_begin, GT_t 623 (by decide +kernel) rfl, GT_t 624 (by decide +kernel) rfl, GT_t 625 (by decide +kernel) rfl⟩
theorem kv_L_140 : KV RL 140 mX7_write 3 := ⟨kc_X7_write, GT_t 627 (by decide +kernel) rfl, GT_t 628 (by decide +kernel) rfl, GT_t 629 (by decide +kernel) rfl⟩
theorem kv_X7_238 : KV RX7 238 mX2_isMissing 0 := ⟨kc_X2_isMissing, GT_t 631 (by decide +kernel) rfl, GT_t 632 (by decide +kernel) rfl, GT_t 633 (by decide +kernel) rfl⟩
theorem kv_X7_246 : KV RX7 246 mX2_put 2 := ⟨kc_X2_put, GT_t 636 (by decide +kernel) rfl, GT_t 637 (by decide +kernel) rfl, GT_t 638 (by decide +kernel) rfl⟩
theorem kv_X2_22 : KV RX2 22 mX2_lowest 1 := ⟨kc_X2_lowest, GT_t 640 (by decide +kernel) rfl, GT_t 642 (by decide +kernel) rfl, GT_p (y := yX2_lowest) (n := 3) 11 (by decide +kernel)⟩
theorem kv_L_145 : KV RL 145 mX7_copy 5 := ⟨kc_X7_copy, GT_t 644 (by decide +kernel) rfl, GT_t 645 (by decide +kernel) rfl, GT_t 646 (by decide +kernel) rfl⟩
theorem kv_X7_252 : KV RX7 252 mX2_spans 2 := ⟨kc_X2_spans, GT_t 648 (by decide +kernel) rfl, GT_t 649 (by decide +kernel) rfl, GT_t 650 (by decide +kernel) rfl⟩
theorem ka_X7_255 : KA RX7 255 := ⟨GT_t 652 (by decide +kernel) rfl, GT_t 425 (by decide +kernel) rfl, GT_t 424 (by decide +kernel) rfl, GT_t 11 (by decide +kernel) rfl⟩
theorem kv_L_150 : KV RL 150 mX7_lays 1 := ⟨kc_X7_lays, GT_t 653 (by decide +kernel) rfl, GT_t 654 (by decide +kernel) rfl, GT_t 655 (by decide +kernel) rfl⟩
theorem kv_L_154 : KV RL 154 mX7_book 2 := ⟨kc_X7_book, GT_t 658 (by decide +kernel) rfl, GT_t 659 (by decide +kernel) rfl, GT_t 660 (by decide +kernel) rfl⟩
theorem kv_X7_263 : KV RX7 263 mX7_sheetFinding 2 := ⟨kc_X7_sheetFinding, GT_t 662 (by decide +kernel) rfl, GT_t 664 (by decide +kernel) rfl, GT_p (y := yX7_sheetFinding) (n := 12) 12 (by decide +kernel)⟩
theorem kv_L_158 : KV RL 158 mX7_read 2 := ⟨kc_X7_read, GT_t 666 (by decide +kernel) rfl, GT_t 667 (by decide +kernel) rfl, GT_t 668 (by decide +kernel) rfl⟩
theorem kv_X7_266 : KV RX7 266 mX7_walkerMakes 1 := ⟨kc_X7_walkerMakes, GT_t 670 (by decide +kernel) rfl, GT_t 672 (by decide +kernel) rfl, GT_p (y := yX7_walkerMakes) (n := 12) 13 (by decide +kernel)⟩
theorem kv_L_162 : KV RL 162 mX7_image 0 := ⟨kc_X7_image, GT_t 674 (by decide +kernel) rfl, GT_t 675 (by decide +kernel) rfl, GT_t 676 (by decide +kernel) rfl⟩
theorem kv_L_166 : KV RL 166 mX7_undo 0 := ⟨kc_X7_undo, GT_t 678 (by decide +kernel) rfl, GT_t 679 (by decide +kernel) rfl, GT_t 680 (by decide +kernel) rfl⟩
theorem kv_L_170 : KV RL 170 mX7_tear 0 := ⟨kc_X7_tear, GT_t 682 (by decide +kernel) rfl, GT_t 683 (by decide +kernel) rfl, GT_t 684 (by decide +kernel) rfl⟩
theorem kv_L_174 : KV RL 174 mX7_count 1 := ⟨kc_X7_count, GT_t 686 (by decide +kernel) rfl, GT_t 687 (by decide +kernel) rfl, GT_t 688 (by decide +kernel) rfl⟩
theorem ks_X7_270 : KS RX7 270 mJ6_bitCount_0f7a4 1 := ⟨kc_J6_bitCount_0f7a4, GT_t 690 (by decide +kernel) rfl, GT_t 691 (by decide +kernel) rfl⟩
theorem kv_X7_273 : KV RX7 273 mX1_calms 0 := ⟨kc_X1_calms, GT_t 696 (by decide +kernel) rfl, GT_t 697 (by decide +kernel) rfl, GT_t 698 (by decide +kernel) rfl⟩
theorem kv_L_178 : KV RL 178 mX7_status 1 := ⟨kc_X7_status, GT_t 700 (by decide +kernel) rfl, GT_t 701 (by decide +kernel) rfl, GT_t 702 (by decide +kernel) rfl⟩
theorem kv_L_17 : KV RL 17 mX8_rota 2 := ⟨kc_X8_rota, GT_t 762 (by decide +kernel) rfl, GT_t 763 (by decide +kernel) rfl, GT_t 764 (by decide +kernel) rfl⟩
theorem ks_X8_47 : KS RX8 47 mX8_in 3 := ⟨kc_X8_in, GT_t 766 (by decide +kernel) rfl, GT_t 767 (by decide +kernel) rfl⟩
theorem kv_X8_51 : KV RX8 51 mX8_becomes 2 := ⟨kc_X8_becomes, GT_t 769 (by decide +kernel) rfl, GT_t 771 (by decide +kernel) rfl, GT_p (y := yX8_becomes) (n := 17) 14 (by decide +kernel)⟩
theorem kv_X8_43 : KV RX8 43 mX8_finds 1 := ⟨kc_X8_finds, GT_t 774 (by decide +kernel) rfl, GT_t 776 (by decide +kernel) rfl, GT_p (y := yX8_finds) (n := 17) 15 (by decide +kernel)⟩
theorem kv_L_22 : KV RL 22 mX8_rotaOf 1 := ⟨kc_X8_rotaOf, GT_t 778 (by decide +kernel) rfl, GT_t 779 (by decide +kernel) rfl, GT_t 780 (by decide +kernel) rfl⟩
theorem kv_L_26 : KV RL 26 mX8_sick 2 := ⟨kc_X8_sick, GT_t 782 (by decide +kernel) rfl, GT_t 783 (by decide +kernel) rfl, GT_t 784 (by decide +kernel) rfl⟩
theorem ks_X8_55 : KS RX8 55 mX8_isWind 1 := ⟨kc_X8_isWind, GT_t 786 (by decide +kernel) rfl, GT_t 787 (by decide +kernel) rfl⟩
theorem kv_X8_59 : KV RX8 59 mX8_ails 2 := ⟨kc_X8_ails, GT_t 789 (by decide +kernel) rfl, GT_t 791 (by decide +kernel) rfl, GT_p (y := yX8_ails) (n := 17) 16 (by decide +kernel)⟩
theorem kv_L_30 : KV RL 30 mX8_force 1 := ⟨kc_X8_force, GT_t 793 (by decide +kernel) rfl, GT_t 794 (by decide +kernel) rfl, GT_t 795 (by decide +kernel) rfl⟩
theorem kv_L_34 : KV RL 34 mX8_blows 1 := ⟨kc_X8_blows, GT_t 797 (by decide +kernel) rfl, GT_t 798 (by decide +kernel) rfl, GT_t 799 (by decide +kernel) rfl⟩
theorem kv_X8_63 : KV RX8 63 mX8_blowing 1 := ⟨kc_X8_blowing, GT_t 801 (by decide +kernel) rfl, GT_t 803 (by decide +kernel) rfl, GT_p (y := yX8_blowing) (n := 17) 17 (by decide +kernel)⟩
theorem kv_L_38 : KV RL 38 mX8_lee 2 := ⟨kc_X8_lee, GT_t 805 (by decide +kernel) rfl, GT_t 806 (by decide +kernel) rfl, GT_t 807 (by decide +kernel) rfl⟩
theorem ks_X8_66 : KS RX8 66 mX8_isCell 1 := ⟨kc_X8_isCell, GT_t 809 (by decide +kernel) rfl, GT_t 810 (by decide +kernel) rfl⟩
theorem ks_X8_69 : KS RX8 69 mX8_blownTo 2 := ⟨kc_X8_blownTo, GT_t 812 (by decide +kernel) rfl, GT_t 813 (by decide +kernel) rfl⟩
theorem kv_X8_72 : KV RX8 72 mX8_orNone 1 := ⟨kc_X8_orNone, GT_t 815 (by decide +kernel) rfl, GT_t 817 (by decide +kernel) rfl, GT_p (y := yX8_orNone) (n := 17) 18 (by decide +kernel)⟩
theorem kv_L_42 : KV RL 42 mX8_thing 2 := ⟨kc_X8_thing, GT_t 820 (by decide +kernel) rfl, GT_t 821 (by decide +kernel) rfl, GT_t 822 (by decide +kernel) rfl⟩
theorem kv_X8_94 : KV RX8 94 mX8_comesAt 3 := ⟨kc_X8_comesAt, GT_t 825 (by decide +kernel) rfl, GT_t 827 (by decide +kernel) rfl, GT_p (y := yX8_comesAt) (n := 17) 19 (by decide +kernel)⟩
theorem kv_X8_89 : KV RX8 89 mX8_put 3 := ⟨kc_X8_put, GT_t 829 (by decide +kernel) rfl, GT_t 831 (by decide +kernel) rfl, GT_p (y := yX8_put) (n := 17) 20 (by decide +kernel)⟩
theorem kv_L_46 : KV RL 46 mX8_of 2 := ⟨kc_X8_of, GT_t 833 (by decide +kernel) rfl, GT_t 834 (by decide +kernel) rfl, GT_t 835 (by decide +kernel) rfl⟩
theorem kv_X8_97 : KV RX8 97 mX8_isThing 1 := ⟨kc_X8_isThing, GT_t 837 (by decide +kernel) rfl, GT_t 839 (by decide +kernel) rfl, GT_p (y := yX8_isThing) (n := 17) 21 (by decide +kernel)⟩
theorem kv_X8_75 : KV RX8 75 mX8_it 2 := ⟨kc_X8_it, GT_t 841 (by decide +kernel) rfl, GT_t 843 (by decide +kernel) rfl, GT_p (y := yX8_it) (n := 17) 22 (by decide +kernel)⟩
theorem kv_X8_100 : KV RX8 100 mX8_earns 2 := ⟨kc_X8_earns, GT_t 845 (by decide +kernel) rfl, GT_t 847 (by decide +kernel) rfl, GT_p (y := yX8_earns) (n := 17) 23 (by decide +kernel)⟩
theorem kv_X8_78 : KV RX8 78 mX8_off 2 := ⟨kc_X8_off, GT_t 849 (by decide +kernel) rfl, GT_t 851 (by decide +kernel) rfl, GT_p (y := yX8_off) (n := 17) 24 (by decide +kernel)⟩
theorem ks_X8_81 : KS RX8 81 mX8_held 3 := ⟨kc_X8_held, GT_t 853 (by decide +kernel) rfl, GT_t 854 (by decide +kernel) rfl⟩
theorem kv_X8_85 : KV RX8 85 mX8_doesGo 2 := ⟨kc_X8_doesGo, GT_t 856 (by decide +kernel) rfl, GT_t 858 (by decide +kernel) rfl, GT_p (y := yX8_doesGo) (n := 17) 25 (by decide +kernel)⟩
theorem kv_L_51 : KV RL 51 mX8_set 3 := ⟨kc_X8_set, GT_t 860 (by decide +kernel) rfl, GT_t 861 (by decide +kernel) rfl, GT_t 862 (by decide +kernel) rfl⟩
theorem kv_L_55 : KV RL 55 mX8_turn 2 := ⟨kc_X8_turn, GT_t 865 (by decide +kernel) rfl, GT_t 866 (by decide +kernel) rfl, GT_t 867 (by decide +kernel) rfl⟩
theorem kv_L_59 : KV RL 59 mX8_as 2 := ⟨kc_X8_as, GT_t 869 (by decide +kernel) rfl, GT_t 870 (by decide +kernel) rfl, GT_t 871 (by decide +kernel) rfl⟩
theorem kv_L_63 : KV RL 63 mX8_days 1 := ⟨kc_X8_days, GT_t 874 (by decide +kernel) rfl, GT_t 875 (by decide +kernel) rfl, GT_t 876 (by decide +kernel) rfl⟩
theorem kv_X8_113 : KV RX8 113 mX8_day 0 := ⟨kc_X8_day, GT_t 879 (by decide +kernel) rfl, GT_t 881 (by decide +kernel) rfl, GT_p (y := yX8_day) (n := 17) 26 (by decide +kernel)⟩
theorem kv_X8_108 : KV RX8 108 mX8_goes 1 := ⟨kc_X8_goes, GT_t 883 (by decide +kernel) rfl, GT_t 885 (by decide +kernel) rfl, GT_p (y := yX8_goes) (n := 17) 27 (by decide +kernel)⟩
theorem kv_X8_105 : KV RX8 105 mX8_wentTo 3 := ⟨kc_X8_wentTo, GT_t 887 (by decide +kernel) rfl, GT_t 889 (by decide +kernel) rfl, GT_p (y := yX8_wentTo) (n := 17) 28 (by decide +kernel)⟩
theorem kv_X8_116 : KV RX8 116 mX8_sums 0 := ⟨kc_X8_sums, GT_t 891 (by decide +kernel) rfl, GT_t 893 (by decide +kernel) rfl, GT_p (y := yX8_sums) (n := 17) 29 (by decide +kernel)⟩
theorem kv_L_67 : KV RL 67 mX8_bribe 1 := ⟨kc_X8_bribe, GT_t 895 (by decide +kernel) rfl, GT_t 896 (by decide +kernel) rfl, GT_t 897 (by decide +kernel) rfl⟩
theorem kv_L_71 : KV RL 71 mX8_now 1 := ⟨kc_X8_now, GT_t 899 (by decide +kernel) rfl, GT_t 900 (by decide +kernel) rfl, GT_t 901 (by decide +kernel) rfl⟩
theorem kv_L_75 : KV RL 75 mX8_on 3 := ⟨kc_X8_on, GT_t 903 (by decide +kernel) rfl, GT_t 904 (by decide +kernel) rfl, GT_t 905 (by decide +kernel) rfl⟩
theorem kv_X8_124 : KV RX8 124 mX8_thinks 0 := ⟨kc_X8_thinks, GT_t 907 (by decide +kernel) rfl, GT_t 909 (by decide +kernel) rfl, GT_p (y := yX8_thinks) (n := 17) 30 (by decide +kernel)⟩
theorem ks_X8_120 : KS RX8 120 mX8_copyAll 2 := ⟨kc_X8_copyAll, GT_t 911 (by decide +kernel) rfl, GT_t 912 (by decide +kernel) rfl⟩
theorem kv_X8_127 : KV RX8 127 mX8_putsBack 0 := ⟨kc_X8_putsBack, GT_t 914 (by decide +kernel) rfl, GT_t 916 (by decide +kernel) rfl, GT_p (y := yX8_putsBack) (n := 17) 31 (by decide +kernel)⟩
theorem kv_L_79 : KV RL 79 mX8_comes 2 := ⟨kc_X8_comes, GT_t 918 (by decide +kernel) rfl, GT_t 919 (by decide +kernel) rfl, GT_t 920 (by decide +kernel) rfl⟩
theorem kv_L_83 : KV RL 83 mX8_meet 2 := ⟨kc_X8_meet, GT_t 922 (by decide +kernel) rfl, GT_t 923 (by decide +kernel) rfl, GT_t 924 (by decide +kernel) rfl⟩
theorem kv_L_87 : KV RL 87 mX8_bribes 3 := ⟨kc_X8_bribes, GT_t 926 (by decide +kernel) rfl, GT_t 927 (by decide +kernel) rfl, GT_t 928 (by decide +kernel) rfl⟩
theorem kv_X8_133 : KV RX8 133 mX8_begins 1 := ⟨kc_X8_begins, GT_t 930 (by decide +kernel) rfl, GT_t 932 (by decide +kernel) rfl, GT_p (y := yX8_begins) (n := 17) 32 (by decide +kernel)⟩
theorem kv_X8_136 : KV RX8 136 mX8_dayOn 2 := ⟨kc_X8_dayOn, GT_t 934 (by decide +kernel) rfl, GT_t 936 (by decide +kernel) rfl, GT_p (y := yX8_dayOn) (n := 17) 33 (by decide +kernel)⟩
theorem kv_X8_130 : KV RX8 130 mX8_cheaper 2 := ⟨kc_X8_cheaper, GT_t 938 (by decide +kernel) rfl, GT_t 940 (by decide +kernel) rfl, GT_p (y := yX8_cheaper) (n := 17) 34 (by decide +kernel)⟩
theorem kv_L_91 : KV RL 91 mX8_soonest 3 := ⟨kc_X8_soonest, GT_t 942 (by decide +kernel) rfl, GT_t 943 (by decide +kernel) rfl, GT_t 944 (by decide +kernel) rfl⟩
theorem kv_L_96 : KV RL 96 mX8_reach 2 := ⟨kc_X8_reach, GT_t 946 (by decide +kernel) rfl, GT_t 947 (by decide +kernel) rfl, GT_t 948 (by decide +kernel) rfl⟩
theorem kv_L_100 : KV RL 100 mX8_swap 1 := ⟨kc_X8_swap, GT_t 950 (by decide +kernel) rfl, GT_t 951 (by decide +kernel) rfl, GT_t 952 (by decide +kernel) rfl⟩
theorem kv_X8_139 : KV RX8 139 mX8_gainOn 1 := ⟨kc_X8_gainOn, GT_t 954 (by decide +kernel) rfl, GT_t 956 (by decide +kernel) rfl, GT_p (y := yX8_gainOn) (n := 17) 35 (by decide +kernel)⟩
theorem kv_L_104 : KV RL 104 mX8_missed 1 := ⟨kc_X8_missed, GT_t 958 (by decide +kernel) rfl, GT_t 959 (by decide +kernel) rfl, GT_t 960 (by decide +kernel) rfl⟩
theorem kv_L_108 : KV RL 108 mX8_enough 2 := ⟨kc_X8_enough, GT_t 962 (by decide +kernel) rfl, GT_t 963 (by decide +kernel) rfl, GT_t 964 (by decide +kernel) rfl⟩
theorem kv_L_112 : KV RL 112 mX8_kind 2 := ⟨kc_X8_kind, GT_t 966 (by decide +kernel) rfl, GT_t 967 (by decide +kernel) rfl, GT_t 968 (by decide +kernel) rfl⟩
theorem kv_X8_142 : KV RX8 142 mX8_bestAt 3 := ⟨kc_X8_bestAt, GT_t 970 (by decide +kernel) rfl, GT_t 972 (by decide +kernel) rfl, GT_p (y := yX8_bestAt) (n := 17) 36 (by decide +kernel)⟩
theorem kv_L_116 : KV RL 116 mX8_facing 2 := ⟨kc_X8_facing, GT_t 974 (by decide +kernel) rfl, GT_t 975 (by decide +kernel) rfl, GT_t 976 (by decide +kernel) rfl⟩
theorem kv_L_120 : KV RL 120 mX8_best 2 := ⟨kc_X8_best, GT_t 978 (by decide +kernel) rfl, GT_t 979 (by decide +kernel) rfl, GT_t 980 (by decide +kernel) rfl⟩
theorem kv_L_124 : KV RL 124 mX8_feed 2 := ⟨kc_X8_feed, GT_t 982 (by decide +kernel) rfl, GT_t 983 (by decide +kernel) rfl, GT_t 984 (by decide +kernel) rfl⟩
theorem kv_L_129 : KV RL 129 mX8_wipe 0 := ⟨kc_X8_wipe, GT_t 986 (by decide +kernel) rfl, GT_t 987 (by decide +kernel) rfl, GT_t 988 (by decide +kernel) rfl⟩
theorem kv_L_133 : KV RL 133 mX8_sea 0 := ⟨kc_X8_sea, GT_t 990 (by decide +kernel) rfl, GT_t 991 (by decide +kernel) rfl, GT_t 992 (by decide +kernel) rfl⟩
theorem kv_X8_178 : KV RX8 178 mX8_reads 0 := ⟨kc_X8_reads, GT_t 994 (by decide +kernel) rfl, GT_t 996 (by decide +kernel) rfl, GT_p (y := yX8_reads) (n := 17) 37 (by decide +kernel)⟩
theorem kv_X8_161 : KV RX8 161 mX8_isByte 3 := ⟨kc_X8_isByte, GT_t 998 (by decide +kernel) rfl, GT_t 1000 (by decide +kernel) rfl, GT_p (y := yX8_isByte) (n := 17) 38 (by decide +kernel)⟩
theorem kv_X8_171 : KV RX8 171 mX8_wordHere 0 := ⟨kc_X8_wordHere, GT_t 1002 (by decide +kernel) rfl, GT_t 1004 (by decide +kernel) rfl, GT_p (y := yX8_wordHere) (n := 17) 39 (by decide +kernel)⟩
theorem kv_X8_158 : KV RX8 158 mX8_isName 2 := ⟨kc_X8_isName, GT_t 1006 (by decide +kernel) rfl, GT_t 1008 (by decide +kernel) rfl, GT_p (y := yX8_isName) (n := 17) 40 (by decide +kernel)⟩
theorem kv_X8_197 : KV RX8 197 mX8_item 0 := ⟨kc_X8_item, GT_t 1012 (by decide +kernel) rfl, GT_t 1014 (by decide +kernel) rfl, GT_p (y := yX8_item) (n := 17) 41 (by decide +kernel)⟩
theorem kv_X8_191 : KV RX8 191 mX8_thingItem 0 := ⟨kc_X8_thingItem, GT_t 1016 (by decide +kernel) rfl, GT_t 1018 (by decide +kernel) rfl, GT_p (y := yX8_thingItem) (n := 17) 42 (by decide +kernel)⟩
theorem kv_X8_181 : KV RX8 181 mX8_passes 1 := ⟨kc_X8_passes, GT_t 1020 (by decide +kernel) rfl, GT_t 1022 (by decide +kernel) rfl, GT_p (y := yX8_passes) (n := 17) 43 (by decide +kernel)⟩
theorem kv_X8_184 : KV RX8 184 mX8_number 2 := ⟨kc_X8_number, GT_t 1024 (by decide +kernel) rfl, GT_t 1026 (by decide +kernel) rfl, GT_p (y := yX8_number) (n := 17) 44 (by decide +kernel)⟩
theorem kv_X8_187 : KV RX8 187 mX8_perhaps 4 := ⟨kc_X8_perhaps, GT_t 1028 (by decide +kernel) rfl, GT_t 1030 (by decide +kernel) rfl, GT_p (y := yX8_perhaps) (n := 17) 45 (by decide +kernel)⟩
theorem kv_X8_194 : KV RX8 194 mX8_rotaItem 0 := ⟨kc_X8_rotaItem, GT_t 1032 (by decide +kernel) rfl, GT_t 1034 (by decide +kernel) rfl, GT_p (y := yX8_rotaItem) (n := 17) 46 (by decide +kernel)⟩
theorem kv_L_137 : KV RL 137 mX8_sheet 3 := ⟨kc_X8_sheet, GT_t 1036 (by decide +kernel) rfl, GT_t 1037 (by decide +kernel) rfl, GT_t 1038 (by decide +kernel) rfl⟩
theorem ks_X8_200 : KS RX8 200 mX8_isSheet 1 := ⟨kc_X8_isSheet, GT_t 1040 (by decide +kernel) rfl, GT_t 1041 (by decide +kernel) rfl⟩
theorem kv_L_144 : KV RL 144 mX8_write 3 := ⟨kc_X8_write, GT_t 1044 (by decide +kernel) rfl, GT_t 1045 (by decide +kernel) rfl, GT_t 1046 (by decide +kernel) rfl⟩
theorem kv_X8_205 : KV RX8 205 mX8_notThere 1 := ⟨kc_X8_notThere, GT_t 1048 (by decide +kernel) rfl, GT_t 1050 (by decide +kernel) rfl, GT_p (y := yX8_notThere) (n := 17) 47 (by decide +kernel)⟩
theorem ks_X8_208 : KS RX8 208 mX8_cutTo 2 := ⟨kc_X8_cutTo, GT_t 1053 (by decide +kernel) rfl, GT_t 1054 (by decide +kernel) rfl⟩
theorem kv_L_149 : KV RL 149 mX8_copy 5 := ⟨kc_X8_copy, GT_t 1056 (by decide +kernel) rfl, GT_t 1057 (by decide +kernel) rfl, GT_t 1058 (by decide +kernel) rfl⟩
theorem kv_X8_212 : KV RX8 212 mX8_notCopied 5 := ⟨kc_X8_notCopied, GT_t 1060 (by decide +kernel) rfl, GT_t 1062 (by decide +kernel) rfl, GT_p (y := yX8_notCopied) (n := 17) 48 (by decide +kernel)⟩
theorem kv_L_153 : KV RL 153 mX8_lays 1 := ⟨kc_X8_lays, GT_t 1064 (by decide +kernel) rfl, GT_t 1065 (by decide +kernel) rfl, GT_t 1066 (by decide +kernel) rfl⟩
theorem kv_L_157 : KV RL 157 mX8_book 2 := ⟨kc_X8_book, GT_t 1068 (by decide +kernel) rfl, GT_t 1069 (by decide +kernel) rfl, GT_t 1070 (by decide +kernel) rfl⟩
theorem kv_X8_216 : KV RX8 216 mX8_notAsked 2 := ⟨kc_X8_notAsked, GT_t 1072 (by decide +kernel) rfl, GT_t 1074 (by decide +kernel) rfl, GT_p (y := yX8_notAsked) (n := 17) 49 (by decide +kernel)⟩
theorem kv_L_161 : KV RL 161 mX8_read 2 := ⟨kc_X8_read, GT_t 1076 (by decide +kernel) rfl, GT_t 1077 (by decide +kernel) rfl, GT_t 1078 (by decide +kernel) rfl⟩
theorem kv_X8_219 : KV RX8 219 mX8_isBook 2 := ⟨kc_X8_isBook, GT_t 1080 (by decide +kernel) rfl, GT_t 1082 (by decide +kernel) rfl, GT_p (y := yX8_isBook) (n := 17) 50 (by decide +kernel)⟩
theorem kv_L_165 : KV RL 165 mX8_image 0 := ⟨kc_X8_image, GT_t 1084 (by decide +kernel) rfl, GT_t 1085 (by decide +kernel) rfl, GT_t 1086 (by decide +kernel) rfl⟩
theorem kv_L_169 : KV RL 169 mX8_undo 0 := ⟨kc_X8_undo, GT_t 1088 (by decide +kernel) rfl, GT_t 1089 (by decide +kernel) rfl, GT_t 1090 (by decide +kernel) rfl⟩
theorem kv_L_173 : KV RL 173 mX8_tear 0 := ⟨kc_X8_tear, GT_t 1092 (by decide +kernel) rfl, GT_t 1093 (by decide +kernel) rfl, GT_t 1094 (by decide +kernel) rfl⟩
theorem kv_L_177 : KV RL 177 mX8_count 1 := ⟨kc_X8_count, GT_t 1096 (by decide +kernel) rfl, GT_t 1097 (by decide +kernel) rfl, GT_t 1098 (by decide +kernel) rfl⟩
theorem kv_X8_225 : KV RX8 225 mX8_sickOnes 0 := ⟨kc_X8_sickOnes, GT_t 1100 (by decide +kernel) rfl, GT_t 1102 (by decide +kernel) rfl, GT_p (y := yX8_sickOnes) (n := 17) 51 (by decide +kernel)⟩
theorem kv_X8_228 : KV RX8 228 mX8_calms 0 := ⟨kc_X8_calms, GT_t 1104 (by decide +kernel) rfl, GT_t 1106 (by decide +kernel) rfl, GT_p (y := yX8_calms) (n := 17) 52 (by decide +kernel)⟩
theorem kv_L_181 : KV RL 181 mX8_status 1 := ⟨kc_X8_status, GT_t 1108 (by decide +kernel) rfl, GT_t 1109 (by decide +kernel) rfl, GT_t 1110 (by decide +kernel) rfl⟩
theorem kn_X7_cellBehind : KC mX7_cellBehind 2 ∧ Cond.static yX7_cellBehind ∈ GT := ⟨kc_X7_cellBehind, GT_t 259 (by decide +kernel) rfl⟩
theorem kn_X7_within : KC mX7_within 2 ∧ Cond.static yX7_within ∈ GT := ⟨kc_X7_within, GT_t 215 (by decide +kernel) rfl⟩
end
section
/-! helpers over numbers; the static functions of both -/
/-- the same for a method of the JDK -/
theorem Ct.ofJ {G : gG} {Y : gY} {dd : Nat} {vs : List Value} {M : gM} {Q : Option Value → gM → Prop} (hy : plainFor Y.1 = true) {k : Nat} {ls0 : List (Option Value)} (h0 : entL vs ++ List.replicate k none = ls0) (hn : ls0.length = Y.2.2.1) (hrt : ∀ ty, Y.2.2.2 = some ty → True)
    (body : ∀ P : gP, Bd G Y.2.1 Y.1.cls Y.2.2.1 dd Y.2.2.2 Q P → P 0 ls0 [] M) : Ct G Y dd vs M Q := by
  intro l
  refine va_MetF (cc := Y.2.1) (maxL := Y.2.2.1) (ret := Y.2.2.2) hy rfl ?_
  intro p e s m args below meth c s₁ B hml hv
  obtain ⟨rfl, hgS, hgH⟩ := hv
  have hts := atoms_spec (ws := wsY Y) B.pre
  have hown : s.vm.findClass Y.1.cls = some m.cls := findClass_of_methodNamed B.named
  have hlocks := B.notSynchronized
  have hx := B.exec
  have hb := B.bytes
  have hr := B.returns
  rw [lg_entry_eq]
  have key := body (fun pc ls st M => ∀ (H : Heap) (locs : List Loc) (lsA : Array Slot), hasL lsA Y.2.2.1 ls → gH G M H → va_S (fr G) s.heap H locs → W p l e (headSpec (wsY Y) (rmD dd)).room s m vs.toArray below meth c H locs 0 0 (MQ below (fun _ st oc t => ∃ (v : Option Value) (M' : gM), oc = .returned v ∧ Q v M' ∧ gH G M' t.heap ∧ va_F (fr G) st t) vs.toArray s 0 0 (fr G)) (F0 m pc lsA st))
    ⟨p, l, e, (headSpec (wsY Y) (rmD dd)).room, s, m, vs.toArray, below, meth, c, 0, 0, _, hx, hb, hml, hown, fun w hw => hts w (List.mem_cons_of_mem _ hw), ⟨Nat.le_refl dd, Nat.le_refl (30 * dd), Nat.le_refl 0, Nat.le_refl 0⟩, hgS, fun pc ls st M => Iff.rfl, ?_, ?_, ?_⟩
  · exact key s.heap [] _ (hasL_entry vs h0 hn) hgH va_S.rf
  · intro pc ls x M' ty hty hd hnar hQ H locs lsA h1 h2 h3
    exact W.zret (ty := ty) hx hb (by rw [hr]; exact hty) hnar (fun t ht hW => ⟨_, M', rfl, hQ, by rw [ht]; exact h2, h3.F ht⟩) h3.2.2 hd
  · intro pc ls x M' hty hd hQ H locs lsA h1 h2 h3
    exact W.lret hx hb (by rw [hr]; exact hty) (fun t ht hW => ⟨_, M', rfl, hQ, by rw [ht]; exact h2, h3.F ht⟩) h3.2.2 hd
  · intro pc ls M' hty hd hQ H locs lsA h1 h2 h3
    exact W.vret hx hb (by rw [hr]; exact hty) (fun t ht hW => ⟨_, M', rfl, hQ, by rw [ht]; exact h2, h3.F ht⟩) h3.2.2 hd
def bI (p : Prop) [Decidable p] : Int32 := if p then nI 1 else nI 0
theorem bI_t {p : Prop} [Decidable p] (h : p) : bI p = nI 1 := if_pos h
theorem bI_f {p : Prop} [Decidable p] (h : ¬ p) : bI p = nI 0 := if_neg h
theorem bI_0 {p : Prop} [Decidable p] : bI p = nI 0 ↔ ¬ p := by
  unfold bI
  split
  · exact ⟨fun h => absurd h (by decide), fun h => absurd ‹p› h⟩
  · exact ⟨fun _ => ‹_›, fun _ => rfl⟩
theorem bI_n {p : Prop} [Decidable p] : narrow .boolean (.int (bI p)) = .int (bI p) := by unfold bI; split <;> rfl
theorem bI_c {p q : Prop} [Decidable p] [Decidable q] (h : p ↔ q) : bI p = bI q := by unfold bI; simp [h]
theorem cv_lt {x y : Int32} : x < y ↔ x.toInt < y.toInt := Int32.lt_iff_toInt_lt
theorem cv_le {x y : Int32} : x ≤ y ↔ x.toInt ≤ y.toInt := Int32.le_iff_toInt_le
theorem cv_eq {x y : Int32} : x = y ↔ x.toInt = y.toInt := Int32.toInt_inj.symm
theorem cv_0 : (nI 0).toInt = 0 := by decide
theorem of_in {x : Int32} {N : Nat} (h : 0 ≤ x.toInt ∧ x.toInt ≤ N) : ∃ n : Nat, n ≤ N ∧ x = nI n := by
  have h2 : N < 2 ^ 31 ∨ 2 ^ 31 ≤ N := by omega
  have h3 := Int32.toInt_lt x
  refine ⟨x.toInt.toNat, by omega, ?_⟩
  rw [cv_eq, nI_toInt (by omega)]
  omega
theorem i64_toInt (x : Int32) : x.toInt64.toInt = x.toInt := Int32.toInt_toInt64 x
theorem lc_c (x y : Int64) : (lg_cmp x y).toInt = if y.toInt < x.toInt then 1 else if x.toInt = y.toInt then 0 else -1 := by
  unfold lg_cmp
  simp only [gt_iff_lt, Int64.lt_iff_toInt_lt, ← Int64.toInt_inj]
  split
  · rfl
  · split <;> rfl
theorem lc_lt {x y : Int64} : lg_cmp x y < nI 0 ↔ x.toInt < y.toInt := by
  rw [cv_lt, lc_c, cv_0]; split <;> (try split) <;> omega
theorem lc_gt {x y : Int64} : nI 0 < lg_cmp x y ↔ y.toInt < x.toInt := by
  rw [cv_lt, lc_c, cv_0]; split <;> (try split) <;> omega
theorem lc_ge {x y : Int64} : nI 0 ≤ lg_cmp x y ↔ y.toInt ≤ x.toInt := by
  rw [cv_le, lc_c, cv_0]; split <;> (try split) <;> omega
theorem lc_le {x y : Int64} : lg_cmp x y ≤ nI 0 ↔ x.toInt ≤ y.toInt := by
  rw [cv_le, lc_c, cv_0]; split <;> (try split) <;> omega
theorem lc_eq {x y : Int64} : lg_cmp x y = nI 0 ↔ x.toInt = y.toInt := by
  rw [cv_eq, lc_c, cv_0]; split <;> (try split) <;> omega
theorem gcnt_4 : gcnt 4 = 26 := rfl
theorem gcnt_1 : gcnt 1 = 3 := rfl
theorem gcnt_2 : gcnt 2 = 3 := rfl
theorem gcnt_3 : gcnt 3 = 3 := rfl
theorem gcnt_12 : gcnt 12 = 4 := rfl
theorem gcnt_13 : gcnt 13 = 4 := rfl
theorem gcnt_16 : gcnt 16 = 3 := rfl
section Rows
variable {G : gG} {cc : ByteArray} {own : String} {nL d : Nat} {rt : Option FieldType} {Q : Option Value → gM → Prop} {P : gP} {pc : Nat} {ls : List (Option Value)} {st : List Value} {M : gM}
theorem r_ldcN (hR : Bd G cc own nL d rt Q P) {i : Nat} {x : Int32} (hw : Cond.constant own i x ∈ GT) (n : Nat) (h : x = nI n) (hd : decode cc pc = .ok (.ldc i, 2)) (k : P (pc + 2) ls (.int (nI n) :: st) M) : P pc ls st M := r_ldc hR hw hd (by rw [h]; exact k)
theorem r_iaddN (hR : Bd G cc own nL d rt Q P) {a b : Nat} (hd : decode cc pc = .ok (.iadd, 1)) (k : P (pc + 1) ls (.int (nI (a + b)) :: st) M) : P pc ls (.int (nI b) :: .int (nI a) :: st) M := r_iadd hR hd (by rw [nI_add]; exact k)
theorem r_imulN (hR : Bd G cc own nL d rt Q P) {a b : Nat} (hd : decode cc pc = .ok (.imul, 1)) (k : P (pc + 1) ls (.int (nI (a * b)) :: st) M) : P pc ls (.int (nI b) :: .int (nI a) :: st) M := r_imul hR hd (by rw [pk_mul]; exact k)
theorem r_isubN (hR : Bd G cc own nL d rt Q P) {a b : Nat} (h : b ≤ a) (hd : decode cc pc = .ok (.isub, 1)) (k : P (pc + 1) ls (.int (nI (a - b)) :: st) M) : P pc ls (.int (nI b) :: .int (nI a) :: st) M := r_isub hR hd (by rw [pk_sub h]; exact k)
theorem r_idivN (hR : Bd G cc own nL d rt Q P) {a b : Nat} (ha : a < 2 ^ 31) (h0 : 0 < b) (hb : b < 2 ^ 31) (hd : decode cc pc = .ok (.idiv, 1)) (k : P (pc + 1) ls (.int (nI (a / b)) :: st) M) : P pc ls (.int (nI b) :: .int (nI a) :: st) M := r_idiv hR (nI_ne0 h0 hb) hd (by rw [pk_div ha h0 hb]; exact k)
theorem r_iremN (hR : Bd G cc own nL d rt Q P) {a b : Nat} (ha : a < 2 ^ 31) (h0 : 0 < b) (hb : b < 2 ^ 31) (hd : decode cc pc = .ok (.irem, 1)) (k : P (pc + 1) ls (.int (nI (a % b)) :: st) M) : P pc ls (.int (nI b) :: .int (nI a) :: st) M := r_irem hR (nI_ne0 h0 hb) hd (by rw [pk_rem ha h0 hb]; exact k)
theorem r_iincN0 (hR : Bd G cc own nL d rt Q P) {r : List (Option Value)} {x : Nat} (hd : decode cc pc = .ok (.iinc 0 1, 3)) (k : P (pc + 3) (some (.int (nI (x + 1))) :: r) st M) : P pc (some (.int (nI x)) :: r) st M := r_iinc0 hR (nI 1) (by decide) hd (by rw [nI_add]; exact k)
theorem r_iincN1 (hR : Bd G cc own nL d rt Q P) {a0 : Option Value} {r : List (Option Value)} {x : Nat} (ho : ∀ v, a0 = some v → v.category = 1) (hd : decode cc pc = .ok (.iinc 1 1, 3)) (k : P (pc + 3) (a0 :: some (.int (nI (x + 1))) :: r) st M) : P pc (a0 :: some (.int (nI x)) :: r) st M := r_iinc1 hR (nI 1) (by decide) ho hd (by rw [nI_add]; exact k)
theorem r_iincN2 (hR : Bd G cc own nL d rt Q P) {a0 a1 : Option Value} {r : List (Option Value)} {x : Nat} (ho : ∀ v, a1 = some v → v.category = 1) (hd : decode cc pc = .ok (.iinc 2 1, 3)) (k : P (pc + 3) (a0 :: a1 :: some (.int (nI (x + 1))) :: r) st M) : P pc (a0 :: a1 :: some (.int (nI x)) :: r) st M := r_iinc2 hR (nI 1) (by decide) ho hd (by rw [nI_add]; exact k)
theorem r_iincN3 (hR : Bd G cc own nL d rt Q P) {a0 a1 a2 : Option Value} {r : List (Option Value)} {x : Nat} (ho : ∀ v, a2 = some v → v.category = 1) (hd : decode cc pc = .ok (.iinc 3 1, 3)) (k : P (pc + 3) (a0 :: a1 :: a2 :: some (.int (nI (x + 1))) :: r) st M) : P pc (a0 :: a1 :: a2 :: some (.int (nI x)) :: r) st M := r_iinc3 hR (nI 1) (by decide) ho hd (by rw [nI_add]; exact k)
theorem r_iincN4 (hR : Bd G cc own nL d rt Q P) {a0 a1 a2 a3 : Option Value} {r : List (Option Value)} {x : Nat} (ho : ∀ v, a3 = some v → v.category = 1) (hd : decode cc pc = .ok (.iinc 4 1, 3)) (k : P (pc + 3) (a0 :: a1 :: a2 :: a3 :: some (.int (nI (x + 1))) :: r) st M) : P pc (a0 :: a1 :: a2 :: a3 :: some (.int (nI x)) :: r) st M := r_iinc4 hR (nI 1) (by decide) ho hd (by rw [nI_add]; exact k)
theorem r_iincN5 (hR : Bd G cc own nL d rt Q P) {a0 a1 a2 a3 a4 : Option Value} {r : List (Option Value)} {x : Nat} (ho : ∀ v, a4 = some v → v.category = 1) (hd : decode cc pc = .ok (.iinc 5 1, 3)) (k : P (pc + 3) (a0 :: a1 :: a2 :: a3 :: a4 :: some (.int (nI (x + 1))) :: r) st M) : P pc (a0 :: a1 :: a2 :: a3 :: a4 :: some (.int (nI x)) :: r) st M := r_iinc5 hR (nI 1) (by decide) ho hd (by rw [nI_add]; exact k)
theorem r_iincN6 (hR : Bd G cc own nL d rt Q P) {a0 a1 a2 a3 a4 a5 : Option Value} {r : List (Option Value)} {x : Nat} (ho : ∀ v, a5 = some v → v.category = 1) (hd : decode cc pc = .ok (.iinc 6 1, 3)) (k : P (pc + 3) (a0 :: a1 :: a2 :: a3 :: a4 :: a5 :: some (.int (nI (x + 1))) :: r) st M) : P pc (a0 :: a1 :: a2 :: a3 :: a4 :: a5 :: some (.int (nI x)) :: r) st M := r_iinc6 hR (nI 1) (by decide) ho hd (by rw [nI_add]; exact k)
theorem r_iincN7 (hR : Bd G cc own nL d rt Q P) {a0 a1 a2 a3 a4 a5 a6 : Option Value} {r : List (Option Value)} {x : Nat} (ho : ∀ v, a6 = some v → v.category = 1) (hd : decode cc pc = .ok (.iinc 7 1, 3)) (k : P (pc + 3) (a0 :: a1 :: a2 :: a3 :: a4 :: a5 :: a6 :: some (.int (nI (x + 1))) :: r) st M) : P pc (a0 :: a1 :: a2 :: a3 :: a4 :: a5 :: a6 :: some (.int (nI x)) :: r) st M := r_iinc7 hR (nI 1) (by decide) ho hd (by rw [nI_add]; exact k)
theorem r_iincN8 (hR : Bd G cc own nL d rt Q P) {a0 a1 a2 a3 a4 a5 a6 a7 : Option Value} {r : List (Option Value)} {x : Nat} (ho : ∀ v, a7 = some v → v.category = 1) (hd : decode cc pc = .ok (.iinc 8 1, 3)) (k : P (pc + 3) (a0 :: a1 :: a2 :: a3 :: a4 :: a5 :: a6 :: a7 :: some (.int (nI (x + 1))) :: r) st M) : P pc (a0 :: a1 :: a2 :: a3 :: a4 :: a5 :: a6 :: a7 :: some (.int (nI x)) :: r) st M := r_iinc8 hR (nI 1) (by decide) ho hd (by rw [nI_add]; exact k)
theorem r_iincN9 (hR : Bd G cc own nL d rt Q P) {a0 a1 a2 a3 a4 a5 a6 a7 a8 : Option Value} {r : List (Option Value)} {x : Nat} (ho : ∀ v, a8 = some v → v.category = 1) (hd : decode cc pc = .ok (.iinc 9 1, 3)) (k : P (pc + 3) (a0 :: a1 :: a2 :: a3 :: a4 :: a5 :: a6 :: a7 :: a8 :: some (.int (nI (x + 1))) :: r) st M) : P pc (a0 :: a1 :: a2 :: a3 :: a4 :: a5 :: a6 :: a7 :: a8 :: some (.int (nI x)) :: r) st M := r_iinc9 hR (nI 1) (by decide) ho hd (by rw [nI_add]; exact k)
theorem r_iincN10 (hR : Bd G cc own nL d rt Q P) {a0 a1 a2 a3 a4 a5 a6 a7 a8 a9 : Option Value} {r : List (Option Value)} {x : Nat} (ho : ∀ v, a9 = some v → v.category = 1) (hd : decode cc pc = .ok (.iinc 10 1, 3)) (k : P (pc + 3) (a0 :: a1 :: a2 :: a3 :: a4 :: a5 :: a6 :: a7 :: a8 :: a9 :: some (.int (nI (x + 1))) :: r) st M) : P pc (a0 :: a1 :: a2 :: a3 :: a4 :: a5 :: a6 :: a7 :: a8 :: a9 :: some (.int (nI x)) :: r) st M := r_iinc10 hR (nI 1) (by decide) ho hd (by rw [nI_add]; exact k)
theorem r_swInN (hR : Bd G cc own nL d rt Q P) {k : Nat} (v : Nat) (hk : k = v) (hv : v < 2 ^ 31) {dflt lo hi : Int} {offs : Array Int} {len : Nat} {off : Int} (tgt : Nat) (hd : decode cc pc = .ok (.tableswitch dflt lo hi offs, len)) (h1 : ¬ (v : Int) < lo) (h2 : ¬ hi < (v : Int)) (ho : offs[((v : Int) - lo).toNat]? = some off) (ht : (pc : Int) + off = (tgt : Int)) (kk : P tgt ls st M) : P pc ls (.int (nI k) :: st) M := by
  subst hk
  exact r_swIn hR tgt hd (by rw [nI_toInt hv]; exact h1) (by rw [nI_toInt hv]; exact h2) (by rw [nI_toInt hv]; exact ho) ht kk
theorem r_swOutN (hR : Bd G cc own nL d rt Q P) {k : Nat} (hk : k < 2 ^ 31) {dflt lo hi : Int} {offs : Array Int} {len : Nat} (tgt : Nat) (hd : decode cc pc = .ok (.tableswitch dflt lo hi offs, len)) (h : (k : Int) < lo ∨ hi < (k : Int)) (ht : (pc : Int) + dflt = (tgt : Int)) (kk : P tgt ls st M) : P pc ls (.int (nI k) :: st) M :=
  r_swOut hR tgt hd (by rw [nI_toInt hk]; exact h) ht kk
end Rows
theorem seti_r (M : gM) (r i k : Nat) (x : Int32) (r' i' k' : Nat) : (seti M r i k x).1 r' i' k' = if r' = r ∧ i' = i ∧ k' = k then x else M.1 r' i' k' := by
  unfold seti
  by_cases h : r' = r ∧ i' = i
  · obtain ⟨rfl, rfl⟩ := h
    simp [upd]
  · have : ¬ (r' = r ∧ i' = i ∧ k' = k) := fun q => h ⟨q.1, q.2.1⟩
    simp only [if_neg h, if_neg this]
theorem setl_r (M : gM) (r i k : Nat) (x : Int64) (r' i' k' : Nat) : (setl M r i k x).2 r' i' k' = if r' = r ∧ i' = i ∧ k' = k then x else M.2 r' i' k' := by
  unfold setl
  by_cases h : r' = r ∧ i' = i
  · obtain ⟨rfl, rfl⟩ := h
    simp [vp_updL]
  · have : ¬ (r' = r ∧ i' = i ∧ k' = k) := fun q => h ⟨q.1, q.2.1⟩
    simp only [if_neg h, if_neg this]
theorem setl_1 (M : gM) (r i k : Nat) (x : Int64) : (setl M r i k x).1 = M.1 := rfl
theorem seti_2 (M : gM) (r i k : Nat) (x : Int32) : (seti M r i k x).2 = M.2 := rfl
theorem nx_or (a b : Nat) : nI a ||| nI b = nI (a ||| b) := by
  apply Int32.toBitVec_inj.mp
  show (BitVec.ofNat 32 a) ||| (BitVec.ofNat 32 b) = BitVec.ofNat 32 (a ||| b)
  rw [BitVec.ofNat_or]
theorem nx_and (a b : Nat) : nI a &&& nI b = nI (a &&& b) := by
  apply Int32.toBitVec_inj.mp
  show (BitVec.ofNat 32 a) &&& (BitVec.ofNat 32 b) = BitVec.ofNat 32 (a &&& b)
  rw [BitVec.ofNat_and]
theorem nx_xor (a b : Nat) : nI a ^^^ nI b = nI (a ^^^ b) := by
  apply Int32.toBitVec_inj.mp
  show (BitVec.ofNat 32 a) ^^^ (BitVec.ofNat 32 b) = BitVec.ofNat 32 (a ^^^ b)
  rw [BitVec.ofNat_xor]
theorem mx0 {a b : Nat} (ha : a < 2 ^ 30) (hb : b < 2 ^ 30) : (if nI 0 < nI a - nI b then nI a - nI b else nI 0) = nI (a - b) := by
  have h := pk_sub_toInt ha hb
  by_cases q : b < a
  · rw [if_pos (by rw [cv_lt, h, cv_0]; omega), pk_sub (by omega)]
  · rw [if_neg (by rw [cv_lt, h, cv_0]; omega), show a - b = 0 by omega]
theorem mn {a b : Nat} (ha : a < 2 ^ 31) (hb : b < 2 ^ 31) : (if nI b < nI a then nI b else nI a) = nI (if a < b then a else b) := by
  simp only [nI_ltI hb ha]
  split <;> split <;> first | rfl | omega | (congr 1; omega)
set_option maxHeartbeats 4000000 in
set_option maxRecDepth 100000 in
theorem t_X7_within {G : gG} {M : gM} {x y : Int32} : Cf G mX7_within 0 [.int x, .int y] M (some (.int (bI (0 ≤ x.toInt ∧ x.toInt ≤ y.toInt)))) M := by
  refine Ct.of (by decide) (k := 0) rfl rfl (fun _ _ => trivial) ?_
  intro P hR
  refine r_iload0 hR dX7_within_0 ?_
  refine r_if_lt hR 13 dX7_within_1 (by decide) (fun c1 => ?_) (fun c1 => ?_)
  · try simp (disch := omega) only [nI_ltI, nI_leI, nI_eq, bI_0, Decidable.not_not, lc_lt, lc_gt, lc_ge, lc_le, lc_eq, i64_toInt] at c1
    try simp (disch := omega) only [cv_lt, cv_le, cv_eq, nI_toInt, cv_0] at c1
    first
    | omega
    | refine r_iconst hR (nI 0) (by decide) dX7_within_13 ?_
      refine r_zret hR dX7_within_14 rfl ?_
      refine ⟨?_, rfl⟩
      first | (rw [bI_t]; omega) | (rw [bI_f]; omega)
  · try simp (disch := omega) only [nI_ltI, nI_leI, nI_eq, bI_0, Decidable.not_not, lc_lt, lc_gt, lc_ge, lc_le, lc_eq, i64_toInt] at c1
    try simp (disch := omega) only [cv_lt, cv_le, cv_eq, nI_toInt, cv_0] at c1
    first
    | omega
    | refine r_iload0 hR dX7_within_4 ?_
      refine r_iload1 hR dX7_within_5 ?_
      refine r_icmp_gt hR 13 dX7_within_6 (by decide) (fun c6 => ?_) (fun c6 => ?_)
      · try simp (disch := omega) only [nI_ltI, nI_leI, nI_eq, bI_0, Decidable.not_not, lc_lt, lc_gt, lc_ge, lc_le, lc_eq, i64_toInt] at c6
        try simp (disch := omega) only [cv_lt, cv_le, cv_eq, nI_toInt, cv_0] at c6
        first
        | omega
        | refine r_iconst hR (nI 0) (by decide) dX7_within_13 ?_
          refine r_zret hR dX7_within_14 rfl ?_
          refine ⟨?_, rfl⟩
          first | (rw [bI_t]; omega) | (rw [bI_f]; omega)
      · try simp (disch := omega) only [nI_ltI, nI_leI, nI_eq, bI_0, Decidable.not_not, lc_lt, lc_gt, lc_ge, lc_le, lc_eq, i64_toInt] at c6
        try simp (disch := omega) only [cv_lt, cv_le, cv_eq, nI_toInt, cv_0] at c6
        first
        | omega
        | refine r_iconst hR (nI 1) (by decide) dX7_within_9 ?_
          refine r_goto hR 14 dX7_within_10 (by decide) ?_
          refine r_zret hR dX7_within_14 rfl ?_
          refine ⟨?_, rfl⟩
          first | (rw [bI_t]; omega) | (rw [bI_f]; omega)

set_option maxHeartbeats 4000000 in
set_option maxRecDepth 100000 in
theorem t_X7_isSpan {G : gG} {M : gM} {x y : Int32} : Cf G mX7_isSpan 0 [.int x, .int y] M (some (.int (bI (1 ≤ x.toInt ∧ x.toInt ≤ y.toInt)))) M := by
  refine Ct.of (by decide) (k := 0) rfl rfl (fun _ _ => trivial) ?_
  intro P hR
  refine r_iload0 hR dX7_isSpan_0 ?_
  refine r_iconst hR (nI 1) (by decide) dX7_isSpan_1 ?_
  refine r_icmp_lt hR 14 dX7_isSpan_2 (by decide) (fun c2 => ?_) (fun c2 => ?_)
  · try simp (disch := omega) only [nI_ltI, nI_leI, nI_eq, bI_0, Decidable.not_not, lc_lt, lc_gt, lc_ge, lc_le, lc_eq, i64_toInt] at c2
    try simp (disch := omega) only [cv_lt, cv_le, cv_eq, nI_toInt, cv_0] at c2
    first
    | omega
    | refine r_iconst hR (nI 0) (by decide) dX7_isSpan_14 ?_
      refine r_zret hR dX7_isSpan_15 rfl ?_
      refine ⟨?_, rfl⟩
      first | (rw [bI_t]; omega) | (rw [bI_f]; omega)
  · try simp (disch := omega) only [nI_ltI, nI_leI, nI_eq, bI_0, Decidable.not_not, lc_lt, lc_gt, lc_ge, lc_le, lc_eq, i64_toInt] at c2
    try simp (disch := omega) only [cv_lt, cv_le, cv_eq, nI_toInt, cv_0] at c2
    first
    | omega
    | refine r_iload0 hR dX7_isSpan_5 ?_
      refine r_iload1 hR dX7_isSpan_6 ?_
      refine r_icmp_gt hR 14 dX7_isSpan_7 (by decide) (fun c7 => ?_) (fun c7 => ?_)
      · try simp (disch := omega) only [nI_ltI, nI_leI, nI_eq, bI_0, Decidable.not_not, lc_lt, lc_gt, lc_ge, lc_le, lc_eq, i64_toInt] at c7
        try simp (disch := omega) only [cv_lt, cv_le, cv_eq, nI_toInt, cv_0] at c7
        first
        | omega
        | refine r_iconst hR (nI 0) (by decide) dX7_isSpan_14 ?_
          refine r_zret hR dX7_isSpan_15 rfl ?_
          refine ⟨?_, rfl⟩
          first | (rw [bI_t]; omega) | (rw [bI_f]; omega)
      · try simp (disch := omega) only [nI_ltI, nI_leI, nI_eq, bI_0, Decidable.not_not, lc_lt, lc_gt, lc_ge, lc_le, lc_eq, i64_toInt] at c7
        try simp (disch := omega) only [cv_lt, cv_le, cv_eq, nI_toInt, cv_0] at c7
        first
        | omega
        | refine r_iconst hR (nI 1) (by decide) dX7_isSpan_10 ?_
          refine r_goto hR 15 dX7_isSpan_11 (by decide) ?_
          refine r_zret hR dX7_isSpan_15 rfl ?_
          refine ⟨?_, rfl⟩
          first | (rw [bI_t]; omega) | (rw [bI_f]; omega)

set_option maxHeartbeats 4000000 in
set_option maxRecDepth 100000 in
theorem t_X7_mostOf {G : gG} {M : gM} {n : Nat} (h : n < 4) : Cf G mX7_mostOf 0 [.int (nI n)] M (some (.int (nI (if n = 1 then 35 else if n = 2 then 7 else 99999)))) M := by
  refine Ct.of (by decide) (k := 0) rfl rfl (fun _ _ => trivial) ?_
  intro P hR
  refine r_iload0 hR dX7_mostOf_0 ?_
  refine r_iconst hR (nI 1) (by decide) dX7_mostOf_1 ?_
  refine r_icmp_ne hR 8 dX7_mostOf_2 (by decide) (fun c2 => ?_) (fun c2 => ?_)
  · try simp (disch := omega) only [nI_ltI, nI_leI, nI_eq, bI_0, Decidable.not_not, lc_lt, lc_gt, lc_ge, lc_le, lc_eq, i64_toInt] at c2
    try simp (disch := omega) only [cv_lt, cv_le, cv_eq, nI_toInt, cv_0] at c2
    first
    | omega
    | refine r_iload0 hR dX7_mostOf_8 ?_
      refine r_iconst hR (nI 2) (by decide) dX7_mostOf_9 ?_
      refine r_icmp_ne hR 18 dX7_mostOf_10 (by decide) (fun c10 => ?_) (fun c10 => ?_)
      · try simp (disch := omega) only [nI_ltI, nI_leI, nI_eq, bI_0, Decidable.not_not, lc_lt, lc_gt, lc_ge, lc_le, lc_eq, i64_toInt] at c10
        try simp (disch := omega) only [cv_lt, cv_le, cv_eq, nI_toInt, cv_0] at c10
        first
        | omega
        | refine r_ldcN hR ct_X7_221 99999 (by decide) dX7_mostOf_18 ?_
          refine r_iret hR dX7_mostOf_20 ?_
          refine ⟨congrArg (fun z => some (Value.int (nI z))) ?_, rfl⟩
          (repeat' split) <;> omega
      · try simp (disch := omega) only [nI_ltI, nI_leI, nI_eq, bI_0, Decidable.not_not, lc_lt, lc_gt, lc_ge, lc_le, lc_eq, i64_toInt] at c10
        try simp (disch := omega) only [cv_lt, cv_le, cv_eq, nI_toInt, cv_0] at c10
        first
        | omega
        | refine r_bipush hR (nI 7) (by decide) dX7_mostOf_13 ?_
          refine r_goto hR 20 dX7_mostOf_15 (by decide) ?_
          refine r_iret hR dX7_mostOf_20 ?_
          refine ⟨congrArg (fun z => some (Value.int (nI z))) ?_, rfl⟩
          (repeat' split) <;> omega
  · try simp (disch := omega) only [nI_ltI, nI_leI, nI_eq, bI_0, Decidable.not_not, lc_lt, lc_gt, lc_ge, lc_le, lc_eq, i64_toInt] at c2
    try simp (disch := omega) only [cv_lt, cv_le, cv_eq, nI_toInt, cv_0] at c2
    first
    | omega
    | refine r_bipush hR (nI 35) (by decide) dX7_mostOf_5 ?_
      refine r_iret hR dX7_mostOf_7 ?_
      refine ⟨congrArg (fun z => some (Value.int (nI z))) ?_, rfl⟩
      (repeat' split) <;> omega

set_option maxHeartbeats 4000000 in
set_option maxRecDepth 100000 in
theorem t_X7_kindAbove {G : gG} {M : gM} {n : Nat} (h : n < 6) : Cf G mX7_kindAbove 0 [.int (nI n)] M (some (.int (nI (if n = 4 then 1 else if n = 5 then 2 else 0)))) M := by
  refine Ct.of (by decide) (k := 0) rfl rfl (fun _ _ => trivial) ?_
  intro P hR
  refine r_iload0 hR dX7_kindAbove_0 ?_
  refine r_iconst hR (nI 4) (by decide) dX7_kindAbove_1 ?_
  refine r_icmp_ne hR 7 dX7_kindAbove_2 (by decide) (fun c2 => ?_) (fun c2 => ?_)
  · try simp (disch := omega) only [nI_ltI, nI_leI, nI_eq, bI_0, Decidable.not_not, lc_lt, lc_gt, lc_ge, lc_le, lc_eq, i64_toInt] at c2
    try simp (disch := omega) only [cv_lt, cv_le, cv_eq, nI_toInt, cv_0] at c2
    first
    | omega
    | refine r_iload0 hR dX7_kindAbove_7 ?_
      refine r_iconst hR (nI 5) (by decide) dX7_kindAbove_8 ?_
      refine r_icmp_ne hR 16 dX7_kindAbove_9 (by decide) (fun c9 => ?_) (fun c9 => ?_)
      · try simp (disch := omega) only [nI_ltI, nI_leI, nI_eq, bI_0, Decidable.not_not, lc_lt, lc_gt, lc_ge, lc_le, lc_eq, i64_toInt] at c9
        try simp (disch := omega) only [cv_lt, cv_le, cv_eq, nI_toInt, cv_0] at c9
        first
        | omega
        | refine r_iconst hR (nI 0) (by decide) dX7_kindAbove_16 ?_
          refine r_iret hR dX7_kindAbove_17 ?_
          refine ⟨congrArg (fun z => some (Value.int (nI z))) ?_, rfl⟩
          (repeat' split) <;> omega
      · try simp (disch := omega) only [nI_ltI, nI_leI, nI_eq, bI_0, Decidable.not_not, lc_lt, lc_gt, lc_ge, lc_le, lc_eq, i64_toInt] at c9
        try simp (disch := omega) only [cv_lt, cv_le, cv_eq, nI_toInt, cv_0] at c9
        first
        | omega
        | refine r_iconst hR (nI 2) (by decide) dX7_kindAbove_12 ?_
          refine r_goto hR 17 dX7_kindAbove_13 (by decide) ?_
          refine r_iret hR dX7_kindAbove_17 ?_
          refine ⟨congrArg (fun z => some (Value.int (nI z))) ?_, rfl⟩
          (repeat' split) <;> omega
  · try simp (disch := omega) only [nI_ltI, nI_leI, nI_eq, bI_0, Decidable.not_not, lc_lt, lc_gt, lc_ge, lc_le, lc_eq, i64_toInt] at c2
    try simp (disch := omega) only [cv_lt, cv_le, cv_eq, nI_toInt, cv_0] at c2
    first
    | omega
    | refine r_iconst hR (nI 1) (by decide) dX7_kindAbove_5 ?_
      refine r_iret hR dX7_kindAbove_6 ?_
      refine ⟨congrArg (fun z => some (Value.int (nI z))) ?_, rfl⟩
      (repeat' split) <;> omega

set_option maxHeartbeats 4000000 in
set_option maxRecDepth 100000 in
theorem t_X8_in {G : gG} {M : gM} {v : Int64} {x y : Int32} : Cf G mX8_in 0 [.long v, .int x, .int y] M (some (.int (bI (x.toInt ≤ v.toInt ∧ v.toInt ≤ y.toInt)))) M := by
  refine Ct.of (by decide) (k := 0) rfl rfl (fun _ _ => trivial) ?_
  intro P hR
  refine r_lload0 hR dX8_in_0 ?_
  refine r_iload2 hR dX8_in_1 ?_
  refine r_i2l hR dX8_in_2 ?_
  refine r_lcmp hR dX8_in_3 ?_
  refine r_if_lt hR 18 dX8_in_4 (by decide) (fun c4 => ?_) (fun c4 => ?_)
  · try simp (disch := omega) only [nI_ltI, nI_leI, nI_eq, bI_0, Decidable.not_not, lc_lt, lc_gt, lc_ge, lc_le, lc_eq, i64_toInt] at c4
    try simp (disch := omega) only [cv_lt, cv_le, cv_eq, nI_toInt, cv_0] at c4
    first
    | omega
    | refine r_iconst hR (nI 0) (by decide) dX8_in_18 ?_
      refine r_zret hR dX8_in_19 rfl ?_
      refine ⟨?_, rfl⟩
      first | (rw [bI_t]; omega) | (rw [bI_f]; omega)
  · try simp (disch := omega) only [nI_ltI, nI_leI, nI_eq, bI_0, Decidable.not_not, lc_lt, lc_gt, lc_ge, lc_le, lc_eq, i64_toInt] at c4
    try simp (disch := omega) only [cv_lt, cv_le, cv_eq, nI_toInt, cv_0] at c4
    first
    | omega
    | refine r_lload0 hR dX8_in_7 ?_
      refine r_iload3 hR dX8_in_8 ?_
      refine r_i2l hR dX8_in_9 ?_
      refine r_lcmp hR dX8_in_10 ?_
      refine r_if_gt hR 18 dX8_in_11 (by decide) (fun c11 => ?_) (fun c11 => ?_)
      · try simp (disch := omega) only [nI_ltI, nI_leI, nI_eq, bI_0, Decidable.not_not, lc_lt, lc_gt, lc_ge, lc_le, lc_eq, i64_toInt] at c11
        try simp (disch := omega) only [cv_lt, cv_le, cv_eq, nI_toInt, cv_0] at c11
        first
        | omega
        | refine r_iconst hR (nI 0) (by decide) dX8_in_18 ?_
          refine r_zret hR dX8_in_19 rfl ?_
          refine ⟨?_, rfl⟩
          first | (rw [bI_t]; omega) | (rw [bI_f]; omega)
      · try simp (disch := omega) only [nI_ltI, nI_leI, nI_eq, bI_0, Decidable.not_not, lc_lt, lc_gt, lc_ge, lc_le, lc_eq, i64_toInt] at c11
        try simp (disch := omega) only [cv_lt, cv_le, cv_eq, nI_toInt, cv_0] at c11
        first
        | omega
        | refine r_iconst hR (nI 1) (by decide) dX8_in_14 ?_
          refine r_goto hR 19 dX8_in_15 (by decide) ?_
          refine r_zret hR dX8_in_19 rfl ?_
          refine ⟨?_, rfl⟩
          first | (rw [bI_t]; omega) | (rw [bI_f]; omega)

set_option maxHeartbeats 4000000 in
set_option maxRecDepth 100000 in
theorem t_X8_held {G : gG} {M : gM} {x y z : Int32} : Cf G mX8_held 0 [.int x, .int y, .int z] M (some (.int (if x.toInt < y.toInt then y else if z.toInt < x.toInt then z else x))) M := by
  refine Ct.of (by decide) (k := 0) rfl rfl (fun _ _ => trivial) ?_
  intro P hR
  refine r_iload0 hR dX8_held_0 ?_
  refine r_iload1 hR dX8_held_1 ?_
  refine r_icmp_ge hR 9 dX8_held_2 (by decide) (fun c2 => ?_) (fun c2 => ?_)
  · try simp (disch := omega) only [nI_ltI, nI_leI, nI_eq, bI_0, Decidable.not_not, lc_lt, lc_gt, lc_ge, lc_le, lc_eq, i64_toInt] at c2
    try simp (disch := omega) only [cv_lt, cv_le, cv_eq, nI_toInt, cv_0] at c2
    first
    | omega
    | refine r_iload0 hR dX8_held_9 ?_
      refine r_iload2 hR dX8_held_10 ?_
      refine r_icmp_le hR 18 dX8_held_11 (by decide) (fun c11 => ?_) (fun c11 => ?_)
      · try simp (disch := omega) only [nI_ltI, nI_leI, nI_eq, bI_0, Decidable.not_not, lc_lt, lc_gt, lc_ge, lc_le, lc_eq, i64_toInt] at c11
        try simp (disch := omega) only [cv_lt, cv_le, cv_eq, nI_toInt, cv_0] at c11
        first
        | omega
        | refine r_iload0 hR dX8_held_18 ?_
          refine r_iret hR dX8_held_19 ?_
          refine ⟨congrArg (fun z => some (Value.int z)) ?_, rfl⟩
          (repeat' split) <;> first | rfl | omega
      · try simp (disch := omega) only [nI_ltI, nI_leI, nI_eq, bI_0, Decidable.not_not, lc_lt, lc_gt, lc_ge, lc_le, lc_eq, i64_toInt] at c11
        try simp (disch := omega) only [cv_lt, cv_le, cv_eq, nI_toInt, cv_0] at c11
        first
        | omega
        | refine r_iload2 hR dX8_held_14 ?_
          refine r_goto hR 19 dX8_held_15 (by decide) ?_
          refine r_iret hR dX8_held_19 ?_
          refine ⟨congrArg (fun z => some (Value.int z)) ?_, rfl⟩
          (repeat' split) <;> first | rfl | omega
  · try simp (disch := omega) only [nI_ltI, nI_leI, nI_eq, bI_0, Decidable.not_not, lc_lt, lc_gt, lc_ge, lc_le, lc_eq, i64_toInt] at c2
    try simp (disch := omega) only [cv_lt, cv_le, cv_eq, nI_toInt, cv_0] at c2
    first
    | omega
    | refine r_iload1 hR dX8_held_5 ?_
      refine r_goto hR 19 dX8_held_6 (by decide) ?_
      refine r_iret hR dX8_held_19 ?_
      refine ⟨congrArg (fun z => some (Value.int z)) ?_, rfl⟩
      (repeat' split) <;> first | rfl | omega
end
section
/-! THE MATHEMATICS: a sea is a row S of numbers: 0 day, 1 force, 2 sick, 3 how many things, 4.. rota, 11 + 4 t + (0 kind, 1 cell, 2 facing, 3 sum) of thing t -/
def offN (f w : Nat) : Nat := if w = 8 then 4 else if f < w then (if 4 < w - f then 8 - (w - f) else w - f) else (if 4 < f - w then 8 - (f - w) else f - w)
abbrev goN (k f fo w : Nat) : Prop := w ≠ 8 ∧ ((k = 1 ∧ 2 ≤ fo) ∨ ((k = 2 ∨ k = 5) ∧ fo = 9) ∨ (k = 4 ∧ 2 ≤ fo ∧ offN f w ≤ 1))
def felN (fo w : Nat) : Nat := if w = 8 then 0 else fo
def milN (f fo w : Nat) : Nat := felN fo w - offN f w
def driN (fo w : Nat) : Nat := if 1 ≤ felN fo w ∧ felN fo w ≤ 5 then 3 else 0
def earN (k f fo day w : Nat) : Nat := if k = 1 then milN f fo w + 1 else if k = 2 then driN fo w else if k = 3 then (if offN f w = 0 then 2 * milN f fo w else milN f fo w) else if k = 4 then (if goN k f fo w then milN f fo w + 1 else 0) else if k = 5 then (if day % 7 = 1 then driN fo w + 5 else driN fo w) else milN f fo w
def dRw (w : Nat) : Nat := [0, 0, 1, 2, 2, 2, 1, 0].getD w 1
def dCw (w : Nat) : Nat := [1, 2, 2, 2, 1, 0, 0, 0].getD w 1
/-- the cell to which a wind blows; 36: over the rim -/
def bto (c w : Nat) : Nat := if (1 ≤ c / 6 + dRw w ∧ c / 6 + dRw w ≤ 6) ∧ (1 ≤ c % 6 + dCw w ∧ c % 6 + dCw w ≤ 6) then 6 * (c / 6 + dRw w - 1) + (c % 6 + dCw w - 1) else 36
def wenN (k f fo c w : Nat) : Nat := if goN k f fo w ∧ bto c w < 36 then bto c w else c
/-- the first wind from w on that isn't sick; 8: none -/
def bw (sick : Nat) : Nat → Nat → Nat
  | 0, _ => 8
  | n + 1, w => if sick.testBit w then bw sick n ((w + 1) % 8) else w
def blow (S : Nat → Nat) (day : Nat) : Nat := if S (4 + day % 7) = 8 then 8 else bw (S 2) 8 (S (4 + day % 7))
def sumN (s e : Nat) : Nat := if 99999 < s + e then 99999 else s + e
def dayW (S : Nat → Nat) (w : Nat) : Nat → Nat := fun x => if x = 0 then S 0 + 1 else if 11 ≤ x ∧ x < 11 + 4 * S 3 then
  (if (x - 11) % 4 = 1 then wenN (S (x - 1)) (S (x + 1)) (S 1) (S x) w else if (x - 11) % 4 = 3 then sumN (S x) (earN (S (x - 3)) (S (x - 1)) (S 1) (S 0) w) else S x) else S x
def day1 (S : Nat → Nat) : Nat → Nat := dayW S (blow S (S 0))
def dayN : Nat → (Nat → Nat) → (Nat → Nat)
  | 0, S => S
  | n + 1, S => day1 (dayN n S)
def sumsP (S : Nat → Nat) : Nat → Nat
  | 0 => 0
  | n + 1 => sumsP S n + S (11 + 4 * n + 3)
def sumsN (S : Nat → Nat) : Nat := sumsP S (S 3)
def wfS (S : Nat → Nat) : Prop := S 0 < 20000 ∧ S 1 ≤ 9 ∧ S 2 < 256 ∧ S 3 ≤ 8 ∧ (∀ d, d < 7 → S (4 + d) ≤ 8) ∧ ∀ t, t < S 3 → S (11 + 4 * t) ≤ 5 ∧ S (11 + 4 * t + 1) < 36 ∧ S (11 + 4 * t + 2) < 8 ∧ S (11 + 4 * t + 3) ≤ 99999
/-! facts of small numbers, by the kernel -/
theorem off_t : ∀ f, f < 8 → ∀ w, w < 9 → offN f w ≤ 4 ∧ (w < 8 → ((nI w - nI f) &&& nI 7) = nI ((w + 8 - f) % 8) ∧ (sFl 2).getD ((w + 8 - f) % 8) 0 = nI (offN f w)) := by decide +kernel
theorem bto_t : ∀ c, c < 36 → ∀ w, w < 8 → bto c w ≤ 36 ∧ (((0 ≤ (nI (c / 6) + (sFl 0).getD w 0).toInt ∧ (nI (c / 6) + (sFl 0).getD w 0).toInt ≤ 5) ∧ (0 ≤ (nI (c % 6) + (sFl 1).getD w 0).toInt ∧ (nI (c % 6) + (sFl 1).getD w 0).toInt ≤ 5)) ↔ bto c w < 36) ∧ (bto c w < 36 → (nI (c / 6) + (sFl 0).getD w 0) * nI 6 + (nI (c % 6) + (sFl 1).getD w 0) = nI (bto c w) ∧ nI 6 * (nI (c / 6) + (sFl 0).getD w 0) + (nI (c % 6) + (sFl 1).getD w 0) = nI (bto c w)) := by decide +kernel
theorem mil_le {f fo w : Nat} (h : fo ≤ 9) : milN f fo w ≤ 9 := by unfold milN felN; split <;> omega
theorem ear_le {k f fo day w : Nat} (h : fo ≤ 9) : earN k f fo day w ≤ 18 := by
  have := mil_le (f := f) (w := w) h
  have h2 : driN fo w ≤ 3 := by unfold driN; split <;> omega
  unfold earN
  (repeat' split) <;> omega
theorem bw_le (s n w : Nat) (h : w < 8) : bw s n w ≤ 8 := by
  induction n generalizing w with
  | zero => exact Nat.le_refl 8
  | succ n ih =>
    unfold bw
    split
    · exact ih _ (Nat.mod_lt _ (by decide))
    · omega
theorem blow_le {S : Nat → Nat} {d : Nat} (h : ∀ d, d < 7 → S (4 + d) ≤ 8) : blow S d ≤ 8 := by
  have := h (d % 7) (Nat.mod_lt _ (by decide))
  unfold blow
  split
  · exact Nat.le_refl 8
  · exact bw_le _ _ _ (by omega)
theorem wen_lt {k f fo c w : Nat} (h : c < 36) : wenN k f fo c w < 36 := by unfold wenN; split <;> omega
theorem sumN_le (s e : Nat) : sumN s e ≤ 99999 := by unfold sumN; split <;> omega
end
section
set_option maxHeartbeats 4000000 in
set_option maxRecDepth 100000 in
theorem t_X7_cellBehind {G : gG} {M : gM} {c w : Nat} (hc : c < 36) (hw : w < 8) : Cf G mX7_cellBehind 1 [.int (nI c), .int (nI w)] M (some (.int (if bto c w < 36 then nI (bto c w) else -1))) M := by
  refine Ct.of (by decide) (k := 2) rfl rfl (fun _ _ => trivial) ?_
  intro P hR
  refine r_iload1 hR dX7_cellBehind_0 ?_
  refine r_if_lt hR 10 dX7_cellBehind_1 (by decide) (fun c1 => ?_) (fun c1 => ?_)
  · try simp (disch := omega) only [nI_ltI, nI_leI, nI_eq, bI_0, Decidable.not_not, lc_lt, lc_gt, lc_ge, lc_le, lc_eq, i64_toInt] at c1
    try simp (disch := omega) only [cv_lt, cv_le, cv_eq, nI_toInt, cv_0] at c1
    first
    | omega
    | refine r_iconst hR (-1) (by decide) dX7_cellBehind_10 ?_
      refine r_iret hR dX7_cellBehind_11 ?_
      refine ⟨congrArg (fun z => some (Value.int z)) ?_, rfl⟩
      have z := bto_t c hc w hw
      have z5 : (nI 5).toInt = 5 := by decide
      simp only [z5] at *
      first
      | exact (if_neg (fun q => by have := z.2.1.mpr q; omega)).symm
      | (have q : bto c w < 36 := z.2.1.mp (by omega)
         rw [if_pos q]
         exact (z.2.2 q).1)
  · try simp (disch := omega) only [nI_ltI, nI_leI, nI_eq, bI_0, Decidable.not_not, lc_lt, lc_gt, lc_ge, lc_le, lc_eq, i64_toInt] at c1
    try simp (disch := omega) only [cv_lt, cv_le, cv_eq, nI_toInt, cv_0] at c1
    first
    | omega
    | refine r_iload1 hR dX7_cellBehind_4 ?_
      refine r_bipush hR (nI 8) (by decide) dX7_cellBehind_5 ?_
      refine r_icmp_lt hR 12 dX7_cellBehind_7 (by decide) (fun c7 => ?_) (fun c7 => ?_)
      · try simp (disch := omega) only [nI_ltI, nI_leI, nI_eq, bI_0, Decidable.not_not, lc_lt, lc_gt, lc_ge, lc_le, lc_eq, i64_toInt] at c7
        try simp (disch := omega) only [cv_lt, cv_le, cv_eq, nI_toInt, cv_0] at c7
        first
        | omega
        | refine r_iload0 hR dX7_cellBehind_12 ?_
          refine r_bipush hR (nI 6) (by decide) dX7_cellBehind_13 ?_
          first | with_reducible refine r_idivN hR (by omega) (by omega) (by omega) dX7_cellBehind_15 ?_ | refine r_idiv hR (by decide) dX7_cellBehind_15 ?_
          refine r_gets hR 0 (by decide) sl_X7_279 dX7_cellBehind_16 ?_
          refine r_iload1 hR dX7_cellBehind_19 ?_
          refine r_tald hR (by decide) rfl (show _ < 8 by omega) (by decide) dX7_cellBehind_20 ?_
          first | with_reducible refine r_iaddN hR dX7_cellBehind_21 ?_ | refine r_iadd hR dX7_cellBehind_21 ?_
          refine r_istore2 hR (fun _ h => by first | (cases h; rfl) | exact absurd h (by simp)) dX7_cellBehind_22 ?_
          refine r_iload0 hR dX7_cellBehind_23 ?_
          refine r_bipush hR (nI 6) (by decide) dX7_cellBehind_24 ?_
          first | with_reducible refine r_iremN hR (by omega) (by omega) (by omega) dX7_cellBehind_26 ?_ | refine r_irem hR (by decide) dX7_cellBehind_26 ?_
          refine r_gets hR 1 (by decide) sl_X7_282 dX7_cellBehind_27 ?_
          refine r_iload1 hR dX7_cellBehind_30 ?_
          refine r_tald hR (by decide) rfl (show _ < 8 by omega) (by decide) dX7_cellBehind_31 ?_
          first | with_reducible refine r_iaddN hR dX7_cellBehind_32 ?_ | refine r_iadd hR dX7_cellBehind_32 ?_
          refine r_istore3 hR (fun _ h => by first | (cases h; rfl) | exact absurd h (by simp)) dX7_cellBehind_33 ?_
          refine r_iload2 hR dX7_cellBehind_34 ?_
          refine r_iconst hR (nI 5) (by decide) dX7_cellBehind_35 ?_
          refine r_cs2v hR ks_X7_77 (by decide) (t_X7_within) (Nat.le_of_ble_eq_true rfl) dX7_cellBehind_36 ?_
          refine r_if_eq hR 50 dX7_cellBehind_39 (by decide) (fun c39 => ?_) (fun c39 => ?_)
          · try simp (disch := omega) only [nI_ltI, nI_leI, nI_eq, bI_0, Decidable.not_not, lc_lt, lc_gt, lc_ge, lc_le, lc_eq, i64_toInt] at c39
            try simp (disch := omega) only [cv_lt, cv_le, cv_eq, nI_toInt, cv_0] at c39
            first
            | omega
            | refine r_iconst hR (-1) (by decide) dX7_cellBehind_50 ?_
              refine r_iret hR dX7_cellBehind_51 ?_
              refine ⟨congrArg (fun z => some (Value.int z)) ?_, rfl⟩
              have z := bto_t c hc w hw
              have z5 : (nI 5).toInt = 5 := by decide
              simp only [z5] at *
              first
              | exact (if_neg (fun q => by have := z.2.1.mpr q; omega)).symm
              | (have q : bto c w < 36 := z.2.1.mp (by omega)
                 rw [if_pos q]
                 exact (z.2.2 q).1)
          · try simp (disch := omega) only [nI_ltI, nI_leI, nI_eq, bI_0, Decidable.not_not, lc_lt, lc_gt, lc_ge, lc_le, lc_eq, i64_toInt] at c39
            try simp (disch := omega) only [cv_lt, cv_le, cv_eq, nI_toInt, cv_0] at c39
            first
            | omega
            | refine r_iload3 hR dX7_cellBehind_42 ?_
              refine r_iconst hR (nI 5) (by decide) dX7_cellBehind_43 ?_
              refine r_cs2v hR ks_X7_77 (by decide) (t_X7_within) (Nat.le_of_ble_eq_true rfl) dX7_cellBehind_44 ?_
              refine r_if_ne hR 52 dX7_cellBehind_47 (by decide) (fun c47 => ?_) (fun c47 => ?_)
              · try simp (disch := omega) only [nI_ltI, nI_leI, nI_eq, bI_0, Decidable.not_not, lc_lt, lc_gt, lc_ge, lc_le, lc_eq, i64_toInt] at c47
                try simp (disch := omega) only [cv_lt, cv_le, cv_eq, nI_toInt, cv_0] at c47
                first
                | omega
                | refine r_iload2 hR dX7_cellBehind_52 ?_
                  refine r_bipush hR (nI 6) (by decide) dX7_cellBehind_53 ?_
                  first | with_reducible refine r_imulN hR dX7_cellBehind_55 ?_ | refine r_imul hR dX7_cellBehind_55 ?_
                  refine r_iload3 hR dX7_cellBehind_56 ?_
                  first | with_reducible refine r_iaddN hR dX7_cellBehind_57 ?_ | refine r_iadd hR dX7_cellBehind_57 ?_
                  refine r_iret hR dX7_cellBehind_58 ?_
                  refine ⟨congrArg (fun z => some (Value.int z)) ?_, rfl⟩
                  have z := bto_t c hc w hw
                  have z5 : (nI 5).toInt = 5 := by decide
                  simp only [z5] at *
                  first
                  | exact (if_neg (fun q => by have := z.2.1.mpr q; omega)).symm
                  | (have q : bto c w < 36 := z.2.1.mp (by omega)
                     rw [if_pos q]
                     exact (z.2.2 q).1)
              · try simp (disch := omega) only [nI_ltI, nI_leI, nI_eq, bI_0, Decidable.not_not, lc_lt, lc_gt, lc_ge, lc_le, lc_eq, i64_toInt] at c47
                try simp (disch := omega) only [cv_lt, cv_le, cv_eq, nI_toInt, cv_0] at c47
                first
                | omega
                | refine r_iconst hR (-1) (by decide) dX7_cellBehind_50 ?_
                  refine r_iret hR dX7_cellBehind_51 ?_
                  refine ⟨congrArg (fun z => some (Value.int z)) ?_, rfl⟩
                  have z := bto_t c hc w hw
                  have z5 : (nI 5).toInt = 5 := by decide
                  simp only [z5] at *
                  first
                  | exact (if_neg (fun q => by have := z.2.1.mpr q; omega)).symm
                  | (have q : bto c w < 36 := z.2.1.mp (by omega)
                     rw [if_pos q]
                     exact (z.2.2 q).1)
      · try simp (disch := omega) only [nI_ltI, nI_leI, nI_eq, bI_0, Decidable.not_not, lc_lt, lc_gt, lc_ge, lc_le, lc_eq, i64_toInt] at c7
        try simp (disch := omega) only [cv_lt, cv_le, cv_eq, nI_toInt, cv_0] at c7
        first
        | omega
        | refine r_iconst hR (-1) (by decide) dX7_cellBehind_10 ?_
          refine r_iret hR dX7_cellBehind_11 ?_
          refine ⟨congrArg (fun z => some (Value.int z)) ?_, rfl⟩
          have z := bto_t c hc w hw
          have z5 : (nI 5).toInt = 5 := by decide
          simp only [z5] at *
          first
          | exact (if_neg (fun q => by have := z.2.1.mpr q; omega)).symm
          | (have q : bto c w < 36 := z.2.1.mp (by omega)
             rw [if_pos q]
             exact (z.2.2 q).1)
end
section
set_option maxHeartbeats 4000000 in
set_option maxRecDepth 100000 in
theorem t_J9_floorMod_7cf53 {G : gG} {M : gM} {a b : Nat} (ha : a < 2 ^ 31) (hb0 : 0 < b) (hb : b < 2 ^ 31) : Cf G mJ9_floorMod_7cf53 0 [.int (nI a), .int (nI b)] M (some (.int (nI (a % b)))) M := by
  refine Ct.ofJ (by decide +kernel) (k := 1) rfl rfl (fun _ _ => trivial) ?_
  intro P hR
  refine r_iload0 hR dJ9_floorMod_7cf53_0 ?_
  refine r_iload1 hR dJ9_floorMod_7cf53_1 ?_
  first | with_reducible refine r_iremN hR ha hb0 hb dJ9_floorMod_7cf53_2 ?_ | refine r_irem hR (by decide) dJ9_floorMod_7cf53_2 ?_
  refine r_istore2 hR (fun _ h => by first | (cases h; rfl) | exact absurd h (by simp)) dJ9_floorMod_7cf53_3 ?_
  refine r_iload0 hR dJ9_floorMod_7cf53_4 ?_
  refine r_iload1 hR dJ9_floorMod_7cf53_5 ?_
  refine r_ixor hR dJ9_floorMod_7cf53_6 ?_
  rw [nx_xor]
  have hz : a ^^^ b < 2 ^ 31 := Nat.xor_lt_two_pow ha hb
  refine r_if_ge hR 18 dJ9_floorMod_7cf53_7 (by decide) (fun c7 => ?_) (fun c7 => ?_)
  · try simp (disch := omega) only [nI_ltI, nI_leI, nI_eq, bI_0, Decidable.not_not, lc_lt, lc_gt, lc_ge, lc_le, lc_eq, i64_toInt] at c7
    try simp (disch := omega) only [cv_lt, cv_le, cv_eq, nI_toInt, cv_0] at c7
    first
    | omega
    | refine r_iload2 hR dJ9_floorMod_7cf53_18 ?_
      refine r_iret hR dJ9_floorMod_7cf53_19 ?_
      exact ⟨rfl, rfl⟩
  · try simp (disch := omega) only [nI_ltI, nI_leI, nI_eq, bI_0, Decidable.not_not, lc_lt, lc_gt, lc_ge, lc_le, lc_eq, i64_toInt] at c7
    try simp (disch := omega) only [cv_lt, cv_le, cv_eq, nI_toInt, cv_0] at c7
    first
    | omega
    | refine r_iload2 hR dJ9_floorMod_7cf53_10 ?_
      refine r_if_eq hR 18 dJ9_floorMod_7cf53_11 (by decide) (fun c11 => ?_) (fun c11 => ?_)
      · try simp (disch := omega) only [nI_ltI, nI_leI, nI_eq, bI_0, Decidable.not_not, lc_lt, lc_gt, lc_ge, lc_le, lc_eq, i64_toInt] at c11
        try simp (disch := omega) only [cv_lt, cv_le, cv_eq, nI_toInt, cv_0] at c11
        first
        | omega
        | refine r_iload2 hR dJ9_floorMod_7cf53_18 ?_
          refine r_iret hR dJ9_floorMod_7cf53_19 ?_
          exact ⟨rfl, rfl⟩
      · try simp (disch := omega) only [nI_ltI, nI_leI, nI_eq, bI_0, Decidable.not_not, lc_lt, lc_gt, lc_ge, lc_le, lc_eq, i64_toInt] at c11
        try simp (disch := omega) only [cv_lt, cv_le, cv_eq, nI_toInt, cv_0] at c11
        first
        | omega
        | refine r_iload2 hR dJ9_floorMod_7cf53_14 ?_
          refine r_iload1 hR dJ9_floorMod_7cf53_15 ?_
          first | with_reducible refine r_iaddN hR dJ9_floorMod_7cf53_16 ?_ | refine r_iadd hR dJ9_floorMod_7cf53_16 ?_
          refine r_iret hR dJ9_floorMod_7cf53_17 ?_
          exact ⟨rfl, rfl⟩

set_option maxHeartbeats 4000000 in
set_option maxRecDepth 100000 in
theorem t_X5_off {G : gG} {M : gM} {t f w : Nat} (ht : t < 26) (hf : M.1 4 t 2 = nI f) (hf8 : f < 8) (hw : w < 9) : Cf G mX5_off 0 [.ref (ad G 4 t), .int (nI w)] M (some (.int (nI (offN f w)))) M := by
  refine Ct.of (by decide +kernel) (k := 0) rfl rfl (fun _ _ => trivial) ?_
  intro P hR
  refine r_iload1 hR dX5_off_0 ?_
  refine r_bipush hR (nI 8) (by decide) dX5_off_1 ?_
  refine r_icmp_ne hR 10 dX5_off_3 (by decide) (fun c3 => ?_) (fun c3 => ?_)
  · try simp (disch := omega) only [nI_ltI, nI_leI, nI_eq, bI_0, Decidable.not_not, lc_lt, lc_gt, lc_ge, lc_le, lc_eq, i64_toInt] at c3
    try simp (disch := omega) only [cv_lt, cv_le, cv_eq, nI_toInt, cv_0] at c3
    first
    | omega
    | refine r_getsN hR dX5_off_10 ?_
      refine r_iload1 hR dX5_off_13 ?_
      refine r_aload0 hR dX5_off_14 ?_
      refine r_get hR (by first | decide | assumption | (simp only [gcnt_4, gcnt_1, gcnt_2, gcnt_3, gcnt_12, gcnt_13, gcnt_16]; omega)) fl_X5_18 rfl rfl dX5_off_15 ?_
      try simp only [hf]
      refine r_isub hR dX5_off_18 ?_
      refine r_bipush hR (nI 7) (by decide) dX5_off_19 ?_
      refine r_iand hR dX5_off_21 ?_
      refine r_nm _ ((off_t f hf8 w hw).2 (by omega)).1 ?_
      refine r_tald hR (by decide) rfl (show _ < 8 by omega) (by decide) dX5_off_22 ?_
      refine r_nm _ ((off_t f hf8 w hw).2 (by omega)).2 ?_
      refine r_iret hR dX5_off_23 ?_
      first | exact ⟨rfl, rfl⟩ | (subst c3; exact ⟨rfl, rfl⟩)
  · try simp (disch := omega) only [nI_ltI, nI_leI, nI_eq, bI_0, Decidable.not_not, lc_lt, lc_gt, lc_ge, lc_le, lc_eq, i64_toInt] at c3
    try simp (disch := omega) only [cv_lt, cv_le, cv_eq, nI_toInt, cv_0] at c3
    first
    | omega
    | refine r_iconst hR (nI 4) (by decide) dX5_off_6 ?_
      refine r_goto hR 23 dX5_off_7 (by decide) ?_
      refine r_iret hR dX5_off_23 ?_
      first | exact ⟨rfl, rfl⟩ | (subst c3; exact ⟨rfl, rfl⟩)

set_option maxHeartbeats 4000000 in
set_option maxRecDepth 100000 in
theorem t_X5_isGoing {G : gG} {M : gM} {t k f w fo : Nat} (ht : t < 26) (hk : M.1 4 t 0 = nI k) (hf : M.1 4 t 2 = nI f) (hk6 : k < 6) (hf8 : f < 8) (hw : w < 9) (hfo : fo ≤ 9) : Cf G mX5_isGoing 1 [.ref (ad G 4 t), .int (nI w), .int (nI fo)] M (some (.int (bI (goN k f fo w)))) M := by
  refine Ct.of (by decide +kernel) (k := 0) rfl rfl (fun _ _ => trivial) ?_
  intro P hR
  refine r_iload1 hR dX5_isGoing_0 ?_
  refine r_bipush hR (nI 8) (by decide) dX5_isGoing_1 ?_
  refine r_icmp_ne hR 8 dX5_isGoing_3 (by decide) (fun c3 => ?_) (fun c3 => ?_)
  · try simp (disch := omega) only [nI_ltI, nI_leI, nI_eq, bI_0, Decidable.not_not, lc_lt, lc_gt, lc_ge, lc_le, lc_eq, i64_toInt] at c3
    try simp (disch := omega) only [cv_lt, cv_le, cv_eq, nI_toInt, cv_0] at c3
    first
    | omega
    | refine r_aload0 hR dX5_isGoing_8 ?_
      refine r_get hR (by first | decide | assumption | (simp only [gcnt_4, gcnt_1, gcnt_2, gcnt_3, gcnt_12, gcnt_13, gcnt_16]; omega)) fl_X5_9 rfl rfl dX5_isGoing_9 ?_
      try simp only [hk, hf]
      by_cases e1 : k = 1
      · refine r_swInN hR 1 e1 (by decide) 48 dX5_isGoing_12 (by decide) (by decide) rfl (by decide) ?_
        refine r_iload2 hR dX5_isGoing_48 ?_
        refine r_iconst hR (nI 2) (by decide) dX5_isGoing_49 ?_
        refine r_icmp_lt hR 57 dX5_isGoing_50 (by decide) (fun c50 => ?_) (fun c50 => ?_)
        · try simp (disch := omega) only [nI_ltI, nI_leI, nI_eq, bI_0, Decidable.not_not, lc_lt, lc_gt, lc_ge, lc_le, lc_eq, i64_toInt] at c50
          try simp (disch := omega) only [cv_lt, cv_le, cv_eq, nI_toInt, cv_0] at c50
          first
          | omega
          | refine r_iconst hR (nI 0) (by decide) dX5_isGoing_57 ?_
            refine r_zret hR dX5_isGoing_58 rfl ?_
            refine ⟨?_, rfl⟩
            first | (rw [bI_t]; omega) | (rw [bI_f]; omega)
        · try simp (disch := omega) only [nI_ltI, nI_leI, nI_eq, bI_0, Decidable.not_not, lc_lt, lc_gt, lc_ge, lc_le, lc_eq, i64_toInt] at c50
          try simp (disch := omega) only [cv_lt, cv_le, cv_eq, nI_toInt, cv_0] at c50
          first
          | omega
          | refine r_iconst hR (nI 1) (by decide) dX5_isGoing_53 ?_
            refine r_goto hR 58 dX5_isGoing_54 (by decide) ?_
            refine r_zret hR dX5_isGoing_58 rfl ?_
            refine ⟨?_, rfl⟩
            first | (rw [bI_t]; omega) | (rw [bI_f]; omega)
      · skip
        by_cases e2 : k = 2
        · refine r_swInN hR 2 e2 (by decide) 79 dX5_isGoing_12 (by decide) (by decide) rfl (by decide) ?_
          refine r_iload2 hR dX5_isGoing_79 ?_
          refine r_bipush hR (nI 9) (by decide) dX5_isGoing_80 ?_
          refine r_icmp_ne hR 89 dX5_isGoing_82 (by decide) (fun c82 => ?_) (fun c82 => ?_)
          · try simp (disch := omega) only [nI_ltI, nI_leI, nI_eq, bI_0, Decidable.not_not, lc_lt, lc_gt, lc_ge, lc_le, lc_eq, i64_toInt] at c82
            try simp (disch := omega) only [cv_lt, cv_le, cv_eq, nI_toInt, cv_0] at c82
            first
            | omega
            | refine r_iconst hR (nI 0) (by decide) dX5_isGoing_89 ?_
              refine r_zret hR dX5_isGoing_90 rfl ?_
              refine ⟨?_, rfl⟩
              first | (rw [bI_t]; omega) | (rw [bI_f]; omega)
          · try simp (disch := omega) only [nI_ltI, nI_leI, nI_eq, bI_0, Decidable.not_not, lc_lt, lc_gt, lc_ge, lc_le, lc_eq, i64_toInt] at c82
            try simp (disch := omega) only [cv_lt, cv_le, cv_eq, nI_toInt, cv_0] at c82
            first
            | omega
            | refine r_iconst hR (nI 1) (by decide) dX5_isGoing_85 ?_
              refine r_goto hR 90 dX5_isGoing_86 (by decide) ?_
              refine r_zret hR dX5_isGoing_90 rfl ?_
              refine ⟨?_, rfl⟩
              first | (rw [bI_t]; omega) | (rw [bI_f]; omega)
        · skip
          by_cases e3 : k = 3
          · refine r_swInN hR 3 e3 (by decide) 91 dX5_isGoing_12 (by decide) (by decide) rfl (by decide) ?_
            refine r_iconst hR (nI 0) (by decide) dX5_isGoing_91 ?_
            refine r_zret hR dX5_isGoing_92 rfl ?_
            refine ⟨?_, rfl⟩
            first | (rw [bI_t]; omega) | (rw [bI_f]; omega)
          · skip
            by_cases e4 : k = 4
            · refine r_swInN hR 4 e4 (by decide) 59 dX5_isGoing_12 (by decide) (by decide) rfl (by decide) ?_
              refine r_iload2 hR dX5_isGoing_59 ?_
              refine r_iconst hR (nI 2) (by decide) dX5_isGoing_60 ?_
              refine r_icmp_lt hR 77 dX5_isGoing_61 (by decide) (fun c61 => ?_) (fun c61 => ?_)
              · try simp (disch := omega) only [nI_ltI, nI_leI, nI_eq, bI_0, Decidable.not_not, lc_lt, lc_gt, lc_ge, lc_le, lc_eq, i64_toInt] at c61
                try simp (disch := omega) only [cv_lt, cv_le, cv_eq, nI_toInt, cv_0] at c61
                first
                | omega
                | refine r_iconst hR (nI 0) (by decide) dX5_isGoing_77 ?_
                  refine r_zret hR dX5_isGoing_78 rfl ?_
                  refine ⟨?_, rfl⟩
                  first | (rw [bI_t]; omega) | (rw [bI_f]; omega)
              · try simp (disch := omega) only [nI_ltI, nI_leI, nI_eq, bI_0, Decidable.not_not, lc_lt, lc_gt, lc_ge, lc_le, lc_eq, i64_toInt] at c61
                try simp (disch := omega) only [cv_lt, cv_le, cv_eq, nI_toInt, cv_0] at c61
                first
                | omega
                | refine r_aload0 hR dX5_isGoing_64 ?_
                  refine r_iload1 hR dX5_isGoing_65 ?_
                  refine r_cv1v hR kv_X5_24 (by decide) (t_X5_off ht hf hf8 hw) (by first | decide | assumption | (simp only [gcnt_4, gcnt_1, gcnt_2, gcnt_3, gcnt_12, gcnt_13, gcnt_16]; omega)) rfl rfl (Nat.le_of_ble_eq_true rfl) dX5_isGoing_66 ?_
                  have hof := (off_t f hf8 w hw).1
                  refine r_iconst hR (nI 1) (by decide) dX5_isGoing_69 ?_
                  refine r_icmp_gt hR 77 dX5_isGoing_70 (by decide) (fun c70 => ?_) (fun c70 => ?_)
                  · try simp (disch := omega) only [nI_ltI, nI_leI, nI_eq, bI_0, Decidable.not_not, lc_lt, lc_gt, lc_ge, lc_le, lc_eq, i64_toInt] at c70
                    try simp (disch := omega) only [cv_lt, cv_le, cv_eq, nI_toInt, cv_0] at c70
                    first
                    | omega
                    | refine r_iconst hR (nI 0) (by decide) dX5_isGoing_77 ?_
                      refine r_zret hR dX5_isGoing_78 rfl ?_
                      refine ⟨?_, rfl⟩
                      first | (rw [bI_t]; omega) | (rw [bI_f]; omega)
                  · try simp (disch := omega) only [nI_ltI, nI_leI, nI_eq, bI_0, Decidable.not_not, lc_lt, lc_gt, lc_ge, lc_le, lc_eq, i64_toInt] at c70
                    try simp (disch := omega) only [cv_lt, cv_le, cv_eq, nI_toInt, cv_0] at c70
                    first
                    | omega
                    | refine r_iconst hR (nI 1) (by decide) dX5_isGoing_73 ?_
                      refine r_goto hR 78 dX5_isGoing_74 (by decide) ?_
                      refine r_zret hR dX5_isGoing_78 rfl ?_
                      refine ⟨?_, rfl⟩
                      first | (rw [bI_t]; omega) | (rw [bI_f]; omega)
            · skip
              by_cases e5 : k = 5
              · refine r_swInN hR 5 e5 (by decide) 79 dX5_isGoing_12 (by decide) (by decide) rfl (by decide) ?_
                refine r_iload2 hR dX5_isGoing_79 ?_
                refine r_bipush hR (nI 9) (by decide) dX5_isGoing_80 ?_
                refine r_icmp_ne hR 89 dX5_isGoing_82 (by decide) (fun c82 => ?_) (fun c82 => ?_)
                · try simp (disch := omega) only [nI_ltI, nI_leI, nI_eq, bI_0, Decidable.not_not, lc_lt, lc_gt, lc_ge, lc_le, lc_eq, i64_toInt] at c82
                  try simp (disch := omega) only [cv_lt, cv_le, cv_eq, nI_toInt, cv_0] at c82
                  first
                  | omega
                  | refine r_iconst hR (nI 0) (by decide) dX5_isGoing_89 ?_
                    refine r_zret hR dX5_isGoing_90 rfl ?_
                    refine ⟨?_, rfl⟩
                    first | (rw [bI_t]; omega) | (rw [bI_f]; omega)
                · try simp (disch := omega) only [nI_ltI, nI_leI, nI_eq, bI_0, Decidable.not_not, lc_lt, lc_gt, lc_ge, lc_le, lc_eq, i64_toInt] at c82
                  try simp (disch := omega) only [cv_lt, cv_le, cv_eq, nI_toInt, cv_0] at c82
                  first
                  | omega
                  | refine r_iconst hR (nI 1) (by decide) dX5_isGoing_85 ?_
                    refine r_goto hR 90 dX5_isGoing_86 (by decide) ?_
                    refine r_zret hR dX5_isGoing_90 rfl ?_
                    refine ⟨?_, rfl⟩
                    first | (rw [bI_t]; omega) | (rw [bI_f]; omega)
              · skip
                refine r_swOutN hR (k := k) (by omega) 91 dX5_isGoing_12 (by omega) (by decide) ?_
                refine r_iconst hR (nI 0) (by decide) dX5_isGoing_91 ?_
                refine r_zret hR dX5_isGoing_92 rfl ?_
                refine ⟨?_, rfl⟩
                first | (rw [bI_t]; omega) | (rw [bI_f]; omega)
  · try simp (disch := omega) only [nI_ltI, nI_leI, nI_eq, bI_0, Decidable.not_not, lc_lt, lc_gt, lc_ge, lc_le, lc_eq, i64_toInt] at c3
    try simp (disch := omega) only [cv_lt, cv_le, cv_eq, nI_toInt, cv_0] at c3
    first
    | omega
    | refine r_iconst hR (nI 0) (by decide) dX5_isGoing_6 ?_
      refine r_zret hR dX5_isGoing_7 rfl ?_
      refine ⟨?_, rfl⟩
      first | (rw [bI_t]; omega) | (rw [bI_f]; omega)

set_option maxHeartbeats 4000000 in
set_option maxRecDepth 100000 in
theorem t_X5_cellAfter {G : gG} {M : gM} {t k f w fo c : Nat} (ht : t < 26) (hk : M.1 4 t 0 = nI k) (hf : M.1 4 t 2 = nI f) (hk6 : k < 6) (hf8 : f < 8) (hw : w < 9) (hfo : fo ≤ 9) (hc : c < 36) : Cf G mX5_cellAfter 2 [.ref (ad G 4 t), .int (nI c), .int (nI w), .int (nI fo)] M (some (.int (nI (wenN k f fo c w)))) M := by
  refine Ct.of (by decide +kernel) (k := 1) rfl rfl (fun _ _ => trivial) ?_
  intro P hR
  refine r_aload0 hR dX5_cellAfter_0 ?_
  refine r_iload2 hR dX5_cellAfter_1 ?_
  refine r_iload3 hR dX5_cellAfter_2 ?_
  refine r_cv2v hR kv_X5_34 (by decide) (t_X5_isGoing ht hk hf hk6 hf8 hw hfo) (by first | decide | assumption | (simp only [gcnt_4, gcnt_1, gcnt_2, gcnt_3, gcnt_12, gcnt_13, gcnt_16]; omega)) rfl rfl (Nat.le_of_ble_eq_true rfl) dX5_cellAfter_3 ?_
  refine r_if_ne hR 11 dX5_cellAfter_6 (by decide) (fun c6 => ?_) (fun c6 => ?_)
  · try simp (disch := omega) only [nI_ltI, nI_leI, nI_eq, bI_0, Decidable.not_not, lc_lt, lc_gt, lc_ge, lc_le, lc_eq, i64_toInt] at c6
    try simp (disch := omega) only [cv_lt, cv_le, cv_eq, nI_toInt, cv_0] at c6
    first
    | omega
    | obtain ⟨hw8, hgo⟩ : goN k f fo w := c6
      refine r_iload1 hR dX5_cellAfter_11 ?_
      refine r_iload2 hR dX5_cellAfter_12 ?_
      refine r_cn2v hR kn_X7_cellBehind (fun _ h => h.2.2.2.2.2.1) (by decide) (t_X7_cellBehind hc (by omega)) (Nat.le_of_ble_eq_true rfl) dX5_cellAfter_13 ?_
      have hb := (bto_t c hc w (by omega)).1
      obtain ⟨z, hz⟩ : ∃ z : Int32, z = (if bto c w < 36 then nI (bto c w) else -1) := ⟨_, rfl⟩
      rw [← hz]
      refine r_istore4 hR (fun _ h => by first | (cases h; rfl) | exact absurd h (by simp)) dX5_cellAfter_16 ?_
      refine r_iload4 hR dX5_cellAfter_18 ?_
      refine r_iconst hR (-1) (by decide) dX5_cellAfter_20 ?_
      refine r_icmp_ne hR 28 dX5_cellAfter_21 (by decide) (fun c21 => ?_) (fun c21 => ?_)
      · try simp (disch := omega) only [nI_ltI, nI_leI, nI_eq, bI_0, Decidable.not_not, lc_lt, lc_gt, lc_ge, lc_le, lc_eq, i64_toInt] at c21
        try simp (disch := omega) only [cv_lt, cv_le, cv_eq, nI_toInt, cv_0] at c21
        first
        | omega
        | have hb6 : bto c w < 36 := by
            by_cases q : bto c w < 36
            · exact q
            · rw [if_neg q] at hz
              rw [hz] at c21
              exact absurd rfl c21
          rw [if_pos hb6] at hz
          subst hz
          refine r_iload4 hR dX5_cellAfter_28 ?_
          refine r_iret hR dX5_cellAfter_30 ?_
          refine ⟨congrArg (fun z => some (Value.int (nI z))) ?_, rfl⟩
          unfold wenN
          split <;> first | rfl | omega
      · try simp (disch := omega) only [nI_ltI, nI_leI, nI_eq, bI_0, Decidable.not_not, lc_lt, lc_gt, lc_ge, lc_le, lc_eq, i64_toInt] at c21
        try simp (disch := omega) only [cv_lt, cv_le, cv_eq, nI_toInt, cv_0] at c21
        first
        | omega
        | have hb6 : ¬ bto c w < 36 := by
            intro q
            rw [if_pos q] at hz
            rw [hz] at c21
            have := nI_toInt (n := bto c w) (by omega)
            rw [c21, show (-1 : Int32).toInt = -1 from by decide] at this
            omega
          refine r_iload1 hR dX5_cellAfter_24 ?_
          refine r_goto hR 30 dX5_cellAfter_25 (by decide) ?_
          refine r_iret hR dX5_cellAfter_30 ?_
          refine ⟨congrArg (fun z => some (Value.int (nI z))) ?_, rfl⟩
          unfold wenN
          split <;> first | rfl | omega
  · try simp (disch := omega) only [nI_ltI, nI_leI, nI_eq, bI_0, Decidable.not_not, lc_lt, lc_gt, lc_ge, lc_le, lc_eq, i64_toInt] at c6
    try simp (disch := omega) only [cv_lt, cv_le, cv_eq, nI_toInt, cv_0] at c6
    first
    | omega
    | refine r_iload1 hR dX5_cellAfter_9 ?_
      refine r_iret hR dX5_cellAfter_10 ?_
      refine ⟨congrArg (fun z => some (Value.int (nI z))) ?_, rfl⟩
      unfold wenN
      split <;> first | rfl | omega

set_option maxHeartbeats 4000000 in
set_option maxRecDepth 100000 in
theorem t_X5_earnings {G : gG} {M : gM} {t k f w fo day : Nat} (ht : t < 26) (hk : M.1 4 t 0 = nI k) (hf : M.1 4 t 2 = nI f) (hk6 : k < 6) (hf8 : f < 8) (hw : w < 9) (hfo : fo ≤ 9) (hd : day < 2 ^ 30) : Cf G mX5_earnings 2 [.ref (ad G 4 t), .int (nI day), .int (nI w), .int (nI fo)] M (some (.int (nI (earN k f fo day w)))) M := by
  refine Ct.of (by decide +kernel) (k := 3) rfl rfl (fun _ _ => trivial) ?_
  intro P hR
  have hof := (off_t f hf8 w hw).1
  have hfel : felN fo w ≤ 9 := by unfold felN; split <;> omega
  have hmil := mil_le (f := f) (w := w) hfo
  have J44 : P 44 [some (.ref (ad G 4 t)), some (.int (nI day)), some (.int (nI w)), some (.int (nI fo)), some (.int (nI (felN fo w))), some (.int (nI (milN f fo w))), none] [.int (nI (driN fo w))] M := by
    refine r_istore6 hR (fun _ h => by first | (cases h; rfl) | exact absurd h (by simp)) dX5_earnings_44 ?_
    refine r_aload0 hR dX5_earnings_46 ?_
    refine r_get hR (by first | decide | assumption | (simp only [gcnt_4, gcnt_1, gcnt_2, gcnt_3, gcnt_12, gcnt_13, gcnt_16]; omega)) fl_X5_9 rfl rfl dX5_earnings_47 ?_
    try simp only [hk, hf]
    by_cases e1 : k = 1
    · refine r_swInN hR 1 e1 (by decide) 84 dX5_earnings_50 (by decide) (by decide) rfl (by decide) ?_
      refine r_iload5 hR dX5_earnings_84 ?_
      refine r_iconst hR (nI 1) (by decide) dX5_earnings_86 ?_
      first | with_reducible refine r_iaddN hR dX5_earnings_87 ?_ | refine r_iadd hR dX5_earnings_87 ?_
      refine r_iret hR dX5_earnings_88 ?_
      refine ⟨congrArg (fun z => some (Value.int (nI z))) ?_, rfl⟩
      unfold earN
      (repeat' split) <;> first | omega | rfl
    · skip
      by_cases e2 : k = 2
      · refine r_swInN hR 2 e2 (by decide) 89 dX5_earnings_50 (by decide) (by decide) rfl (by decide) ?_
        refine r_iload6 hR dX5_earnings_89 ?_
        refine r_iret hR dX5_earnings_91 ?_
        refine ⟨congrArg (fun z => some (Value.int (nI z))) ?_, rfl⟩
        unfold earN
        (repeat' split) <;> first | omega | rfl
      · skip
        by_cases e3 : k = 3
        · refine r_swInN hR 3 e3 (by decide) 92 dX5_earnings_50 (by decide) (by decide) rfl (by decide) ?_
          refine r_aload0 hR dX5_earnings_92 ?_
          refine r_iload2 hR dX5_earnings_93 ?_
          refine r_cv1v hR kv_X5_24 (by decide) (t_X5_off ht hf hf8 hw) (by first | decide | assumption | (simp only [gcnt_4, gcnt_1, gcnt_2, gcnt_3, gcnt_12, gcnt_13, gcnt_16]; omega)) rfl rfl (Nat.le_of_ble_eq_true rfl) dX5_earnings_94 ?_
          refine r_if_ne hR 107 dX5_earnings_97 (by decide) (fun c97 => ?_) (fun c97 => ?_)
          · try simp (disch := omega) only [nI_ltI, nI_leI, nI_eq, bI_0, Decidable.not_not, lc_lt, lc_gt, lc_ge, lc_le, lc_eq, i64_toInt] at c97
            try simp (disch := omega) only [cv_lt, cv_le, cv_eq, nI_toInt, cv_0] at c97
            first
            | omega
            | refine r_iload5 hR dX5_earnings_107 ?_
              refine r_iret hR dX5_earnings_109 ?_
              refine ⟨congrArg (fun z => some (Value.int (nI z))) ?_, rfl⟩
              unfold earN
              (repeat' split) <;> first | omega | rfl
          · try simp (disch := omega) only [nI_ltI, nI_leI, nI_eq, bI_0, Decidable.not_not, lc_lt, lc_gt, lc_ge, lc_le, lc_eq, i64_toInt] at c97
            try simp (disch := omega) only [cv_lt, cv_le, cv_eq, nI_toInt, cv_0] at c97
            first
            | omega
            | refine r_iconst hR (nI 2) (by decide) dX5_earnings_100 ?_
              refine r_iload5 hR dX5_earnings_101 ?_
              first | with_reducible refine r_imulN hR dX5_earnings_103 ?_ | refine r_imul hR dX5_earnings_103 ?_
              refine r_goto hR 109 dX5_earnings_104 (by decide) ?_
              refine r_iret hR dX5_earnings_109 ?_
              refine ⟨congrArg (fun z => some (Value.int (nI z))) ?_, rfl⟩
              unfold earN
              (repeat' split) <;> first | omega | rfl
        · skip
          by_cases e4 : k = 4
          · refine r_swInN hR 4 e4 (by decide) 110 dX5_earnings_50 (by decide) (by decide) rfl (by decide) ?_
            refine r_aload0 hR dX5_earnings_110 ?_
            refine r_iload2 hR dX5_earnings_111 ?_
            refine r_iload3 hR dX5_earnings_112 ?_
            refine r_cv2v hR kv_X5_34 (by decide) (t_X5_isGoing ht hk hf hk6 hf8 hw hfo) (by first | decide | assumption | (simp only [gcnt_4, gcnt_1, gcnt_2, gcnt_3, gcnt_12, gcnt_13, gcnt_16]; omega)) rfl rfl (Nat.le_of_ble_eq_true rfl) dX5_earnings_113 ?_
            refine r_if_eq hR 126 dX5_earnings_116 (by decide) (fun c116 => ?_) (fun c116 => ?_)
            · try simp (disch := omega) only [nI_ltI, nI_leI, nI_eq, bI_0, Decidable.not_not, lc_lt, lc_gt, lc_ge, lc_le, lc_eq, i64_toInt] at c116
              try simp (disch := omega) only [cv_lt, cv_le, cv_eq, nI_toInt, cv_0] at c116
              first
              | omega
              | refine r_iconst hR (nI 0) (by decide) dX5_earnings_126 ?_
                refine r_iret hR dX5_earnings_127 ?_
                refine ⟨congrArg (fun z => some (Value.int (nI z))) ?_, rfl⟩
                unfold earN
                (repeat' split) <;> first | omega | rfl
            · try simp (disch := omega) only [nI_ltI, nI_leI, nI_eq, bI_0, Decidable.not_not, lc_lt, lc_gt, lc_ge, lc_le, lc_eq, i64_toInt] at c116
              try simp (disch := omega) only [cv_lt, cv_le, cv_eq, nI_toInt, cv_0] at c116
              first
              | omega
              | refine r_iload5 hR dX5_earnings_119 ?_
                refine r_iconst hR (nI 1) (by decide) dX5_earnings_121 ?_
                first | with_reducible refine r_iaddN hR dX5_earnings_122 ?_ | refine r_iadd hR dX5_earnings_122 ?_
                refine r_goto hR 127 dX5_earnings_123 (by decide) ?_
                refine r_iret hR dX5_earnings_127 ?_
                refine ⟨congrArg (fun z => some (Value.int (nI z))) ?_, rfl⟩
                unfold earN
                (repeat' split) <;> first | omega | rfl
          · skip
            by_cases e5 : k = 5
            · refine r_swInN hR 5 e5 (by decide) 128 dX5_earnings_50 (by decide) (by decide) rfl (by decide) ?_
              refine r_iload1 hR dX5_earnings_128 ?_
              refine r_bipush hR (nI 7) (by decide) dX5_earnings_129 ?_
              refine r_cs2v hR ks_X5_38 (by decide) (t_J9_floorMod_7cf53 (by omega) (by decide) (by decide)) (Nat.le_of_ble_eq_true rfl) dX5_earnings_131 ?_
              refine r_iconst hR (nI 1) (by decide) dX5_earnings_134 ?_
              refine r_icmp_ne hR 145 dX5_earnings_135 (by decide) (fun c135 => ?_) (fun c135 => ?_)
              · try simp (disch := omega) only [nI_ltI, nI_leI, nI_eq, bI_0, Decidable.not_not, lc_lt, lc_gt, lc_ge, lc_le, lc_eq, i64_toInt] at c135
                try simp (disch := omega) only [cv_lt, cv_le, cv_eq, nI_toInt, cv_0] at c135
                first
                | omega
                | refine r_iload6 hR dX5_earnings_145 ?_
                  refine r_iret hR dX5_earnings_147 ?_
                  refine ⟨congrArg (fun z => some (Value.int (nI z))) ?_, rfl⟩
                  unfold earN
                  (repeat' split) <;> first | omega | rfl
              · try simp (disch := omega) only [nI_ltI, nI_leI, nI_eq, bI_0, Decidable.not_not, lc_lt, lc_gt, lc_ge, lc_le, lc_eq, i64_toInt] at c135
                try simp (disch := omega) only [cv_lt, cv_le, cv_eq, nI_toInt, cv_0] at c135
                first
                | omega
                | refine r_iload6 hR dX5_earnings_138 ?_
                  refine r_iconst hR (nI 5) (by decide) dX5_earnings_140 ?_
                  first | with_reducible refine r_iaddN hR dX5_earnings_141 ?_ | refine r_iadd hR dX5_earnings_141 ?_
                  refine r_goto hR 147 dX5_earnings_142 (by decide) ?_
                  refine r_iret hR dX5_earnings_147 ?_
                  refine ⟨congrArg (fun z => some (Value.int (nI z))) ?_, rfl⟩
                  unfold earN
                  (repeat' split) <;> first | omega | rfl
            · skip
              refine r_swOutN hR (k := k) (by omega) 148 dX5_earnings_50 (by omega) (by decide) ?_
              refine r_iload5 hR dX5_earnings_148 ?_
              refine r_iret hR dX5_earnings_150 ?_
              refine ⟨congrArg (fun z => some (Value.int (nI z))) ?_, rfl⟩
              unfold earN
              (repeat' split) <;> first | omega | rfl
  have J11 : P 11 [some (.ref (ad G 4 t)), some (.int (nI day)), some (.int (nI w)), some (.int (nI fo)), none, none, none] [.int (nI (felN fo w))] M := by
    refine r_istore4 hR (fun _ h => by first | (cases h; rfl) | exact absurd h (by simp)) dX5_earnings_11 ?_
    refine r_iconst hR (nI 0) (by decide) dX5_earnings_13 ?_
    refine r_iload4 hR dX5_earnings_14 ?_
    refine r_aload0 hR dX5_earnings_16 ?_
    refine r_iload2 hR dX5_earnings_17 ?_
    refine r_cv1v hR kv_X5_24 (by decide) (t_X5_off ht hf hf8 hw) (by first | decide | assumption | (simp only [gcnt_4, gcnt_1, gcnt_2, gcnt_3, gcnt_12, gcnt_13, gcnt_16]; omega)) rfl rfl (Nat.le_of_ble_eq_true rfl) dX5_earnings_18 ?_
    refine r_isub hR dX5_earnings_21 ?_
    refine r_max hR kmax_X5_28 (by decide) (Nat.le_of_ble_eq_true rfl) dX5_earnings_22 ?_
    refine r_nm (nI (milN f fo w)) (mx0 (by omega) (by omega)) ?_
    refine r_istore5 hR (fun _ h => by first | (cases h; rfl) | exact absurd h (by simp)) dX5_earnings_25 ?_
    refine r_iload4 hR dX5_earnings_27 ?_
    refine r_iconst hR (nI 1) (by decide) dX5_earnings_29 ?_
    refine r_icmp_lt hR 43 dX5_earnings_30 (by decide) (fun c30 => ?_) (fun c30 => ?_)
    · try simp (disch := omega) only [nI_ltI, nI_leI, nI_eq, bI_0, Decidable.not_not, lc_lt, lc_gt, lc_ge, lc_le, lc_eq, i64_toInt] at c30
      try simp (disch := omega) only [cv_lt, cv_le, cv_eq, nI_toInt, cv_0] at c30
      first
      | omega
      | refine r_iconst hR (nI 0) (by decide) dX5_earnings_43 ?_
        refine r_nm (nI (driN fo w)) (by unfold driN; split <;> first | rfl | omega) ?_
        exact J44
    · try simp (disch := omega) only [nI_ltI, nI_leI, nI_eq, bI_0, Decidable.not_not, lc_lt, lc_gt, lc_ge, lc_le, lc_eq, i64_toInt] at c30
      try simp (disch := omega) only [cv_lt, cv_le, cv_eq, nI_toInt, cv_0] at c30
      first
      | omega
      | refine r_iload4 hR dX5_earnings_33 ?_
        refine r_iconst hR (nI 5) (by decide) dX5_earnings_35 ?_
        refine r_icmp_gt hR 43 dX5_earnings_36 (by decide) (fun c36 => ?_) (fun c36 => ?_)
        · try simp (disch := omega) only [nI_ltI, nI_leI, nI_eq, bI_0, Decidable.not_not, lc_lt, lc_gt, lc_ge, lc_le, lc_eq, i64_toInt] at c36
          try simp (disch := omega) only [cv_lt, cv_le, cv_eq, nI_toInt, cv_0] at c36
          first
          | omega
          | refine r_iconst hR (nI 0) (by decide) dX5_earnings_43 ?_
            refine r_nm (nI (driN fo w)) (by unfold driN; split <;> first | rfl | omega) ?_
            exact J44
        · try simp (disch := omega) only [nI_ltI, nI_leI, nI_eq, bI_0, Decidable.not_not, lc_lt, lc_gt, lc_ge, lc_le, lc_eq, i64_toInt] at c36
          try simp (disch := omega) only [cv_lt, cv_le, cv_eq, nI_toInt, cv_0] at c36
          first
          | omega
          | refine r_iconst hR (nI 3) (by decide) dX5_earnings_39 ?_
            refine r_goto hR 44 dX5_earnings_40 (by decide) ?_
            refine r_nm (nI (driN fo w)) (by unfold driN; split <;> first | rfl | omega) ?_
            exact J44
  refine r_iload2 hR dX5_earnings_0 ?_
  refine r_bipush hR (nI 8) (by decide) dX5_earnings_1 ?_
  refine r_icmp_ne hR 10 dX5_earnings_3 (by decide) (fun c3 => ?_) (fun c3 => ?_)
  · try simp (disch := omega) only [nI_ltI, nI_leI, nI_eq, bI_0, Decidable.not_not, lc_lt, lc_gt, lc_ge, lc_le, lc_eq, i64_toInt] at c3
    try simp (disch := omega) only [cv_lt, cv_le, cv_eq, nI_toInt, cv_0] at c3
    first
    | omega
    | refine r_iload3 hR dX5_earnings_10 ?_
      refine r_nm (nI (felN fo w)) (by unfold felN; split <;> first | rfl | omega) ?_
      exact J11
  · try simp (disch := omega) only [nI_ltI, nI_leI, nI_eq, bI_0, Decidable.not_not, lc_lt, lc_gt, lc_ge, lc_le, lc_eq, i64_toInt] at c3
    try simp (disch := omega) only [cv_lt, cv_le, cv_eq, nI_toInt, cv_0] at c3
    first
    | omega
    | refine r_iconst hR (nI 0) (by decide) dX5_earnings_6 ?_
      refine r_goto hR 11 dX5_earnings_7 (by decide) ?_
      refine r_nm (nI (felN fo w)) (by unfold felN; split <;> first | rfl | omega) ?_
      exact J11

set_option maxHeartbeats 4000000 in
set_option maxRecDepth 100000 in
theorem t_X5_goDay {G : gG} {M : gM} {t k c f s w fo day : Nat} (ht : t < 26) (hk : M.1 4 t 0 = nI k) (hc : M.1 4 t 1 = nI c) (hf : M.1 4 t 2 = nI f) (hs : M.1 4 t 3 = nI s) (hk6 : k < 6) (hf8 : f < 8) (hw : w < 9) (hfo : fo ≤ 9) (hd : day < 2 ^ 30) (hc36 : c < 36) (hs9 : s ≤ 99999) : Cf G mX5_goDay 3 [.ref (ad G 4 t), .int (nI day), .int (nI w), .int (nI fo)] M none (seti (seti M 4 t 3 (nI (sumN s (earN k f fo day w)))) 4 t 1 (nI (wenN k f fo c w))) := by
  refine Ct.of (by decide +kernel) (k := 0) rfl rfl (fun _ _ => trivial) ?_
  intro P hR
  refine r_aload0 hR dX5_goDay_0 ?_
  refine r_ldcN hR ct_X5_44 99999 (by decide) dX5_goDay_1 ?_
  refine r_aload0 hR dX5_goDay_3 ?_
  refine r_get hR (by first | decide | assumption | (simp only [gcnt_4, gcnt_1, gcnt_2, gcnt_3, gcnt_12, gcnt_13, gcnt_16]; omega)) fl_X5_21 rfl rfl dX5_goDay_4 ?_
  try simp only [hk, hc, hf, hs, seti_r]
  refine r_aload0 hR dX5_goDay_7 ?_
  refine r_iload1 hR dX5_goDay_8 ?_
  refine r_iload2 hR dX5_goDay_9 ?_
  refine r_iload3 hR dX5_goDay_10 ?_
  refine r_cv3v hR kv_X5_45 (by decide) (t_X5_earnings ht hk hf hk6 hf8 hw hfo hd) (by first | decide | assumption | (simp only [gcnt_4, gcnt_1, gcnt_2, gcnt_3, gcnt_12, gcnt_13, gcnt_16]; omega)) rfl rfl (Nat.le_of_ble_eq_true rfl) dX5_goDay_11 ?_
  first | with_reducible refine r_iaddN hR dX5_goDay_14 ?_ | refine r_iadd hR dX5_goDay_14 ?_
  refine r_min hR kmin_X5_49 (by decide) (Nat.le_of_ble_eq_true rfl) dX5_goDay_15 ?_
  have hear := ear_le (k := k) (f := f) (day := day) (w := w) hfo
  refine r_nm (nI (sumN s (earN k f fo day w))) (mn (by decide) (by omega)) ?_
  refine r_puti hR (by first | decide | assumption | (simp only [gcnt_4, gcnt_1, gcnt_2, gcnt_3, gcnt_12, gcnt_13, gcnt_16]; omega)) fp_X5_21 rfl rfl (Nat.le_of_ble_eq_true rfl) rfl rfl dX5_goDay_18 ?_
  refine r_aload0 hR dX5_goDay_21 ?_
  refine r_aload0 hR dX5_goDay_22 ?_
  refine r_aload0 hR dX5_goDay_23 ?_
  refine r_get hR (by first | decide | assumption | (simp only [gcnt_4, gcnt_1, gcnt_2, gcnt_3, gcnt_12, gcnt_13, gcnt_16]; omega)) fl_X5_15 rfl rfl dX5_goDay_24 ?_
  try simp only [hk, hc, hf, hs, seti_r]
  refine r_nm (nI c) (by simp [seti_r, hc]) ?_
  refine r_iload2 hR dX5_goDay_27 ?_
  refine r_iload3 hR dX5_goDay_28 ?_
  refine r_cv3v hR kv_X5_52 (by decide) (t_X5_cellAfter ht (by simp [seti_r, hk]) (by simp [seti_r, hf]) hk6 hf8 hw hfo hc36) (by first | decide | assumption | (simp only [gcnt_4, gcnt_1, gcnt_2, gcnt_3, gcnt_12, gcnt_13, gcnt_16]; omega)) rfl rfl (Nat.le_of_ble_eq_true rfl) dX5_goDay_29 ?_
  refine r_puti hR (by first | decide | assumption | (simp only [gcnt_4, gcnt_1, gcnt_2, gcnt_3, gcnt_12, gcnt_13, gcnt_16]; omega)) fp_X5_15 rfl rfl (Nat.le_of_ble_eq_true rfl) rfl rfl dX5_goDay_32 ?_
  refine r_vret hR dX5_goDay_35 ?_
  exact ⟨rfl, rfl⟩

set_option maxHeartbeats 4000000 in
set_option maxRecDepth 100000 in
theorem t_X5_become {G : gG} {M : gM} {t u : Nat} (ht : t < 26) (hu : u < 26) : Cf G mX5_become 0 [.ref (ad G 4 t), .ref (ad G 4 u)] M none (seti (seti (seti (seti M 4 t 0 (M.1 4 u 0)) 4 t 1 (M.1 4 u 1)) 4 t 2 (M.1 4 u 2)) 4 t 3 (M.1 4 u 3)) := by
  refine Ct.of (by decide +kernel) (k := 0) rfl rfl (fun _ _ => trivial) ?_
  intro P hR
  refine r_aload0 hR dX5_become_0 ?_
  refine r_aload1 hR dX5_become_1 ?_
  refine r_get hR (by first | decide | assumption | (simp only [gcnt_4, gcnt_1, gcnt_2, gcnt_3, gcnt_12, gcnt_13, gcnt_16]; omega)) fl_X5_9 rfl rfl dX5_become_2 ?_
  refine r_puti hR (by first | decide | assumption | (simp only [gcnt_4, gcnt_1, gcnt_2, gcnt_3, gcnt_12, gcnt_13, gcnt_16]; omega)) fp_X5_9 rfl rfl (Nat.le_of_ble_eq_true rfl) rfl rfl dX5_become_5 ?_
  refine r_aload0 hR dX5_become_8 ?_
  refine r_aload1 hR dX5_become_9 ?_
  refine r_get hR (by first | decide | assumption | (simp only [gcnt_4, gcnt_1, gcnt_2, gcnt_3, gcnt_12, gcnt_13, gcnt_16]; omega)) fl_X5_15 rfl rfl dX5_become_10 ?_
  refine r_nm (M.1 4 u 1) (by simp [seti_r]) ?_
  refine r_puti hR (by first | decide | assumption | (simp only [gcnt_4, gcnt_1, gcnt_2, gcnt_3, gcnt_12, gcnt_13, gcnt_16]; omega)) fp_X5_15 rfl rfl (Nat.le_of_ble_eq_true rfl) rfl rfl dX5_become_13 ?_
  refine r_aload0 hR dX5_become_16 ?_
  refine r_aload1 hR dX5_become_17 ?_
  refine r_get hR (by first | decide | assumption | (simp only [gcnt_4, gcnt_1, gcnt_2, gcnt_3, gcnt_12, gcnt_13, gcnt_16]; omega)) fl_X5_18 rfl rfl dX5_become_18 ?_
  refine r_nm (M.1 4 u 2) (by simp [seti_r]) ?_
  refine r_puti hR (by first | decide | assumption | (simp only [gcnt_4, gcnt_1, gcnt_2, gcnt_3, gcnt_12, gcnt_13, gcnt_16]; omega)) fp_X5_18 rfl rfl (Nat.le_of_ble_eq_true rfl) rfl rfl dX5_become_21 ?_
  refine r_aload0 hR dX5_become_24 ?_
  refine r_aload1 hR dX5_become_25 ?_
  refine r_get hR (by first | decide | assumption | (simp only [gcnt_4, gcnt_1, gcnt_2, gcnt_3, gcnt_12, gcnt_13, gcnt_16]; omega)) fl_X5_21 rfl rfl dX5_become_26 ?_
  refine r_nm (M.1 4 u 3) (by simp [seti_r]) ?_
  refine r_puti hR (by first | decide | assumption | (simp only [gcnt_4, gcnt_1, gcnt_2, gcnt_3, gcnt_12, gcnt_13, gcnt_16]; omega)) fp_X5_21 rfl rfl (Nat.le_of_ble_eq_true rfl) rfl rfl dX5_become_29 ?_
  refine r_vret hR dX5_become_32 ?_
  exact ⟨rfl, rfl⟩
end
