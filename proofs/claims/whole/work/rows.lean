section
-- ===== PART A: goes FIRST, ahead of the names: the tables' words, and 'selects' of the private methods out of them =====
/-- a private method of a class that the tables say can be made, by its rows of tables_1 -/
def lw_okq (q : MethodName × Nat) : Prop := (q.1.cls ≠ "java/lang/invoke/MethodHandle" ∧ q.1.cls ≠ "java/lang/invoke/VarHandle") ∧ Cond.instantiable q.1.cls q.2 ∈ tables_1 ∧ Cond.privateMethod q.1 ∈ tables_1 ∧ Cond.instanceMethod q.1 ∈ tables_1
theorem lw_p0 : lw_okq (⟨"CradleHour", "followText", "()I"⟩, 8) := ⟨⟨by decide +kernel, by decide +kernel⟩, List.mem_of_getElem? (i := 14) (by decide +kernel), List.mem_of_getElem? (i := 256) (by decide +kernel), List.mem_of_getElem? (i := 257) (by decide +kernel)⟩
theorem lw_p1 : lw_okq (⟨"CradleHour$Trial", "begin", "(LCradleHour$Gallery;)V"⟩, 7) := ⟨⟨by decide +kernel, by decide +kernel⟩, List.mem_of_getElem? (i := 110) (by decide +kernel), List.mem_of_getElem? (i := 264) (by decide +kernel), List.mem_of_getElem? (i := 265) (by decide +kernel)⟩
theorem lw_p2 : lw_okq (⟨"CradleHour$Trial", "attempt", "(III)V"⟩, 7) := ⟨⟨by decide +kernel, by decide +kernel⟩, List.mem_of_getElem? (i := 110) (by decide +kernel), List.mem_of_getElem? (i := 275) (by decide +kernel), List.mem_of_getElem? (i := 276) (by decide +kernel)⟩
theorem lw_p3 : lw_okq (⟨"CradleHour$Gallery", "isChosen", "(I)Z"⟩, 8) := ⟨⟨by decide +kernel, by decide +kernel⟩, List.mem_of_getElem? (i := 22) (by decide +kernel), List.mem_of_getElem? (i := 284) (by decide +kernel), List.mem_of_getElem? (i := 285) (by decide +kernel)⟩
theorem lw_p4 : lw_okq (⟨"CradleHour$Gallery", "listen", "(I)V"⟩, 8) := ⟨⟨by decide +kernel, by decide +kernel⟩, List.mem_of_getElem? (i := 22) (by decide +kernel), List.mem_of_getElem? (i := 300) (by decide +kernel), List.mem_of_getElem? (i := 301) (by decide +kernel)⟩
theorem lw_p5 : lw_okq (⟨"CradleHour$Gallery", "changeWithNext", "(I)V"⟩, 8) := ⟨⟨by decide +kernel, by decide +kernel⟩, List.mem_of_getElem? (i := 22) (by decide +kernel), List.mem_of_getElem? (i := 305) (by decide +kernel), List.mem_of_getElem? (i := 306) (by decide +kernel)⟩
theorem lw_p6 : lw_okq (⟨"CradleHour$Gallery", "letMinutePass", "()V"⟩, 8) := ⟨⟨by decide +kernel, by decide +kernel⟩, List.mem_of_getElem? (i := 22) (by decide +kernel), List.mem_of_getElem? (i := 312) (by decide +kernel), List.mem_of_getElem? (i := 313) (by decide +kernel)⟩
theorem lw_p7 : lw_okq (⟨"CradleHour$Rising", "longestFrom", "(I)I"⟩, 3) := ⟨⟨by decide +kernel, by decide +kernel⟩, List.mem_of_getElem? (i := 147) (by decide +kernel), List.mem_of_getElem? (i := 411) (by decide +kernel), List.mem_of_getElem? (i := 412) (by decide +kernel)⟩
theorem lw_p8 : lw_okq (⟨"CradleHour$Sights", "countFitting", "([I)I"⟩, 7) := ⟨⟨by decide +kernel, by decide +kernel⟩, List.mem_of_getElem? (i := 62) (by decide +kernel), List.mem_of_getElem? (i := 456) (by decide +kernel), List.mem_of_getElem? (i := 457) (by decide +kernel)⟩
theorem lw_p9 : lw_okq (⟨"CradleHour$Sights", "countNear", "(II)I"⟩, 7) := ⟨⟨by decide +kernel, by decide +kernel⟩, List.mem_of_getElem? (i := 62) (by decide +kernel), List.mem_of_getElem? (i := 462) (by decide +kernel), List.mem_of_getElem? (i := 463) (by decide +kernel)⟩
theorem lw_p10 : lw_okq (⟨"CradleHour", "toldOfPlace", "(II)I"⟩, 8) := ⟨⟨by decide +kernel, by decide +kernel⟩, List.mem_of_getElem? (i := 14) (by decide +kernel), List.mem_of_getElem? (i := 521) (by decide +kernel), List.mem_of_getElem? (i := 522) (by decide +kernel)⟩
theorem lw_p11 : lw_okq (⟨"CradleHour", "toldOfHeir", "(II)I"⟩, 8) := ⟨⟨by decide +kernel, by decide +kernel⟩, List.mem_of_getElem? (i := 14) (by decide +kernel), List.mem_of_getElem? (i := 525) (by decide +kernel), List.mem_of_getElem? (i := 526) (by decide +kernel)⟩
theorem lw_p12 : lw_okq (⟨"CradleHourModel", "readOn", "(II)I"⟩, 33) := ⟨⟨by decide +kernel, by decide +kernel⟩, List.mem_of_getElem? (i := 529) (by decide +kernel), List.mem_of_getElem? (i := 670) (by decide +kernel), List.mem_of_getElem? (i := 671) (by decide +kernel)⟩
theorem lw_p13 : lw_okq (⟨"CradleHourModel", "begin", "(I)I"⟩, 33) := ⟨⟨by decide +kernel, by decide +kernel⟩, List.mem_of_getElem? (i := 529) (by decide +kernel), List.mem_of_getElem? (i := 674) (by decide +kernel), List.mem_of_getElem? (i := 675) (by decide +kernel)⟩
theorem lw_p14 : lw_okq (⟨"CradleHourModel", "close", "(I)I"⟩, 33) := ⟨⟨by decide +kernel, by decide +kernel⟩, List.mem_of_getElem? (i := 529) (by decide +kernel), List.mem_of_getElem? (i := 680) (by decide +kernel), List.mem_of_getElem? (i := 681) (by decide +kernel)⟩
theorem lw_p15 : lw_okq (⟨"CradleHourModel", "deed", "(I)I"⟩, 33) := ⟨⟨by decide +kernel, by decide +kernel⟩, List.mem_of_getElem? (i := 529) (by decide +kernel), List.mem_of_getElem? (i := 684) (by decide +kernel), List.mem_of_getElem? (i := 685) (by decide +kernel)⟩
def lw_privs_1 : List (MethodName × Nat) := [(⟨"CradleHour", "followText", "()I"⟩, 8), (⟨"CradleHour$Trial", "begin", "(LCradleHour$Gallery;)V"⟩, 7), (⟨"CradleHour$Trial", "attempt", "(III)V"⟩, 7), (⟨"CradleHour$Gallery", "isChosen", "(I)Z"⟩, 8), (⟨"CradleHour$Gallery", "listen", "(I)V"⟩, 8), (⟨"CradleHour$Gallery", "changeWithNext", "(I)V"⟩, 8), (⟨"CradleHour$Gallery", "letMinutePass", "()V"⟩, 8), (⟨"CradleHour$Rising", "longestFrom", "(I)I"⟩, 3), (⟨"CradleHour$Sights", "countFitting", "([I)I"⟩, 7), (⟨"CradleHour$Sights", "countNear", "(II)I"⟩, 7), (⟨"CradleHour", "toldOfPlace", "(II)I"⟩, 8), (⟨"CradleHour", "toldOfHeir", "(II)I"⟩, 8), (⟨"CradleHourModel", "readOn", "(II)I"⟩, 33), (⟨"CradleHourModel", "begin", "(I)I"⟩, 33), (⟨"CradleHourModel", "close", "(I)I"⟩, 33), (⟨"CradleHourModel", "deed", "(I)I"⟩, 33)]
theorem lw_r1 : ∀ q ∈ lw_privs_1, lw_okq q := List.forall_mem_cons.mpr ⟨lw_p0, List.forall_mem_cons.mpr ⟨lw_p1, List.forall_mem_cons.mpr ⟨lw_p2, List.forall_mem_cons.mpr ⟨lw_p3, List.forall_mem_cons.mpr ⟨lw_p4, List.forall_mem_cons.mpr ⟨lw_p5, List.forall_mem_cons.mpr ⟨lw_p6, List.forall_mem_cons.mpr ⟨lw_p7, List.forall_mem_cons.mpr ⟨lw_p8, List.forall_mem_cons.mpr ⟨lw_p9, List.forall_mem_cons.mpr ⟨lw_p10, List.forall_mem_cons.mpr ⟨lw_p11, List.forall_mem_cons.mpr ⟨lw_p12, List.forall_mem_cons.mpr ⟨lw_p13, List.forall_mem_cons.mpr ⟨lw_p14, List.forall_mem_cons.mpr ⟨lw_p15, fun _ h => absurd h List.not_mem_nil⟩⟩⟩⟩⟩⟩⟩⟩⟩⟩⟩⟩⟩⟩⟩⟩
theorem lw_p16 : lw_okq (⟨"CradleHourModel", "count", "(II)I"⟩, 33) := ⟨⟨by decide +kernel, by decide +kernel⟩, List.mem_of_getElem? (i := 529) (by decide +kernel), List.mem_of_getElem? (i := 688) (by decide +kernel), List.mem_of_getElem? (i := 689) (by decide +kernel)⟩
theorem lw_p17 : lw_okq (⟨"CradleHourModel", "refusal", "()I"⟩, 33) := ⟨⟨by decide +kernel, by decide +kernel⟩, List.mem_of_getElem? (i := 529) (by decide +kernel), List.mem_of_getElem? (i := 699) (by decide +kernel), List.mem_of_getElem? (i := 700) (by decide +kernel)⟩
theorem lw_p18 : lw_okq (⟨"CradleHourModel", "keepNow", "()V"⟩, 33) := ⟨⟨by decide +kernel, by decide +kernel⟩, List.mem_of_getElem? (i := 529) (by decide +kernel), List.mem_of_getElem? (i := 703) (by decide +kernel), List.mem_of_getElem? (i := 704) (by decide +kernel)⟩
theorem lw_p19 : lw_okq (⟨"CradleHourModel", "goHours", "()V"⟩, 33) := ⟨⟨by decide +kernel, by decide +kernel⟩, List.mem_of_getElem? (i := 529) (by decide +kernel), List.mem_of_getElem? (i := 708) (by decide +kernel), List.mem_of_getElem? (i := 709) (by decide +kernel)⟩
theorem lw_p20 : lw_okq (⟨"CradleHourModel", "whyNot", "(III)I"⟩, 33) := ⟨⟨by decide +kernel, by decide +kernel⟩, List.mem_of_getElem? (i := 529) (by decide +kernel), List.mem_of_getElem? (i := 712) (by decide +kernel), List.mem_of_getElem? (i := 713) (by decide +kernel)⟩
theorem lw_p21 : lw_okq (⟨"CradleHourModel", "isChosen", "(I)Z"⟩, 33) := ⟨⟨by decide +kernel, by decide +kernel⟩, List.mem_of_getElem? (i := 529) (by decide +kernel), List.mem_of_getElem? (i := 716) (by decide +kernel), List.mem_of_getElem? (i := 717) (by decide +kernel)⟩
theorem lw_p22 : lw_okq (⟨"CradleHourModel", "goOne", "(I)V"⟩, 33) := ⟨⟨by decide +kernel, by decide +kernel⟩, List.mem_of_getElem? (i := 529) (by decide +kernel), List.mem_of_getElem? (i := 720) (by decide +kernel), List.mem_of_getElem? (i := 721) (by decide +kernel)⟩
theorem lw_p23 : lw_okq (⟨"CradleHourModel", "happen", "(III)V"⟩, 33) := ⟨⟨by decide +kernel, by decide +kernel⟩, List.mem_of_getElem? (i := 529) (by decide +kernel), List.mem_of_getElem? (i := 724) (by decide +kernel), List.mem_of_getElem? (i := 725) (by decide +kernel)⟩
theorem lw_p24 : lw_okq (⟨"CradleHourModel", "listen", "(I)V"⟩, 33) := ⟨⟨by decide +kernel, by decide +kernel⟩, List.mem_of_getElem? (i := 529) (by decide +kernel), List.mem_of_getElem? (i := 728) (by decide +kernel), List.mem_of_getElem? (i := 729) (by decide +kernel)⟩
theorem lw_p25 : lw_okq (⟨"CradleHourModel", "swap", "(I)V"⟩, 33) := ⟨⟨by decide +kernel, by decide +kernel⟩, List.mem_of_getElem? (i := 529) (by decide +kernel), List.mem_of_getElem? (i := 735) (by decide +kernel), List.mem_of_getElem? (i := 736) (by decide +kernel)⟩
theorem lw_p26 : lw_okq (⟨"CradleHourModel", "choose", "(I)V"⟩, 33) := ⟨⟨by decide +kernel, by decide +kernel⟩, List.mem_of_getElem? (i := 529) (by decide +kernel), List.mem_of_getElem? (i := 739) (by decide +kernel), List.mem_of_getElem? (i := 740) (by decide +kernel)⟩
theorem lw_p27 : lw_okq (⟨"CradleHourModel", "passMinute", "()V"⟩, 33) := ⟨⟨by decide +kernel, by decide +kernel⟩, List.mem_of_getElem? (i := 529) (by decide +kernel), List.mem_of_getElem? (i := 743) (by decide +kernel), List.mem_of_getElem? (i := 744) (by decide +kernel)⟩
theorem lw_p28 : lw_okq (⟨"CradleHourModel", "back", "(I)I"⟩, 33) := ⟨⟨by decide +kernel, by decide +kernel⟩, List.mem_of_getElem? (i := 529) (by decide +kernel), List.mem_of_getElem? (i := 747) (by decide +kernel), List.mem_of_getElem? (i := 748) (by decide +kernel)⟩
theorem lw_p29 : lw_okq (⟨"CradleHourModel", "ofHouse", "(I)I"⟩, 33) := ⟨⟨by decide +kernel, by decide +kernel⟩, List.mem_of_getElem? (i := 529) (by decide +kernel), List.mem_of_getElem? (i := 764) (by decide +kernel), List.mem_of_getElem? (i := 765) (by decide +kernel)⟩
theorem lw_p30 : lw_okq (⟨"CradleHourModel", "whoChose", "()I"⟩, 33) := ⟨⟨by decide +kernel, by decide +kernel⟩, List.mem_of_getElem? (i := 529) (by decide +kernel), List.mem_of_getElem? (i := 768) (by decide +kernel), List.mem_of_getElem? (i := 769) (by decide +kernel)⟩
theorem lw_p31 : lw_okq (⟨"CradleHourModel", "whoRight", "()I"⟩, 33) := ⟨⟨by decide +kernel, by decide +kernel⟩, List.mem_of_getElem? (i := 529) (by decide +kernel), List.mem_of_getElem? (i := 772) (by decide +kernel), List.mem_of_getElem? (i := 773) (by decide +kernel)⟩
def lw_privs_2 : List (MethodName × Nat) := [(⟨"CradleHourModel", "count", "(II)I"⟩, 33), (⟨"CradleHourModel", "refusal", "()I"⟩, 33), (⟨"CradleHourModel", "keepNow", "()V"⟩, 33), (⟨"CradleHourModel", "goHours", "()V"⟩, 33), (⟨"CradleHourModel", "whyNot", "(III)I"⟩, 33), (⟨"CradleHourModel", "isChosen", "(I)Z"⟩, 33), (⟨"CradleHourModel", "goOne", "(I)V"⟩, 33), (⟨"CradleHourModel", "happen", "(III)V"⟩, 33), (⟨"CradleHourModel", "listen", "(I)V"⟩, 33), (⟨"CradleHourModel", "swap", "(I)V"⟩, 33), (⟨"CradleHourModel", "choose", "(I)V"⟩, 33), (⟨"CradleHourModel", "passMinute", "()V"⟩, 33), (⟨"CradleHourModel", "back", "(I)I"⟩, 33), (⟨"CradleHourModel", "ofHouse", "(I)I"⟩, 33), (⟨"CradleHourModel", "whoChose", "()I"⟩, 33), (⟨"CradleHourModel", "whoRight", "()I"⟩, 33)]
theorem lw_r2 : ∀ q ∈ lw_privs_2, lw_okq q := List.forall_mem_cons.mpr ⟨lw_p16, List.forall_mem_cons.mpr ⟨lw_p17, List.forall_mem_cons.mpr ⟨lw_p18, List.forall_mem_cons.mpr ⟨lw_p19, List.forall_mem_cons.mpr ⟨lw_p20, List.forall_mem_cons.mpr ⟨lw_p21, List.forall_mem_cons.mpr ⟨lw_p22, List.forall_mem_cons.mpr ⟨lw_p23, List.forall_mem_cons.mpr ⟨lw_p24, List.forall_mem_cons.mpr ⟨lw_p25, List.forall_mem_cons.mpr ⟨lw_p26, List.forall_mem_cons.mpr ⟨lw_p27, List.forall_mem_cons.mpr ⟨lw_p28, List.forall_mem_cons.mpr ⟨lw_p29, List.forall_mem_cons.mpr ⟨lw_p30, List.forall_mem_cons.mpr ⟨lw_p31, fun _ h => absurd h List.not_mem_nil⟩⟩⟩⟩⟩⟩⟩⟩⟩⟩⟩⟩⟩⟩⟩⟩
theorem lw_p32 : lw_okq (⟨"CradleHourModel", "nickMany", "()I"⟩, 33) := ⟨⟨by decide +kernel, by decide +kernel⟩, List.mem_of_getElem? (i := 529) (by decide +kernel), List.mem_of_getElem? (i := 776) (by decide +kernel), List.mem_of_getElem? (i := 777) (by decide +kernel)⟩
theorem lw_p33 : lw_okq (⟨"CradleHourModel", "readBoth", "(III)Z"⟩, 33) := ⟨⟨by decide +kernel, by decide +kernel⟩, List.mem_of_getElem? (i := 529) (by decide +kernel), List.mem_of_getElem? (i := 792) (by decide +kernel), List.mem_of_getElem? (i := 793) (by decide +kernel)⟩
theorem lw_p34 : lw_okq (⟨"CradleHourModel", "timeOf", "(I)I"⟩, 33) := ⟨⟨by decide +kernel, by decide +kernel⟩, List.mem_of_getElem? (i := 529) (by decide +kernel), List.mem_of_getElem? (i := 800) (by decide +kernel), List.mem_of_getElem? (i := 801) (by decide +kernel)⟩
theorem lw_p35 : lw_okq (⟨"CradleHourModel", "nextOf", "(II)I"⟩, 33) := ⟨⟨by decide +kernel, by decide +kernel⟩, List.mem_of_getElem? (i := 529) (by decide +kernel), List.mem_of_getElem? (i := 804) (by decide +kernel), List.mem_of_getElem? (i := 805) (by decide +kernel)⟩
theorem lw_p36 : lw_okq (⟨"CradleHourModel", "sumOf", "(I)I"⟩, 33) := ⟨⟨by decide +kernel, by decide +kernel⟩, List.mem_of_getElem? (i := 529) (by decide +kernel), List.mem_of_getElem? (i := 808) (by decide +kernel), List.mem_of_getElem? (i := 809) (by decide +kernel)⟩
theorem lw_p37 : lw_okq (⟨"CradleHourModel", "riseFrom", "(I)I"⟩, 33) := ⟨⟨by decide +kernel, by decide +kernel⟩, List.mem_of_getElem? (i := 529) (by decide +kernel), List.mem_of_getElem? (i := 835) (by decide +kernel), List.mem_of_getElem? (i := 836) (by decide +kernel)⟩
theorem lw_p38 : lw_okq (⟨"CradleHourModel", "isFit", "(I)Z"⟩, 33) := ⟨⟨by decide +kernel, by decide +kernel⟩, List.mem_of_getElem? (i := 529) (by decide +kernel), List.mem_of_getElem? (i := 852) (by decide +kernel), List.mem_of_getElem? (i := 853) (by decide +kernel)⟩
theorem lw_p39 : lw_okq (⟨"CradleHourModel", "mostLeft", "(II)I"⟩, 33) := ⟨⟨by decide +kernel, by decide +kernel⟩, List.mem_of_getElem? (i := 529) (by decide +kernel), List.mem_of_getElem? (i := 863) (by decide +kernel), List.mem_of_getElem? (i := 864) (by decide +kernel)⟩
theorem lw_p40 : lw_okq (⟨"CradleHourModel", "leastTake", "(I)I"⟩, 33) := ⟨⟨by decide +kernel, by decide +kernel⟩, List.mem_of_getElem? (i := 529) (by decide +kernel), List.mem_of_getElem? (i := 872) (by decide +kernel), List.mem_of_getElem? (i := 873) (by decide +kernel)⟩
theorem lw_p41 : lw_okq (⟨"CradleHourModel", "passAll", "()V"⟩, 33) := ⟨⟨by decide +kernel, by decide +kernel⟩, List.mem_of_getElem? (i := 529) (by decide +kernel), List.mem_of_getElem? (i := 905) (by decide +kernel), List.mem_of_getElem? (i := 906) (by decide +kernel)⟩
theorem lw_p42 : lw_okq (⟨"CradleHourModel", "put", "(I)I"⟩, 33) := ⟨⟨by decide +kernel, by decide +kernel⟩, List.mem_of_getElem? (i := 529) (by decide +kernel), List.mem_of_getElem? (i := 909) (by decide +kernel), List.mem_of_getElem? (i := 910) (by decide +kernel)⟩
theorem lw_p43 : lw_okq (⟨"CradleHourModel", "passRow", "([II)V"⟩, 33) := ⟨⟨by decide +kernel, by decide +kernel⟩, List.mem_of_getElem? (i := 529) (by decide +kernel), List.mem_of_getElem? (i := 913) (by decide +kernel), List.mem_of_getElem? (i := 914) (by decide +kernel)⟩
theorem lw_p44 : lw_okq (⟨"CradleHourModel", "toldOfPlace", "(I)I"⟩, 33) := ⟨⟨by decide +kernel, by decide +kernel⟩, List.mem_of_getElem? (i := 529) (by decide +kernel), List.mem_of_getElem? (i := 927) (by decide +kernel), List.mem_of_getElem? (i := 928) (by decide +kernel)⟩
theorem lw_p45 : lw_okq (⟨"CradleHourModel", "toldOfHeir", "(I)I"⟩, 33) := ⟨⟨by decide +kernel, by decide +kernel⟩, List.mem_of_getElem? (i := 529) (by decide +kernel), List.mem_of_getElem? (i := 932) (by decide +kernel), List.mem_of_getElem? (i := 933) (by decide +kernel)⟩
def lw_privs_3 : List (MethodName × Nat) := [(⟨"CradleHourModel", "nickMany", "()I"⟩, 33), (⟨"CradleHourModel", "readBoth", "(III)Z"⟩, 33), (⟨"CradleHourModel", "timeOf", "(I)I"⟩, 33), (⟨"CradleHourModel", "nextOf", "(II)I"⟩, 33), (⟨"CradleHourModel", "sumOf", "(I)I"⟩, 33), (⟨"CradleHourModel", "riseFrom", "(I)I"⟩, 33), (⟨"CradleHourModel", "isFit", "(I)Z"⟩, 33), (⟨"CradleHourModel", "mostLeft", "(II)I"⟩, 33), (⟨"CradleHourModel", "leastTake", "(I)I"⟩, 33), (⟨"CradleHourModel", "passAll", "()V"⟩, 33), (⟨"CradleHourModel", "put", "(I)I"⟩, 33), (⟨"CradleHourModel", "passRow", "([II)V"⟩, 33), (⟨"CradleHourModel", "toldOfPlace", "(I)I"⟩, 33), (⟨"CradleHourModel", "toldOfHeir", "(I)I"⟩, 33)]
theorem lw_r3 : ∀ q ∈ lw_privs_3, lw_okq q := List.forall_mem_cons.mpr ⟨lw_p32, List.forall_mem_cons.mpr ⟨lw_p33, List.forall_mem_cons.mpr ⟨lw_p34, List.forall_mem_cons.mpr ⟨lw_p35, List.forall_mem_cons.mpr ⟨lw_p36, List.forall_mem_cons.mpr ⟨lw_p37, List.forall_mem_cons.mpr ⟨lw_p38, List.forall_mem_cons.mpr ⟨lw_p39, List.forall_mem_cons.mpr ⟨lw_p40, List.forall_mem_cons.mpr ⟨lw_p41, List.forall_mem_cons.mpr ⟨lw_p42, List.forall_mem_cons.mpr ⟨lw_p43, List.forall_mem_cons.mpr ⟨lw_p44, List.forall_mem_cons.mpr ⟨lw_p45, fun _ h => absurd h List.not_mem_nil⟩⟩⟩⟩⟩⟩⟩⟩⟩⟩⟩⟩⟩⟩
def lw_privs : List (MethodName × Nat) := lw_privs_1 ++ (lw_privs_2 ++ (lw_privs_3))
def lw_tbl : List Cond := k2_sels lw_privs ++ tables_1
theorem lw_privs_ok : ∀ q ∈ lw_privs, lw_okq q := by
  show ∀ q ∈ lw_privs_1 ++ (lw_privs_2 ++ (lw_privs_3)), lw_okq q
  exact List.forall_mem_append.mpr ⟨lw_r1, List.forall_mem_append.mpr ⟨lw_r2, lw_r3⟩⟩
end
section
def RX0 : String := "CradleHour$Gallery"
def TX0 : u_T := fun k => match k with
  | 0 => ("CradleHour$Gallery", "beats", "[I", true)
  | 1 => ("CradleHour$Gallery", "nicks", "[I", true)
  | 2 => ("CradleHour$Gallery", "owners", "[I", true)
  | 3 => ("CradleHour$Gallery", "spots", "[I", true)
  | 4 => ("CradleHour$Gallery", "kept", "[I", true)
  | 5 => ("CradleHour$Gallery", "heard", "[I", true)
  | 6 => ("CradleHour$Gallery", "chosen", "[I", true)
  | _ => ("CradleHour$Gallery", "minute", "I", false)
def tyX0 : Nat → FieldType := fun k => match k with
  | 0 => .array .int
  | 1 => .array .int
  | 2 => .array .int
  | 3 => .array .int
  | 4 => .array .int
  | 5 => .array .int
  | 6 => .array .int
  | _ => .int
theorem nmX0 : ∀ a, a < 8 → ∀ b, b < 8 → a ≠ b → (TX0 a).2.1 ≠ (TX0 b).2.1 := by decide +kernel
theorem tyX0_ok : ∀ k, k < 8 → parseFieldDescriptor (TX0 k).2.2.1 = some (tyX0 k) := by decide +kernel
abbrev cX0_init : ByteArray := prog_2_method_1_code
def yX0_init : MethodName := ⟨RX0, "<init>", "()V"⟩
abbrev cX0_copyFrom : ByteArray := prog_2_method_2_code
def yX0_copyFrom : MethodName := ⟨RX0, "copyFrom", "(LCradleHour$Gallery;)V"⟩
abbrev cX0_chosenBits : ByteArray := prog_2_method_3_code
def yX0_chosenBits : MethodName := ⟨RX0, "chosenBits", "()I"⟩
abbrev cX0_rightBits : ByteArray := prog_2_method_4_code
def yX0_rightBits : MethodName := ⟨RX0, "rightBits", "()I"⟩
abbrev cX0_nickCount : ByteArray := prog_2_method_5_code
def yX0_nickCount : MethodName := ⟨RX0, "nickCount", "()I"⟩
abbrev cX0_standsAtOwn : ByteArray := prog_2_method_6_code
def yX0_standsAtOwn : MethodName := ⟨RX0, "standsAtOwn", "(I)Z"⟩
abbrev cX0_hearsOwnBeat : ByteArray := prog_2_method_7_code
def yX0_hearsOwnBeat : MethodName := ⟨RX0, "hearsOwnBeat", "(I)Z"⟩
abbrev cX0_bar : ByteArray := prog_2_method_8_code
def yX0_bar : MethodName := ⟨RX0, "bar", "(III)I"⟩
abbrev cX0_act : ByteArray := prog_2_method_9_code
def yX0_act : MethodName := ⟨RX0, "act", "(III)V"⟩
abbrev cX0_isChosen : ByteArray := prog_2_method_10_code
def yX0_isChosen : MethodName := ⟨RX0, "isChosen", "(I)Z"⟩
abbrev cX0_listen : ByteArray := prog_2_method_11_code
def yX0_listen : MethodName := ⟨RX0, "listen", "(I)V"⟩
abbrev cX0_changeWithNext : ByteArray := prog_2_method_12_code
def yX0_changeWithNext : MethodName := ⟨RX0, "changeWithNext", "(I)V"⟩
abbrev cX0_swapWithNext : ByteArray := prog_2_method_13_code
def yX0_swapWithNext : MethodName := ⟨RX0, "swapWithNext", "([II)V"⟩
abbrev cX0_letMinutePass : ByteArray := prog_2_method_14_code
def yX0_letMinutePass : MethodName := ⟨RX0, "letMinutePass", "()V"⟩
def RX1 : String := "CradleHour$Mixing"
def TX1 : u_T := fun k => match k with
  | _ => ("", "", "", false)
def tyX1 : Nat → FieldType := fun k => match k with
  | _ => .int
theorem nmX1 : ∀ a, a < 0 → ∀ b, b < 0 → a ≠ b → (TX1 a).2.1 ≠ (TX1 b).2.1 := by decide +kernel
theorem tyX1_ok : ∀ k, k < 0 → parseFieldDescriptor (TX1 k).2.2.1 = some (tyX1 k) := by decide +kernel
abbrev cX1_placeBehind : ByteArray := prog_3_method_2_code
def yX1_placeBehind : MethodName := ⟨RX1, "placeBehind", "(III)I"⟩
abbrev cX1_round : ByteArray := prog_3_method_3_code
def yX1_round : MethodName := ⟨RX1, "round", "(I)I"⟩
def RX2 : String := "CradleHour$Pad"
def TX2 : u_T := fun k => match k with
  | 0 => ("CradleHour$Pad", "signs", "[I", true)
  | _ => ("CradleHour$Pad", "count", "I", false)
def tyX2 : Nat → FieldType := fun k => match k with
  | 0 => .array .int
  | _ => .int
theorem nmX2 : ∀ a, a < 2 → ∀ b, b < 2 → a ≠ b → (TX2 a).2.1 ≠ (TX2 b).2.1 := by decide +kernel
theorem tyX2_ok : ∀ k, k < 2 → parseFieldDescriptor (TX2 k).2.2.1 = some (tyX2 k) := by decide +kernel
abbrev cX2_init : ByteArray := prog_4_method_1_code
def yX2_init : MethodName := ⟨RX2, "<init>", "()V"⟩
abbrev cX2_add : ByteArray := prog_4_method_2_code
def yX2_add : MethodName := ⟨RX2, "add", "(I)I"⟩
abbrev cX2_clear : ByteArray := prog_4_method_3_code
def yX2_clear : MethodName := ⟨RX2, "clear", "()I"⟩
abbrev cX2_flaw : ByteArray := prog_4_method_4_code
def yX2_flaw : MethodName := ⟨RX2, "flaw", "()I"⟩
abbrev cX2_awaitedBehind : ByteArray := prog_4_method_5_code
def yX2_awaitedBehind : MethodName := ⟨RX2, "awaitedBehind", "(II)I"⟩
abbrev cX2_isLetter : ByteArray := prog_4_method_6_code
def yX2_isLetter : MethodName := ⟨RX2, "isLetter", "(I)Z"⟩
abbrev cX2_isDigit : ByteArray := prog_4_method_7_code
def yX2_isDigit : MethodName := ⟨RX2, "isDigit", "(I)Z"⟩
abbrev cX2_isWay : ByteArray := prog_4_method_8_code
def yX2_isWay : MethodName := ⟨RX2, "isWay", "(I)Z"⟩
abbrev cX2_isPlainDeed : ByteArray := prog_4_method_9_code
def yX2_isPlainDeed : MethodName := ⟨RX2, "isPlainDeed", "(I)Z"⟩
def RX3 : String := "CradleHour$Passing"
def TX3 : u_T := fun k => match k with
  | _ => ("", "", "", false)
def tyX3 : Nat → FieldType := fun k => match k with
  | _ => .int
theorem nmX3 : ∀ a, a < 0 → ∀ b, b < 0 → a ≠ b → (TX3 a).2.1 ≠ (TX3 b).2.1 := by decide +kernel
theorem tyX3_ok : ∀ k, k < 0 → parseFieldDescriptor (TX3 k).2.2.1 = some (tyX3 k) := by decide +kernel
abbrev cX3_whole : ByteArray := prog_5_method_2_code
def yX3_whole : MethodName := ⟨RX3, "whole", "(I)J"⟩
abbrev cX3_weight : ByteArray := prog_5_method_3_code
def yX3_weight : MethodName := ⟨RX3, "weight", "(II)J"⟩
abbrev cX3_best : ByteArray := prog_5_method_4_code
def yX3_best : MethodName := ⟨RX3, "best", "(I)I"⟩
def RX4 : String := "CradleHour$Rising"
def TX4 : u_T := fun k => match k with
  | 0 => ("CradleHour$Rising", "longestByBeat", "[I", true)
  | 1 => ("CradleHour$Rising", "most", "I", false)
  | _ => ("CradleHour$Rising", "first", "I", false)
def tyX4 : Nat → FieldType := fun k => match k with
  | 0 => .array .int
  | 1 => .int
  | _ => .int
theorem nmX4 : ∀ a, a < 3 → ∀ b, b < 3 → a ≠ b → (TX4 a).2.1 ≠ (TX4 b).2.1 := by decide +kernel
theorem tyX4_ok : ∀ k, k < 3 → parseFieldDescriptor (TX4 k).2.2.1 = some (tyX4 k) := by decide +kernel
abbrev cX4_init : ByteArray := prog_6_method_1_code
def yX4_init : MethodName := ⟨RX4, "<init>", "()V"⟩
abbrev cX4_measure : ByteArray := prog_6_method_2_code
def yX4_measure : MethodName := ⟨RX4, "measure", "([II)V"⟩
abbrev cX4_longestFrom : ByteArray := prog_6_method_3_code
def yX4_longestFrom : MethodName := ⟨RX4, "longestFrom", "(I)I"⟩
def RX5 : String := "CradleHour$Seeking"
def TX5 : u_T := fun k => match k with
  | _ => ("", "", "", false)
def tyX5 : Nat → FieldType := fun k => match k with
  | _ => .int
theorem nmX5 : ∀ a, a < 0 → ∀ b, b < 0 → a ≠ b → (TX5 a).2.1 ≠ (TX5 b).2.1 := by decide +kernel
theorem tyX5_ok : ∀ k, k < 0 → parseFieldDescriptor (TX5 k).2.2.1 = some (tyX5 k) := by decide +kernel
abbrev cX5_isAsTold : ByteArray := prog_7_method_2_code
def yX5_isAsTold : MethodName := ⟨RX5, "isAsTold", "(III)Z"⟩
abbrev cX5_isRow : ByteArray := prog_7_method_3_code
def yX5_isRow : MethodName := ⟨RX5, "isRow", "(II)Z"⟩
abbrev cX5_digit : ByteArray := prog_7_method_4_code
def yX5_digit : MethodName := ⟨RX5, "digit", "(III)I"⟩
abbrev cX5_digitSum : ByteArray := prog_7_method_5_code
def yX5_digitSum : MethodName := ⟨RX5, "digitSum", "(II)J"⟩
abbrev cX5_leastSum : ByteArray := prog_7_method_6_code
def yX5_leastSum : MethodName := ⟨RX5, "leastSum", "(III)J"⟩
abbrev cX5_first : ByteArray := prog_7_method_7_code
def yX5_first : MethodName := ⟨RX5, "first", "(III)I"⟩
def RX6 : String := "CradleHour$Sights"
def TX6 : u_T := fun k => match k with
  | 0 => ("CradleHour$Sights", "beats", "[I", true)
  | 1 => ("CradleHour$Sights", "spans", "[I", true)
  | 2 => ("CradleHour$Sights", "areSo", "[Z", true)
  | 3 => ("CradleHour$Sights", "fittingByBeat", "[I", true)
  | 4 => ("CradleHour$Sights", "count", "I", false)
  | 5 => ("CradleHour$Sights", "question", "I", false)
  | _ => ("CradleHour$Sights", "leftAtMost", "I", false)
def tyX6 : Nat → FieldType := fun k => match k with
  | 0 => .array .int
  | 1 => .array .int
  | 2 => .array .boolean
  | 3 => .array .int
  | 4 => .int
  | 5 => .int
  | _ => .int
theorem nmX6 : ∀ a, a < 7 → ∀ b, b < 7 → a ≠ b → (TX6 a).2.1 ≠ (TX6 b).2.1 := by decide +kernel
theorem tyX6_ok : ∀ k, k < 7 → parseFieldDescriptor (TX6 k).2.2.1 = some (tyX6 k) := by decide +kernel
abbrev cX6_init : ByteArray := prog_8_method_1_code
def yX6_init : MethodName := ⟨RX6, "<init>", "()V"⟩
abbrev cX6_copyFrom : ByteArray := prog_8_method_2_code
def yX6_copyFrom : MethodName := ⟨RX6, "copyFrom", "(LCradleHour$Sights;)V"⟩
abbrev cX6_add : ByteArray := prog_8_method_3_code
def yX6_add : MethodName := ⟨RX6, "add", "(IIZ)I"⟩
abbrev cX6_clear : ByteArray := prog_8_method_4_code
def yX6_clear : MethodName := ⟨RX6, "clear", "()I"⟩
abbrev cX6_fit : ByteArray := prog_8_method_5_code
def yX6_fit : MethodName := ⟨RX6, "fit", "(I)Z"⟩
abbrev cX6_findQuestion : ByteArray := prog_8_method_6_code
def yX6_findQuestion : MethodName := ⟨RX6, "findQuestion", "([I)V"⟩
abbrev cX6_countFitting : ByteArray := prog_8_method_7_code
def yX6_countFitting : MethodName := ⟨RX6, "countFitting", "([I)I"⟩
abbrev cX6_countNear : ByteArray := prog_8_method_8_code
def yX6_countNear : MethodName := ⟨RX6, "countNear", "(II)I"⟩
abbrev cX6_isNear : ByteArray := prog_8_method_9_code
def yX6_isNear : MethodName := ⟨RX6, "isNear", "(III)Z"⟩
def RX7 : String := "CradleHour$Trial"
def TX7 : u_T := fun k => match k with
  | 0 => ("CradleHour$Trial", "gallery", "LCradleHour$Gallery;", true)
  | 1 => ("CradleHour$Trial", "acts", "I", false)
  | 2 => ("CradleHour$Trial", "barredAct", "I", false)
  | 3 => ("CradleHour$Trial", "barredWhy", "I", false)
  | 4 => ("CradleHour$Trial", "hearings", "I", false)
  | 5 => ("CradleHour$Trial", "wrongAct", "I", false)
  | _ => ("CradleHour$Trial", "wrongHeir", "I", false)
def tyX7 : Nat → FieldType := fun k => match k with
  | 0 => .object "CradleHour$Gallery"
  | 1 => .int
  | 2 => .int
  | 3 => .int
  | 4 => .int
  | 5 => .int
  | _ => .int
theorem nmX7 : ∀ a, a < 7 → ∀ b, b < 7 → a ≠ b → (TX7 a).2.1 ≠ (TX7 b).2.1 := by decide +kernel
theorem tyX7_ok : ∀ k, k < 7 → parseFieldDescriptor (TX7 k).2.2.1 = some (tyX7 k) := by decide +kernel
abbrev cX7_init : ByteArray := prog_9_method_1_code
def yX7_init : MethodName := ⟨RX7, "<init>", "()V"⟩
abbrev cX7_follow : ByteArray := prog_9_method_2_code
def yX7_follow : MethodName := ⟨RX7, "follow", "(LCradleHour$Gallery;LCradleHour$Pad;)V"⟩
abbrev cX7_draw : ByteArray := prog_9_method_3_code
def yX7_draw : MethodName := ⟨RX7, "draw", "(LCradleHour$Gallery;II)V"⟩
abbrev cX7_drawnKind : ByteArray := prog_9_method_4_code
def yX7_drawnKind : MethodName := ⟨RX7, "drawnKind", "(II)I"⟩
abbrev cX7_begin : ByteArray := prog_9_method_5_code
def yX7_begin : MethodName := ⟨RX7, "begin", "(LCradleHour$Gallery;)V"⟩
abbrev cX7_attempt : ByteArray := prog_9_method_6_code
def yX7_attempt : MethodName := ⟨RX7, "attempt", "(III)V"⟩
def RX8 : String := "CradleHour"
def TX8 : u_T := fun k => match k with
  | 0 => ("CradleHour", "now", "LCradleHour$Gallery;", true)
  | 1 => ("CradleHour", "sights", "LCradleHour$Sights;", true)
  | 2 => ("CradleHour", "pad", "LCradleHour$Pad;", true)
  | 3 => ("CradleHour", "trial", "LCradleHour$Trial;", true)
  | 4 => ("CradleHour", "rising", "LCradleHour$Rising;", true)
  | 5 => ("CradleHour", "galleryImages", "[LCradleHour$Gallery;", true)
  | 6 => ("CradleHour", "sightsImages", "[LCradleHour$Sights;", true)
  | _ => ("CradleHour", "imageIsKept", "[Z", true)
def tyX8 : Nat → FieldType := fun k => match k with
  | 0 => .object "CradleHour$Gallery"
  | 1 => .object "CradleHour$Sights"
  | 2 => .object "CradleHour$Pad"
  | 3 => .object "CradleHour$Trial"
  | 4 => .object "CradleHour$Rising"
  | 5 => .array (.object "CradleHour$Gallery")
  | 6 => .array (.object "CradleHour$Sights")
  | _ => .array .boolean
theorem nmX8 : ∀ a, a < 8 → ∀ b, b < 8 → a ≠ b → (TX8 a).2.1 ≠ (TX8 b).2.1 := by decide +kernel
theorem tyX8_ok : ∀ k, k < 8 → parseFieldDescriptor (TX8 k).2.2.1 = some (tyX8 k) := by decide +kernel
abbrev cX8_init : ByteArray := prog_1_method_1_code
def yX8_init : MethodName := ⟨RX8, "<init>", "()V"⟩
abbrev cX8_cradle : ByteArray := prog_1_method_2_code
def yX8_cradle : MethodName := ⟨RX8, "cradle", "(IIII)I"⟩
abbrev cX8_heir : ByteArray := prog_1_method_3_code
def yX8_heir : MethodName := ⟨RX8, "heir", "(III)I"⟩
abbrev cX8_say : ByteArray := prog_1_method_4_code
def yX8_say : MethodName := ⟨RX8, "say", "(I)I"⟩
abbrev cX8_wipe : ByteArray := prog_1_method_5_code
def yX8_wipe : MethodName := ⟨RX8, "wipe", "()I"⟩
abbrev cX8_fault : ByteArray := prog_1_method_6_code
def yX8_fault : MethodName := ⟨RX8, "fault", "()I"⟩
abbrev cX8_judge : ByteArray := prog_1_method_7_code
def yX8_judge : MethodName := ⟨RX8, "judge", "(I)I"⟩
abbrev cX8_behind : ByteArray := prog_1_method_8_code
def yX8_behind : MethodName := ⟨RX8, "behind", "(II)I"⟩
abbrev cX8_stands : ByteArray := prog_1_method_9_code
def yX8_stands : MethodName := ⟨RX8, "stands", "(II)I"⟩
abbrev cX8_house : ByteArray := prog_1_method_10_code
def yX8_house : MethodName := ⟨RX8, "house", "(I)I"⟩
abbrev cX8_wrong : ByteArray := prog_1_method_11_code
def yX8_wrong : MethodName := ⟨RX8, "wrong", "(I)I"⟩
abbrev cX8_done : ByteArray := prog_1_method_12_code
def yX8_done : MethodName := ⟨RX8, "done", "()I"⟩
abbrev cX8_seek : ByteArray := prog_1_method_13_code
def yX8_seek : MethodName := ⟨RX8, "seek", "(IIII)J"⟩
abbrev cX8_looks : ByteArray := prog_1_method_14_code
def yX8_looks : MethodName := ⟨RX8, "looks", "(III)I"⟩
abbrev cX8_mix : ByteArray := prog_1_method_15_code
def yX8_mix : MethodName := ⟨RX8, "mix", "(IIII)I"⟩
abbrev cX8_rises : ByteArray := prog_1_method_16_code
def yX8_rises : MethodName := ⟨RX8, "rises", "(II)I"⟩
abbrev cX8_like : ByteArray := prog_1_method_17_code
def yX8_like : MethodName := ⟨RX8, "like", "(IIZ)I"⟩
abbrev cX8_forget : ByteArray := prog_1_method_18_code
def yX8_forget : MethodName := ⟨RX8, "forget", "()I"⟩
abbrev cX8_own : ByteArray := prog_1_method_19_code
def yX8_own : MethodName := ⟨RX8, "own", "(I)I"⟩
abbrev cX8_ask : ByteArray := prog_1_method_20_code
def yX8_ask : MethodName := ⟨RX8, "ask", "(I)I"⟩
abbrev cX8_take : ByteArray := prog_1_method_21_code
def yX8_take : MethodName := ⟨RX8, "take", "(II)I"⟩
abbrev cX8_pass : ByteArray := prog_1_method_22_code
def yX8_pass : MethodName := ⟨RX8, "pass", "(III)J"⟩
abbrev cX8_passes : ByteArray := prog_1_method_23_code
def yX8_passes : MethodName := ⟨RX8, "passes", "(I)I"⟩
abbrev cX8_hour : ByteArray := prog_1_method_24_code
def yX8_hour : MethodName := ⟨RX8, "hour", "(III)I"⟩
abbrev cX8_image : ByteArray := prog_1_method_25_code
def yX8_image : MethodName := ⟨RX8, "image", "(I)I"⟩
abbrev cX8_restore : ByteArray := prog_1_method_26_code
def yX8_restore : MethodName := ⟨RX8, "restore", "(I)I"⟩
abbrev cX8_told : ByteArray := prog_1_method_27_code
def yX8_told : MethodName := ⟨RX8, "told", "(I)I"⟩
abbrev cX8_toldOfPlace : ByteArray := prog_1_method_28_code
def yX8_toldOfPlace : MethodName := ⟨RX8, "toldOfPlace", "(II)I"⟩
abbrev cX8_toldOfHeir : ByteArray := prog_1_method_29_code
def yX8_toldOfHeir : MethodName := ⟨RX8, "toldOfHeir", "(II)I"⟩
abbrev cX8_followText : ByteArray := prog_1_method_30_code
def yX8_followText : MethodName := ⟨RX8, "followText", "()I"⟩
abbrev cX8_isWithin : ByteArray := prog_1_method_31_code
def yX8_isWithin : MethodName := ⟨RX8, "isWithin", "(III)Z"⟩
abbrev cX8_isPlace : ByteArray := prog_1_method_32_code
def yX8_isPlace : MethodName := ⟨RX8, "isPlace", "(I)Z"⟩
abbrev cX8_isHeir : ByteArray := prog_1_method_33_code
def yX8_isHeir : MethodName := ⟨RX8, "isHeir", "(I)Z"⟩
abbrev cX8_isBeat : ByteArray := prog_1_method_34_code
def yX8_isBeat : MethodName := ⟨RX8, "isBeat", "(I)Z"⟩
abbrev cX8_lowestTerm : ByteArray := prog_1_method_35_code
def yX8_lowestTerm : MethodName := ⟨RX8, "lowestTerm", "(JJI)J"⟩
abbrev cX8_commonDivisor : ByteArray := prog_1_method_36_code
def yX8_commonDivisor : MethodName := ⟨RX8, "commonDivisor", "(JJ)J"⟩
abbrev cX8_firstTaking : ByteArray := prog_1_method_37_code
def yX8_firstTaking : MethodName := ⟨RX8, "firstTaking", "(I)I"⟩
def RX9 : String := "CradleHourModel"
def TX9 : u_T := fun k => match k with
  | 0 => ("CradleHourModel", "beat", "[I", true)
  | 1 => ("CradleHourModel", "nick", "[I", true)
  | 2 => ("CradleHourModel", "owner", "[I", true)
  | 3 => ("CradleHourModel", "place", "[I", true)
  | 4 => ("CradleHourModel", "kept", "[I", true)
  | 5 => ("CradleHourModel", "heard", "[I", true)
  | 6 => ("CradleHourModel", "chosen", "[I", true)
  | 7 => ("CradleHourModel", "minutes", "I", false)
  | 8 => ("CradleHourModel", "sightBeat", "[I", true)
  | 9 => ("CradleHourModel", "sightOff", "[I", true)
  | 10 => ("CradleHourModel", "sightIs", "[I", true)
  | 11 => ("CradleHourModel", "sights", "I", false)
  | 12 => ("CradleHourModel", "pad", "[I", true)
  | 13 => ("CradleHourModel", "padMany", "I", false)
  | 14 => ("CradleHourModel", "act", "[I", true)
  | 15 => ("CradleHourModel", "who", "[I", true)
  | 16 => ("CradleHourModel", "much", "[I", true)
  | 17 => ("CradleHourModel", "acts", "I", false)
  | 18 => ("CradleHourModel", "heardMany", "I", false)
  | 19 => ("CradleHourModel", "wrongNow", "I", false)
  | 20 => ("CradleHourModel", "had", "[I", true)
  | 21 => ("CradleHourModel", "badAct", "I", false)
  | 22 => ("CradleHourModel", "badWhy", "I", false)
  | 23 => ("CradleHourModel", "wrongAct", "I", false)
  | 24 => ("CradleHourModel", "wrongHeir", "I", false)
  | 25 => ("CradleHourModel", "odd", "[I", true)
  | 26 => ("CradleHourModel", "span", "[I", true)
  | 27 => ("CradleHourModel", "rise", "[I", true)
  | 28 => ("CradleHourModel", "wins", "[Z", true)
  | 29 => ("CradleHourModel", "stored", "[I", true)
  | 30 => ("CradleHourModel", "isStored", "[Z", true)
  | 31 => ("CradleHourModel", "storedAt", "I", false)
  | _ => ("CradleHourModel", "isWriting", "Z", false)
def tyX9 : Nat → FieldType := fun k => match k with
  | 0 => .array .int
  | 1 => .array .int
  | 2 => .array .int
  | 3 => .array .int
  | 4 => .array .int
  | 5 => .array .int
  | 6 => .array .int
  | 7 => .int
  | 8 => .array .int
  | 9 => .array .int
  | 10 => .array .int
  | 11 => .int
  | 12 => .array .int
  | 13 => .int
  | 14 => .array .int
  | 15 => .array .int
  | 16 => .array .int
  | 17 => .int
  | 18 => .int
  | 19 => .int
  | 20 => .array .int
  | 21 => .int
  | 22 => .int
  | 23 => .int
  | 24 => .int
  | 25 => .array .int
  | 26 => .array .int
  | 27 => .array .int
  | 28 => .array .boolean
  | 29 => .array .int
  | 30 => .array .boolean
  | 31 => .int
  | _ => .boolean
theorem nmX9 : ∀ a, a < 33 → ∀ b, b < 33 → a ≠ b → (TX9 a).2.1 ≠ (TX9 b).2.1 := by decide +kernel
theorem tyX9_ok : ∀ k, k < 33 → parseFieldDescriptor (TX9 k).2.2.1 = some (tyX9 k) := by decide +kernel
abbrev cX9_init : ByteArray := prog_11_method_1_code
def yX9_init : MethodName := ⟨RX9, "<init>", "()V"⟩
abbrev cX9_in : ByteArray := prog_11_method_3_code
def yX9_in : MethodName := ⟨RX9, "in", "(JJJ)Z"⟩
abbrev cX9_isPlace : ByteArray := prog_11_method_4_code
def yX9_isPlace : MethodName := ⟨RX9, "isPlace", "(I)Z"⟩
abbrev cX9_isHeir : ByteArray := prog_11_method_5_code
def yX9_isHeir : MethodName := ⟨RX9, "isHeir", "(I)Z"⟩
abbrev cX9_less : ByteArray := prog_11_method_6_code
def yX9_less : MethodName := ⟨RX9, "less", "(II)I"⟩
abbrev cX9_cradle : ByteArray := prog_11_method_7_code
def yX9_cradle : MethodName := ⟨RX9, "cradle", "(IIII)I"⟩
abbrev cX9_heir : ByteArray := prog_11_method_8_code
def yX9_heir : MethodName := ⟨RX9, "heir", "(III)I"⟩
abbrev cX9_say : ByteArray := prog_11_method_9_code
def yX9_say : MethodName := ⟨RX9, "say", "(I)I"⟩
abbrev cX9_wipe : ByteArray := prog_11_method_10_code
def yX9_wipe : MethodName := ⟨RX9, "wipe", "()I"⟩
abbrev cX9_close : ByteArray := prog_11_method_11_code
def yX9_close : MethodName := ⟨RX9, "close", "(I)I"⟩
abbrev cX9_begin : ByteArray := prog_11_method_12_code
def yX9_begin : MethodName := ⟨RX9, "begin", "(I)I"⟩
abbrev cX9_count : ByteArray := prog_11_method_13_code
def yX9_count : MethodName := ⟨RX9, "count", "(II)I"⟩
abbrev cX9_deed : ByteArray := prog_11_method_14_code
def yX9_deed : MethodName := ⟨RX9, "deed", "(I)I"⟩
abbrev cX9_readOn : ByteArray := prog_11_method_15_code
def yX9_readOn : MethodName := ⟨RX9, "readOn", "(II)I"⟩
abbrev cX9_fault : ByteArray := prog_11_method_16_code
def yX9_fault : MethodName := ⟨RX9, "fault", "()I"⟩
abbrev cX9_isChosen : ByteArray := prog_11_method_17_code
def yX9_isChosen : MethodName := ⟨RX9, "isChosen", "(I)Z"⟩
abbrev cX9_whyNot : ByteArray := prog_11_method_18_code
def yX9_whyNot : MethodName := ⟨RX9, "whyNot", "(III)I"⟩
abbrev cX9_listen : ByteArray := prog_11_method_19_code
def yX9_listen : MethodName := ⟨RX9, "listen", "(I)V"⟩
abbrev cX9_swap : ByteArray := prog_11_method_20_code
def yX9_swap : MethodName := ⟨RX9, "swap", "(I)V"⟩
abbrev cX9_choose : ByteArray := prog_11_method_21_code
def yX9_choose : MethodName := ⟨RX9, "choose", "(I)V"⟩
abbrev cX9_passMinute : ByteArray := prog_11_method_22_code
def yX9_passMinute : MethodName := ⟨RX9, "passMinute", "()V"⟩
abbrev cX9_happen : ByteArray := prog_11_method_23_code
def yX9_happen : MethodName := ⟨RX9, "happen", "(III)V"⟩
abbrev cX9_keepNow : ByteArray := prog_11_method_24_code
def yX9_keepNow : MethodName := ⟨RX9, "keepNow", "()V"⟩
abbrev cX9_back : ByteArray := prog_11_method_25_code
def yX9_back : MethodName := ⟨RX9, "back", "(I)I"⟩
abbrev cX9_goOne : ByteArray := prog_11_method_26_code
def yX9_goOne : MethodName := ⟨RX9, "goOne", "(I)V"⟩
abbrev cX9_goHours : ByteArray := prog_11_method_27_code
def yX9_goHours : MethodName := ⟨RX9, "goHours", "()V"⟩
abbrev cX9_refusal : ByteArray := prog_11_method_28_code
def yX9_refusal : MethodName := ⟨RX9, "refusal", "()I"⟩
abbrev cX9_judge : ByteArray := prog_11_method_29_code
def yX9_judge : MethodName := ⟨RX9, "judge", "(I)I"⟩
abbrev cX9_behind : ByteArray := prog_11_method_30_code
def yX9_behind : MethodName := ⟨RX9, "behind", "(II)I"⟩
abbrev cX9_stands : ByteArray := prog_11_method_31_code
def yX9_stands : MethodName := ⟨RX9, "stands", "(II)I"⟩
abbrev cX9_whoChose : ByteArray := prog_11_method_32_code
def yX9_whoChose : MethodName := ⟨RX9, "whoChose", "()I"⟩
abbrev cX9_whoRight : ByteArray := prog_11_method_33_code
def yX9_whoRight : MethodName := ⟨RX9, "whoRight", "()I"⟩
abbrev cX9_nickMany : ByteArray := prog_11_method_34_code
def yX9_nickMany : MethodName := ⟨RX9, "nickMany", "()I"⟩
abbrev cX9_ofHouse : ByteArray := prog_11_method_35_code
def yX9_ofHouse : MethodName := ⟨RX9, "ofHouse", "(I)I"⟩
abbrev cX9_house : ByteArray := prog_11_method_36_code
def yX9_house : MethodName := ⟨RX9, "house", "(I)I"⟩
abbrev cX9_wrong : ByteArray := prog_11_method_37_code
def yX9_wrong : MethodName := ⟨RX9, "wrong", "(I)I"⟩
abbrev cX9_done : ByteArray := prog_11_method_38_code
def yX9_done : MethodName := ⟨RX9, "done", "()I"⟩
abbrev cX9_isRow : ByteArray := prog_11_method_39_code
def yX9_isRow : MethodName := ⟨RX9, "isRow", "(II)Z"⟩
abbrev cX9_readBoth : ByteArray := prog_11_method_40_code
def yX9_readBoth : MethodName := ⟨RX9, "readBoth", "(III)Z"⟩
abbrev cX9_sumOf : ByteArray := prog_11_method_41_code
def yX9_sumOf : MethodName := ⟨RX9, "sumOf", "(I)I"⟩
abbrev cX9_nextOf : ByteArray := prog_11_method_42_code
def yX9_nextOf : MethodName := ⟨RX9, "nextOf", "(II)I"⟩
abbrev cX9_timeOf : ByteArray := prog_11_method_43_code
def yX9_timeOf : MethodName := ⟨RX9, "timeOf", "(I)I"⟩
abbrev cX9_lowest : ByteArray := prog_11_method_44_code
def yX9_lowest : MethodName := ⟨RX9, "lowest", "(JJI)J"⟩
abbrev cX9_seek : ByteArray := prog_11_method_45_code
def yX9_seek : MethodName := ⟨RX9, "seek", "(IIII)J"⟩
abbrev cX9_looks : ByteArray := prog_11_method_46_code
def yX9_looks : MethodName := ⟨RX9, "looks", "(III)I"⟩
abbrev cX9_mixedOnce : ByteArray := prog_11_method_47_code
def yX9_mixedOnce : MethodName := ⟨RX9, "mixedOnce", "(II)I"⟩
abbrev cX9_orderOf : ByteArray := prog_11_method_48_code
def yX9_orderOf : MethodName := ⟨RX9, "orderOf", "(I)I"⟩
abbrev cX9_mix : ByteArray := prog_11_method_49_code
def yX9_mix : MethodName := ⟨RX9, "mix", "(IIII)I"⟩
abbrev cX9_riseFrom : ByteArray := prog_11_method_50_code
def yX9_riseFrom : MethodName := ⟨RX9, "riseFrom", "(I)I"⟩
abbrev cX9_rises : ByteArray := prog_11_method_51_code
def yX9_rises : MethodName := ⟨RX9, "rises", "(II)I"⟩
abbrev cX9_like : ByteArray := prog_11_method_52_code
def yX9_like : MethodName := ⟨RX9, "like", "(IIZ)I"⟩
abbrev cX9_forget : ByteArray := prog_11_method_53_code
def yX9_forget : MethodName := ⟨RX9, "forget", "()I"⟩
abbrev cX9_isLike : ByteArray := prog_11_method_54_code
def yX9_isLike : MethodName := ⟨RX9, "isLike", "(III)Z"⟩
abbrev cX9_isFit : ByteArray := prog_11_method_55_code
def yX9_isFit : MethodName := ⟨RX9, "isFit", "(I)Z"⟩
abbrev cX9_own : ByteArray := prog_11_method_56_code
def yX9_own : MethodName := ⟨RX9, "own", "(I)I"⟩
abbrev cX9_mostLeft : ByteArray := prog_11_method_57_code
def yX9_mostLeft : MethodName := ⟨RX9, "mostLeft", "(II)I"⟩
abbrev cX9_ask : ByteArray := prog_11_method_58_code
def yX9_ask : MethodName := ⟨RX9, "ask", "(I)I"⟩
abbrev cX9_leastTake : ByteArray := prog_11_method_59_code
def yX9_leastTake : MethodName := ⟨RX9, "leastTake", "(I)I"⟩
abbrev cX9_take : ByteArray := prog_11_method_60_code
def yX9_take : MethodName := ⟨RX9, "take", "(II)I"⟩
abbrev cX9_likely : ByteArray := prog_11_method_61_code
def yX9_likely : MethodName := ⟨RX9, "likely", "(II)J"⟩
abbrev cX9_pass : ByteArray := prog_11_method_62_code
def yX9_pass : MethodName := ⟨RX9, "pass", "(III)J"⟩
abbrev cX9_passes : ByteArray := prog_11_method_63_code
def yX9_passes : MethodName := ⟨RX9, "passes", "(I)I"⟩
abbrev cX9_actBy : ByteArray := prog_11_method_64_code
def yX9_actBy : MethodName := ⟨RX9, "actBy", "(II)I"⟩
abbrev cX9_hour : ByteArray := prog_11_method_65_code
def yX9_hour : MethodName := ⟨RX9, "hour", "(III)I"⟩
abbrev cX9_put : ByteArray := prog_11_method_66_code
def yX9_put : MethodName := ⟨RX9, "put", "(I)I"⟩
abbrev cX9_passRow : ByteArray := prog_11_method_67_code
def yX9_passRow : MethodName := ⟨RX9, "passRow", "([II)V"⟩
abbrev cX9_passAll : ByteArray := prog_11_method_68_code
def yX9_passAll : MethodName := ⟨RX9, "passAll", "()V"⟩
abbrev cX9_image : ByteArray := prog_11_method_69_code
def yX9_image : MethodName := ⟨RX9, "image", "(I)I"⟩
abbrev cX9_restore : ByteArray := prog_11_method_70_code
def yX9_restore : MethodName := ⟨RX9, "restore", "(I)I"⟩
abbrev cX9_toldOfHeir : ByteArray := prog_11_method_71_code
def yX9_toldOfHeir : MethodName := ⟨RX9, "toldOfHeir", "(I)I"⟩
abbrev cX9_toldOfPlace : ByteArray := prog_11_method_72_code
def yX9_toldOfPlace : MethodName := ⟨RX9, "toldOfPlace", "(I)I"⟩
abbrev cX9_told : ByteArray := prog_11_method_73_code
def yX9_told : MethodName := ⟨RX9, "told", "(I)I"⟩
def RL : String := "CradleHourLaw"
abbrev cL_law : ByteArray := code
def yL_law : MethodName := ⟨RL, "law", "([I)Z"⟩
abbrev vwCl : List vw_C := [(RX0, TX0, 8), (RX2, TX2, 2), (RX4, TX4, 3), (RX6, TX6, 7), (RX7, TX7, 7), (RX8, TX8, 8), (RX9, TX9, 33)]
end
section
theorem dX0_init_0 : decode cX0_init 0 = .ok (.aload_n 0, 1) := by decide +kernel
theorem dX0_init_1 : decode cX0_init 1 = .ok (.invokespecial 3, 3) := by decide +kernel
theorem dX0_init_4 : decode cX0_init 4 = .ok (.aload_n 0, 1) := by decide +kernel
theorem dX0_init_5 : decode cX0_init 5 = .ok (.bipush 40, 2) := by decide +kernel
theorem dX0_init_7 : decode cX0_init 7 = .ok (.newarray .int, 2) := by decide +kernel
theorem dX0_init_9 : decode cX0_init 9 = .ok (.putfield 9, 3) := by decide +kernel
theorem dX0_init_12 : decode cX0_init 12 = .ok (.aload_n 0, 1) := by decide +kernel
theorem dX0_init_13 : decode cX0_init 13 = .ok (.bipush 40, 2) := by decide +kernel
theorem dX0_init_15 : decode cX0_init 15 = .ok (.newarray .int, 2) := by decide +kernel
theorem dX0_init_17 : decode cX0_init 17 = .ok (.putfield 15, 3) := by decide +kernel
theorem dX0_init_20 : decode cX0_init 20 = .ok (.aload_n 0, 1) := by decide +kernel
theorem dX0_init_21 : decode cX0_init 21 = .ok (.bipush 40, 2) := by decide +kernel
theorem dX0_init_23 : decode cX0_init 23 = .ok (.newarray .int, 2) := by decide +kernel
theorem dX0_init_25 : decode cX0_init 25 = .ok (.putfield 18, 3) := by decide +kernel
theorem dX0_init_28 : decode cX0_init 28 = .ok (.aload_n 0, 1) := by decide +kernel
theorem dX0_init_29 : decode cX0_init 29 = .ok (.bipush 6, 2) := by decide +kernel
theorem dX0_init_31 : decode cX0_init 31 = .ok (.newarray .int, 2) := by decide +kernel
theorem dX0_init_33 : decode cX0_init 33 = .ok (.putfield 21, 3) := by decide +kernel
theorem dX0_init_36 : decode cX0_init 36 = .ok (.aload_n 0, 1) := by decide +kernel
theorem dX0_init_37 : decode cX0_init 37 = .ok (.bipush 6, 2) := by decide +kernel
theorem dX0_init_39 : decode cX0_init 39 = .ok (.newarray .int, 2) := by decide +kernel
theorem dX0_init_41 : decode cX0_init 41 = .ok (.putfield 24, 3) := by decide +kernel
theorem dX0_init_44 : decode cX0_init 44 = .ok (.aload_n 0, 1) := by decide +kernel
theorem dX0_init_45 : decode cX0_init 45 = .ok (.bipush 6, 2) := by decide +kernel
theorem dX0_init_47 : decode cX0_init 47 = .ok (.newarray .int, 2) := by decide +kernel
theorem dX0_init_49 : decode cX0_init 49 = .ok (.putfield 27, 3) := by decide +kernel
theorem dX0_init_52 : decode cX0_init 52 = .ok (.aload_n 0, 1) := by decide +kernel
theorem dX0_init_53 : decode cX0_init 53 = .ok (.bipush 6, 2) := by decide +kernel
theorem dX0_init_55 : decode cX0_init 55 = .ok (.newarray .int, 2) := by decide +kernel
theorem dX0_init_57 : decode cX0_init 57 = .ok (.putfield 30, 3) := by decide +kernel
theorem dX0_init_60 : decode cX0_init 60 = .ok (.iconst 0, 1) := by decide +kernel
theorem dX0_init_61 : decode cX0_init 61 = .ok (.istore_n 1, 1) := by decide +kernel
theorem dX0_init_62 : decode cX0_init 62 = .ok (.iload_n 1, 1) := by decide +kernel
theorem dX0_init_63 : decode cX0_init 63 = .ok (.bipush 40, 2) := by decide +kernel
theorem dX0_init_65 : decode cX0_init 65 = .ok (.if_icmp .ge 29, 3) := by decide +kernel
theorem dX0_init_68 : decode cX0_init 68 = .ok (.aload_n 0, 1) := by decide +kernel
theorem dX0_init_69 : decode cX0_init 69 = .ok (.getfield 9, 3) := by decide +kernel
theorem dX0_init_72 : decode cX0_init 72 = .ok (.iload_n 1, 1) := by decide +kernel
theorem dX0_init_73 : decode cX0_init 73 = .ok (.iload_n 1, 1) := by decide +kernel
theorem dX0_init_74 : decode cX0_init 74 = .ok (.bipush 9, 2) := by decide +kernel
theorem dX0_init_76 : decode cX0_init 76 = .ok (.irem, 1) := by decide +kernel
theorem dX0_init_77 : decode cX0_init 77 = .ok (.iconst 1, 1) := by decide +kernel
theorem dX0_init_78 : decode cX0_init 78 = .ok (.iadd, 1) := by decide +kernel
theorem dX0_init_79 : decode cX0_init 79 = .ok (.iastore, 1) := by decide +kernel
theorem dX0_init_80 : decode cX0_init 80 = .ok (.aload_n 0, 1) := by decide +kernel
theorem dX0_init_81 : decode cX0_init 81 = .ok (.getfield 18, 3) := by decide +kernel
theorem dX0_init_84 : decode cX0_init 84 = .ok (.iload_n 1, 1) := by decide +kernel
theorem dX0_init_85 : decode cX0_init 85 = .ok (.bipush (-6), 2) := by decide +kernel
theorem dX0_init_87 : decode cX0_init 87 = .ok (.iastore, 1) := by decide +kernel
theorem dX0_init_88 : decode cX0_init 88 = .ok (.iinc 1 1, 3) := by decide +kernel
theorem dX0_init_91 : decode cX0_init 91 = .ok (.goto (-29), 3) := by decide +kernel
theorem dX0_init_94 : decode cX0_init 94 = .ok (.iconst 0, 1) := by decide +kernel
theorem dX0_init_95 : decode cX0_init 95 = .ok (.istore_n 1, 1) := by decide +kernel
theorem dX0_init_96 : decode cX0_init 96 = .ok (.iload_n 1, 1) := by decide +kernel
theorem dX0_init_97 : decode cX0_init 97 = .ok (.bipush 6, 2) := by decide +kernel
theorem dX0_init_99 : decode cX0_init 99 = .ok (.if_icmp .ge 24, 3) := by decide +kernel
theorem dX0_init_102 : decode cX0_init 102 = .ok (.aload_n 0, 1) := by decide +kernel
theorem dX0_init_103 : decode cX0_init 103 = .ok (.getfield 24, 3) := by decide +kernel
theorem dX0_init_106 : decode cX0_init 106 = .ok (.iload_n 1, 1) := by decide +kernel
theorem dX0_init_107 : decode cX0_init 107 = .ok (.iconst 5, 1) := by decide +kernel
theorem dX0_init_108 : decode cX0_init 108 = .ok (.iastore, 1) := by decide +kernel
theorem dX0_init_109 : decode cX0_init 109 = .ok (.aload_n 0, 1) := by decide +kernel
theorem dX0_init_110 : decode cX0_init 110 = .ok (.getfield 30, 3) := by decide +kernel
theorem dX0_init_113 : decode cX0_init 113 = .ok (.iload_n 1, 1) := by decide +kernel
theorem dX0_init_114 : decode cX0_init 114 = .ok (.bipush (-6), 2) := by decide +kernel
theorem dX0_init_116 : decode cX0_init 116 = .ok (.iastore, 1) := by decide +kernel
theorem dX0_init_117 : decode cX0_init 117 = .ok (.iinc 1 1, 3) := by decide +kernel
theorem dX0_init_120 : decode cX0_init 120 = .ok (.goto (-24), 3) := by decide +kernel
theorem dX0_init_123 : decode cX0_init 123 = .ok (.return_, 1) := by decide +kernel
theorem dX0_copyFrom_0 : decode cX0_copyFrom 0 = .ok (.aload_n 1, 1) := by decide +kernel
theorem dX0_copyFrom_1 : decode cX0_copyFrom 1 = .ok (.getfield 9, 3) := by decide +kernel
theorem dX0_copyFrom_4 : decode cX0_copyFrom 4 = .ok (.iconst 0, 1) := by decide +kernel
theorem dX0_copyFrom_5 : decode cX0_copyFrom 5 = .ok (.aload_n 0, 1) := by decide +kernel
theorem dX0_copyFrom_6 : decode cX0_copyFrom 6 = .ok (.getfield 9, 3) := by decide +kernel
theorem dX0_copyFrom_9 : decode cX0_copyFrom 9 = .ok (.iconst 0, 1) := by decide +kernel
theorem dX0_copyFrom_10 : decode cX0_copyFrom 10 = .ok (.bipush 40, 2) := by decide +kernel
theorem dX0_copyFrom_12 : decode cX0_copyFrom 12 = .ok (.invokestatic 33, 3) := by decide +kernel
theorem dX0_copyFrom_15 : decode cX0_copyFrom 15 = .ok (.aload_n 1, 1) := by decide +kernel
theorem dX0_copyFrom_16 : decode cX0_copyFrom 16 = .ok (.getfield 15, 3) := by decide +kernel
theorem dX0_copyFrom_19 : decode cX0_copyFrom 19 = .ok (.iconst 0, 1) := by decide +kernel
theorem dX0_copyFrom_20 : decode cX0_copyFrom 20 = .ok (.aload_n 0, 1) := by decide +kernel
theorem dX0_copyFrom_21 : decode cX0_copyFrom 21 = .ok (.getfield 15, 3) := by decide +kernel
theorem dX0_copyFrom_24 : decode cX0_copyFrom 24 = .ok (.iconst 0, 1) := by decide +kernel
theorem dX0_copyFrom_25 : decode cX0_copyFrom 25 = .ok (.bipush 40, 2) := by decide +kernel
theorem dX0_copyFrom_27 : decode cX0_copyFrom 27 = .ok (.invokestatic 33, 3) := by decide +kernel
theorem dX0_copyFrom_30 : decode cX0_copyFrom 30 = .ok (.aload_n 1, 1) := by decide +kernel
theorem dX0_copyFrom_31 : decode cX0_copyFrom 31 = .ok (.getfield 18, 3) := by decide +kernel
theorem dX0_copyFrom_34 : decode cX0_copyFrom 34 = .ok (.iconst 0, 1) := by decide +kernel
theorem dX0_copyFrom_35 : decode cX0_copyFrom 35 = .ok (.aload_n 0, 1) := by decide +kernel
theorem dX0_copyFrom_36 : decode cX0_copyFrom 36 = .ok (.getfield 18, 3) := by decide +kernel
theorem dX0_copyFrom_39 : decode cX0_copyFrom 39 = .ok (.iconst 0, 1) := by decide +kernel
theorem dX0_copyFrom_40 : decode cX0_copyFrom 40 = .ok (.bipush 40, 2) := by decide +kernel
theorem dX0_copyFrom_42 : decode cX0_copyFrom 42 = .ok (.invokestatic 33, 3) := by decide +kernel
theorem dX0_copyFrom_45 : decode cX0_copyFrom 45 = .ok (.aload_n 1, 1) := by decide +kernel
theorem dX0_copyFrom_46 : decode cX0_copyFrom 46 = .ok (.getfield 21, 3) := by decide +kernel
theorem dX0_copyFrom_49 : decode cX0_copyFrom 49 = .ok (.iconst 0, 1) := by decide +kernel
theorem dX0_copyFrom_50 : decode cX0_copyFrom 50 = .ok (.aload_n 0, 1) := by decide +kernel
theorem dX0_copyFrom_51 : decode cX0_copyFrom 51 = .ok (.getfield 21, 3) := by decide +kernel
theorem dX0_copyFrom_54 : decode cX0_copyFrom 54 = .ok (.iconst 0, 1) := by decide +kernel
theorem dX0_copyFrom_55 : decode cX0_copyFrom 55 = .ok (.bipush 6, 2) := by decide +kernel
theorem dX0_copyFrom_57 : decode cX0_copyFrom 57 = .ok (.invokestatic 33, 3) := by decide +kernel
theorem dX0_copyFrom_60 : decode cX0_copyFrom 60 = .ok (.aload_n 1, 1) := by decide +kernel
theorem dX0_copyFrom_61 : decode cX0_copyFrom 61 = .ok (.getfield 24, 3) := by decide +kernel
theorem dX0_copyFrom_64 : decode cX0_copyFrom 64 = .ok (.iconst 0, 1) := by decide +kernel
theorem dX0_copyFrom_65 : decode cX0_copyFrom 65 = .ok (.aload_n 0, 1) := by decide +kernel
theorem dX0_copyFrom_66 : decode cX0_copyFrom 66 = .ok (.getfield 24, 3) := by decide +kernel
theorem dX0_copyFrom_69 : decode cX0_copyFrom 69 = .ok (.iconst 0, 1) := by decide +kernel
theorem dX0_copyFrom_70 : decode cX0_copyFrom 70 = .ok (.bipush 6, 2) := by decide +kernel
theorem dX0_copyFrom_72 : decode cX0_copyFrom 72 = .ok (.invokestatic 33, 3) := by decide +kernel
theorem dX0_copyFrom_75 : decode cX0_copyFrom 75 = .ok (.aload_n 1, 1) := by decide +kernel
theorem dX0_copyFrom_76 : decode cX0_copyFrom 76 = .ok (.getfield 27, 3) := by decide +kernel
theorem dX0_copyFrom_79 : decode cX0_copyFrom 79 = .ok (.iconst 0, 1) := by decide +kernel
theorem dX0_copyFrom_80 : decode cX0_copyFrom 80 = .ok (.aload_n 0, 1) := by decide +kernel
theorem dX0_copyFrom_81 : decode cX0_copyFrom 81 = .ok (.getfield 27, 3) := by decide +kernel
theorem dX0_copyFrom_84 : decode cX0_copyFrom 84 = .ok (.iconst 0, 1) := by decide +kernel
theorem dX0_copyFrom_85 : decode cX0_copyFrom 85 = .ok (.bipush 6, 2) := by decide +kernel
theorem dX0_copyFrom_87 : decode cX0_copyFrom 87 = .ok (.invokestatic 33, 3) := by decide +kernel
theorem dX0_copyFrom_90 : decode cX0_copyFrom 90 = .ok (.aload_n 1, 1) := by decide +kernel
theorem dX0_copyFrom_91 : decode cX0_copyFrom 91 = .ok (.getfield 30, 3) := by decide +kernel
theorem dX0_copyFrom_94 : decode cX0_copyFrom 94 = .ok (.iconst 0, 1) := by decide +kernel
theorem dX0_copyFrom_95 : decode cX0_copyFrom 95 = .ok (.aload_n 0, 1) := by decide +kernel
theorem dX0_copyFrom_96 : decode cX0_copyFrom 96 = .ok (.getfield 30, 3) := by decide +kernel
theorem dX0_copyFrom_99 : decode cX0_copyFrom 99 = .ok (.iconst 0, 1) := by decide +kernel
theorem dX0_copyFrom_100 : decode cX0_copyFrom 100 = .ok (.bipush 6, 2) := by decide +kernel
theorem dX0_copyFrom_102 : decode cX0_copyFrom 102 = .ok (.invokestatic 33, 3) := by decide +kernel
theorem dX0_copyFrom_105 : decode cX0_copyFrom 105 = .ok (.aload_n 0, 1) := by decide +kernel
theorem dX0_copyFrom_106 : decode cX0_copyFrom 106 = .ok (.aload_n 1, 1) := by decide +kernel
theorem dX0_copyFrom_107 : decode cX0_copyFrom 107 = .ok (.getfield 39, 3) := by decide +kernel
theorem dX0_copyFrom_110 : decode cX0_copyFrom 110 = .ok (.putfield 39, 3) := by decide +kernel
theorem dX0_copyFrom_113 : decode cX0_copyFrom 113 = .ok (.return_, 1) := by decide +kernel
theorem dX0_chosenBits_0 : decode cX0_chosenBits 0 = .ok (.iconst 0, 1) := by decide +kernel
theorem dX0_chosenBits_1 : decode cX0_chosenBits 1 = .ok (.istore_n 1, 1) := by decide +kernel
theorem dX0_chosenBits_2 : decode cX0_chosenBits 2 = .ok (.iconst 0, 1) := by decide +kernel
theorem dX0_chosenBits_3 : decode cX0_chosenBits 3 = .ok (.istore_n 2, 1) := by decide +kernel
theorem dX0_chosenBits_4 : decode cX0_chosenBits 4 = .ok (.iload_n 2, 1) := by decide +kernel
theorem dX0_chosenBits_5 : decode cX0_chosenBits 5 = .ok (.bipush 6, 2) := by decide +kernel
theorem dX0_chosenBits_7 : decode cX0_chosenBits 7 = .ok (.if_icmp .ge 26, 3) := by decide +kernel
theorem dX0_chosenBits_10 : decode cX0_chosenBits 10 = .ok (.aload_n 0, 1) := by decide +kernel
theorem dX0_chosenBits_11 : decode cX0_chosenBits 11 = .ok (.getfield 30, 3) := by decide +kernel
theorem dX0_chosenBits_14 : decode cX0_chosenBits 14 = .ok (.iload_n 2, 1) := by decide +kernel
theorem dX0_chosenBits_15 : decode cX0_chosenBits 15 = .ok (.iaload, 1) := by decide +kernel
theorem dX0_chosenBits_16 : decode cX0_chosenBits 16 = .ok (.bipush (-6), 2) := by decide +kernel
theorem dX0_chosenBits_18 : decode cX0_chosenBits 18 = .ok (.if_icmp .eq 9, 3) := by decide +kernel
theorem dX0_chosenBits_21 : decode cX0_chosenBits 21 = .ok (.iload_n 1, 1) := by decide +kernel
theorem dX0_chosenBits_22 : decode cX0_chosenBits 22 = .ok (.iconst 1, 1) := by decide +kernel
theorem dX0_chosenBits_23 : decode cX0_chosenBits 23 = .ok (.iload_n 2, 1) := by decide +kernel
theorem dX0_chosenBits_24 : decode cX0_chosenBits 24 = .ok (.ishl, 1) := by decide +kernel
theorem dX0_chosenBits_25 : decode cX0_chosenBits 25 = .ok (.ior, 1) := by decide +kernel
theorem dX0_chosenBits_26 : decode cX0_chosenBits 26 = .ok (.istore_n 1, 1) := by decide +kernel
theorem dX0_chosenBits_27 : decode cX0_chosenBits 27 = .ok (.iinc 2 1, 3) := by decide +kernel
theorem dX0_chosenBits_30 : decode cX0_chosenBits 30 = .ok (.goto (-26), 3) := by decide +kernel
theorem dX0_chosenBits_33 : decode cX0_chosenBits 33 = .ok (.iload_n 1, 1) := by decide +kernel
theorem dX0_chosenBits_34 : decode cX0_chosenBits 34 = .ok (.ireturn, 1) := by decide +kernel
theorem dX0_rightBits_0 : decode cX0_rightBits 0 = .ok (.iconst 0, 1) := by decide +kernel
theorem dX0_rightBits_1 : decode cX0_rightBits 1 = .ok (.istore_n 1, 1) := by decide +kernel
theorem dX0_rightBits_2 : decode cX0_rightBits 2 = .ok (.iconst 0, 1) := by decide +kernel
theorem dX0_rightBits_3 : decode cX0_rightBits 3 = .ok (.istore_n 2, 1) := by decide +kernel
theorem dX0_rightBits_4 : decode cX0_rightBits 4 = .ok (.iload_n 2, 1) := by decide +kernel
theorem dX0_rightBits_5 : decode cX0_rightBits 5 = .ok (.bipush 6, 2) := by decide +kernel
theorem dX0_rightBits_7 : decode cX0_rightBits 7 = .ok (.if_icmp .ge 42, 3) := by decide +kernel
theorem dX0_rightBits_10 : decode cX0_rightBits 10 = .ok (.aload_n 0, 1) := by decide +kernel
theorem dX0_rightBits_11 : decode cX0_rightBits 11 = .ok (.getfield 30, 3) := by decide +kernel
theorem dX0_rightBits_14 : decode cX0_rightBits 14 = .ok (.iload_n 2, 1) := by decide +kernel
theorem dX0_rightBits_15 : decode cX0_rightBits 15 = .ok (.iaload, 1) := by decide +kernel
theorem dX0_rightBits_16 : decode cX0_rightBits 16 = .ok (.invokestatic 43, 3) := by decide +kernel
theorem dX0_rightBits_19 : decode cX0_rightBits 19 = .ok (.ifCond .eq 24, 3) := by decide +kernel
theorem dX0_rightBits_22 : decode cX0_rightBits 22 = .ok (.aload_n 0, 1) := by decide +kernel
theorem dX0_rightBits_23 : decode cX0_rightBits 23 = .ok (.getfield 18, 3) := by decide +kernel
theorem dX0_rightBits_26 : decode cX0_rightBits 26 = .ok (.aload_n 0, 1) := by decide +kernel
theorem dX0_rightBits_27 : decode cX0_rightBits 27 = .ok (.getfield 30, 3) := by decide +kernel
theorem dX0_rightBits_30 : decode cX0_rightBits 30 = .ok (.iload_n 2, 1) := by decide +kernel
theorem dX0_rightBits_31 : decode cX0_rightBits 31 = .ok (.iaload, 1) := by decide +kernel
theorem dX0_rightBits_32 : decode cX0_rightBits 32 = .ok (.iaload, 1) := by decide +kernel
theorem dX0_rightBits_33 : decode cX0_rightBits 33 = .ok (.iload_n 2, 1) := by decide +kernel
theorem dX0_rightBits_34 : decode cX0_rightBits 34 = .ok (.if_icmp .ne 9, 3) := by decide +kernel
theorem dX0_rightBits_37 : decode cX0_rightBits 37 = .ok (.iload_n 1, 1) := by decide +kernel
theorem dX0_rightBits_38 : decode cX0_rightBits 38 = .ok (.iconst 1, 1) := by decide +kernel
theorem dX0_rightBits_39 : decode cX0_rightBits 39 = .ok (.iload_n 2, 1) := by decide +kernel
theorem dX0_rightBits_40 : decode cX0_rightBits 40 = .ok (.ishl, 1) := by decide +kernel
theorem dX0_rightBits_41 : decode cX0_rightBits 41 = .ok (.ior, 1) := by decide +kernel
theorem dX0_rightBits_42 : decode cX0_rightBits 42 = .ok (.istore_n 1, 1) := by decide +kernel
theorem dX0_rightBits_43 : decode cX0_rightBits 43 = .ok (.iinc 2 1, 3) := by decide +kernel
theorem dX0_rightBits_46 : decode cX0_rightBits 46 = .ok (.goto (-42), 3) := by decide +kernel
theorem dX0_rightBits_49 : decode cX0_rightBits 49 = .ok (.iload_n 1, 1) := by decide +kernel
theorem dX0_rightBits_50 : decode cX0_rightBits 50 = .ok (.ireturn, 1) := by decide +kernel
theorem dX0_nickCount_0 : decode cX0_nickCount 0 = .ok (.iconst 0, 1) := by decide +kernel
theorem dX0_nickCount_1 : decode cX0_nickCount 1 = .ok (.istore_n 1, 1) := by decide +kernel
theorem dX0_nickCount_2 : decode cX0_nickCount 2 = .ok (.iconst 0, 1) := by decide +kernel
theorem dX0_nickCount_3 : decode cX0_nickCount 3 = .ok (.istore_n 2, 1) := by decide +kernel
theorem dX0_nickCount_4 : decode cX0_nickCount 4 = .ok (.iload_n 2, 1) := by decide +kernel
theorem dX0_nickCount_5 : decode cX0_nickCount 5 = .ok (.bipush 40, 2) := by decide +kernel
theorem dX0_nickCount_7 : decode cX0_nickCount 7 = .ok (.if_icmp .ge 18, 3) := by decide +kernel
theorem dX0_nickCount_10 : decode cX0_nickCount 10 = .ok (.iload_n 1, 1) := by decide +kernel
theorem dX0_nickCount_11 : decode cX0_nickCount 11 = .ok (.aload_n 0, 1) := by decide +kernel
theorem dX0_nickCount_12 : decode cX0_nickCount 12 = .ok (.getfield 15, 3) := by decide +kernel
theorem dX0_nickCount_15 : decode cX0_nickCount 15 = .ok (.iload_n 2, 1) := by decide +kernel
theorem dX0_nickCount_16 : decode cX0_nickCount 16 = .ok (.iaload, 1) := by decide +kernel
theorem dX0_nickCount_17 : decode cX0_nickCount 17 = .ok (.iadd, 1) := by decide +kernel
theorem dX0_nickCount_18 : decode cX0_nickCount 18 = .ok (.istore_n 1, 1) := by decide +kernel
theorem dX0_nickCount_19 : decode cX0_nickCount 19 = .ok (.iinc 2 1, 3) := by decide +kernel
theorem dX0_nickCount_22 : decode cX0_nickCount 22 = .ok (.goto (-18), 3) := by decide +kernel
theorem dX0_nickCount_25 : decode cX0_nickCount 25 = .ok (.iload_n 1, 1) := by decide +kernel
theorem dX0_nickCount_26 : decode cX0_nickCount 26 = .ok (.ireturn, 1) := by decide +kernel
theorem dX0_standsAtOwn_0 : decode cX0_standsAtOwn 0 = .ok (.aload_n 0, 1) := by decide +kernel
theorem dX0_standsAtOwn_1 : decode cX0_standsAtOwn 1 = .ok (.getfield 18, 3) := by decide +kernel
theorem dX0_standsAtOwn_4 : decode cX0_standsAtOwn 4 = .ok (.aload_n 0, 1) := by decide +kernel
theorem dX0_standsAtOwn_5 : decode cX0_standsAtOwn 5 = .ok (.getfield 21, 3) := by decide +kernel
theorem dX0_standsAtOwn_8 : decode cX0_standsAtOwn 8 = .ok (.iload_n 1, 1) := by decide +kernel
theorem dX0_standsAtOwn_9 : decode cX0_standsAtOwn 9 = .ok (.iaload, 1) := by decide +kernel
theorem dX0_standsAtOwn_10 : decode cX0_standsAtOwn 10 = .ok (.iaload, 1) := by decide +kernel
theorem dX0_standsAtOwn_11 : decode cX0_standsAtOwn 11 = .ok (.iload_n 1, 1) := by decide +kernel
theorem dX0_standsAtOwn_12 : decode cX0_standsAtOwn 12 = .ok (.if_icmp .ne 7, 3) := by decide +kernel
theorem dX0_standsAtOwn_15 : decode cX0_standsAtOwn 15 = .ok (.iconst 1, 1) := by decide +kernel
theorem dX0_standsAtOwn_16 : decode cX0_standsAtOwn 16 = .ok (.goto 4, 3) := by decide +kernel
theorem dX0_standsAtOwn_19 : decode cX0_standsAtOwn 19 = .ok (.iconst 0, 1) := by decide +kernel
theorem dX0_standsAtOwn_20 : decode cX0_standsAtOwn 20 = .ok (.ireturn, 1) := by decide +kernel
theorem dX0_hearsOwnBeat_0 : decode cX0_hearsOwnBeat 0 = .ok (.aload_n 0, 1) := by decide +kernel
theorem dX0_hearsOwnBeat_1 : decode cX0_hearsOwnBeat 1 = .ok (.getfield 9, 3) := by decide +kernel
theorem dX0_hearsOwnBeat_4 : decode cX0_hearsOwnBeat 4 = .ok (.aload_n 0, 1) := by decide +kernel
theorem dX0_hearsOwnBeat_5 : decode cX0_hearsOwnBeat 5 = .ok (.getfield 21, 3) := by decide +kernel
theorem dX0_hearsOwnBeat_8 : decode cX0_hearsOwnBeat 8 = .ok (.iload_n 1, 1) := by decide +kernel
theorem dX0_hearsOwnBeat_9 : decode cX0_hearsOwnBeat 9 = .ok (.iaload, 1) := by decide +kernel
theorem dX0_hearsOwnBeat_10 : decode cX0_hearsOwnBeat 10 = .ok (.iaload, 1) := by decide +kernel
theorem dX0_hearsOwnBeat_11 : decode cX0_hearsOwnBeat 11 = .ok (.aload_n 0, 1) := by decide +kernel
theorem dX0_hearsOwnBeat_12 : decode cX0_hearsOwnBeat 12 = .ok (.getfield 24, 3) := by decide +kernel
theorem dX0_hearsOwnBeat_15 : decode cX0_hearsOwnBeat 15 = .ok (.iload_n 1, 1) := by decide +kernel
theorem dX0_hearsOwnBeat_16 : decode cX0_hearsOwnBeat 16 = .ok (.iaload, 1) := by decide +kernel
theorem dX0_hearsOwnBeat_17 : decode cX0_hearsOwnBeat 17 = .ok (.if_icmp .ne 7, 3) := by decide +kernel
theorem dX0_hearsOwnBeat_20 : decode cX0_hearsOwnBeat 20 = .ok (.iconst 1, 1) := by decide +kernel
theorem dX0_hearsOwnBeat_21 : decode cX0_hearsOwnBeat 21 = .ok (.goto 4, 3) := by decide +kernel
theorem dX0_hearsOwnBeat_24 : decode cX0_hearsOwnBeat 24 = .ok (.iconst 0, 1) := by decide +kernel
theorem dX0_hearsOwnBeat_25 : decode cX0_hearsOwnBeat 25 = .ok (.ireturn, 1) := by decide +kernel
theorem dX0_bar_0 : decode cX0_bar 0 = .ok (.iload_n 2, 1) := by decide +kernel
theorem dX0_bar_1 : decode cX0_bar 1 = .ok (.bipush 46, 2) := by decide +kernel
theorem dX0_bar_3 : decode cX0_bar 3 = .ok (.if_icmp .ne 18, 3) := by decide +kernel
theorem dX0_bar_6 : decode cX0_bar 6 = .ok (.aload_n 0, 1) := by decide +kernel
theorem dX0_bar_7 : decode cX0_bar 7 = .ok (.getfield 39, 3) := by decide +kernel
theorem dX0_bar_10 : decode cX0_bar 10 = .ok (.bipush 60, 2) := by decide +kernel
theorem dX0_bar_12 : decode cX0_bar 12 = .ok (.if_icmp .lt 7, 3) := by decide +kernel
theorem dX0_bar_15 : decode cX0_bar 15 = .ok (.iconst 5, 1) := by decide +kernel
theorem dX0_bar_16 : decode cX0_bar 16 = .ok (.goto 4, 3) := by decide +kernel
theorem dX0_bar_19 : decode cX0_bar 19 = .ok (.iconst 0, 1) := by decide +kernel
theorem dX0_bar_20 : decode cX0_bar 20 = .ok (.ireturn, 1) := by decide +kernel
theorem dX0_bar_21 : decode cX0_bar 21 = .ok (.aload_n 0, 1) := by decide +kernel
theorem dX0_bar_22 : decode cX0_bar 22 = .ok (.getfield 30, 3) := by decide +kernel
theorem dX0_bar_25 : decode cX0_bar 25 = .ok (.iload_n 1, 1) := by decide +kernel
theorem dX0_bar_26 : decode cX0_bar 26 = .ok (.iaload, 1) := by decide +kernel
theorem dX0_bar_27 : decode cX0_bar 27 = .ok (.bipush (-6), 2) := by decide +kernel
theorem dX0_bar_29 : decode cX0_bar 29 = .ok (.if_icmp .eq 5, 3) := by decide +kernel
theorem dX0_bar_32 : decode cX0_bar 32 = .ok (.iconst 1, 1) := by decide +kernel
theorem dX0_bar_33 : decode cX0_bar 33 = .ok (.ireturn, 1) := by decide +kernel
theorem dX0_bar_34 : decode cX0_bar 34 = .ok (.aload_n 0, 1) := by decide +kernel
theorem dX0_bar_35 : decode cX0_bar 35 = .ok (.getfield 21, 3) := by decide +kernel
theorem dX0_bar_38 : decode cX0_bar 38 = .ok (.iload_n 1, 1) := by decide +kernel
theorem dX0_bar_39 : decode cX0_bar 39 = .ok (.iaload, 1) := by decide +kernel
theorem dX0_bar_40 : decode cX0_bar 40 = .ok (.istore 4, 2) := by decide +kernel
theorem dX0_bar_42 : decode cX0_bar 42 = .ok (.iload_n 2, 1) := by decide +kernel
theorem dX0_bar_43 : decode cX0_bar 43 = .ok (.lookupswitch 129 #[(33, 114), (48, 97), (60, 65), (62, 49), (126, 81)], 49) := by decide +kernel
theorem dX0_bar_92 : decode cX0_bar 92 = .ok (.iload 4, 2) := by decide +kernel
theorem dX0_bar_94 : decode cX0_bar 94 = .ok (.iload_n 3, 1) := by decide +kernel
theorem dX0_bar_95 : decode cX0_bar 95 = .ok (.iadd, 1) := by decide +kernel
theorem dX0_bar_96 : decode cX0_bar 96 = .ok (.invokestatic 43, 3) := by decide +kernel
theorem dX0_bar_99 : decode cX0_bar 99 = .ok (.ifCond .eq 7, 3) := by decide +kernel
theorem dX0_bar_102 : decode cX0_bar 102 = .ok (.iconst 0, 1) := by decide +kernel
theorem dX0_bar_103 : decode cX0_bar 103 = .ok (.goto 4, 3) := by decide +kernel
theorem dX0_bar_106 : decode cX0_bar 106 = .ok (.iconst 2, 1) := by decide +kernel
theorem dX0_bar_107 : decode cX0_bar 107 = .ok (.ireturn, 1) := by decide +kernel
theorem dX0_bar_108 : decode cX0_bar 108 = .ok (.iload 4, 2) := by decide +kernel
theorem dX0_bar_110 : decode cX0_bar 110 = .ok (.iload_n 3, 1) := by decide +kernel
theorem dX0_bar_111 : decode cX0_bar 111 = .ok (.isub, 1) := by decide +kernel
theorem dX0_bar_112 : decode cX0_bar 112 = .ok (.invokestatic 43, 3) := by decide +kernel
theorem dX0_bar_115 : decode cX0_bar 115 = .ok (.ifCond .eq 7, 3) := by decide +kernel
theorem dX0_bar_118 : decode cX0_bar 118 = .ok (.iconst 0, 1) := by decide +kernel
theorem dX0_bar_119 : decode cX0_bar 119 = .ok (.goto 4, 3) := by decide +kernel
theorem dX0_bar_122 : decode cX0_bar 122 = .ok (.iconst 2, 1) := by decide +kernel
theorem dX0_bar_123 : decode cX0_bar 123 = .ok (.ireturn, 1) := by decide +kernel
theorem dX0_bar_124 : decode cX0_bar 124 = .ok (.iload 4, 2) := by decide +kernel
theorem dX0_bar_126 : decode cX0_bar 126 = .ok (.iconst 1, 1) := by decide +kernel
theorem dX0_bar_127 : decode cX0_bar 127 = .ok (.iadd, 1) := by decide +kernel
theorem dX0_bar_128 : decode cX0_bar 128 = .ok (.invokestatic 43, 3) := by decide +kernel
theorem dX0_bar_131 : decode cX0_bar 131 = .ok (.ifCond .eq 7, 3) := by decide +kernel
theorem dX0_bar_134 : decode cX0_bar 134 = .ok (.iconst 0, 1) := by decide +kernel
theorem dX0_bar_135 : decode cX0_bar 135 = .ok (.goto 4, 3) := by decide +kernel
theorem dX0_bar_138 : decode cX0_bar 138 = .ok (.iconst 2, 1) := by decide +kernel
theorem dX0_bar_139 : decode cX0_bar 139 = .ok (.ireturn, 1) := by decide +kernel
theorem dX0_bar_140 : decode cX0_bar 140 = .ok (.aload_n 0, 1) := by decide +kernel
theorem dX0_bar_141 : decode cX0_bar 141 = .ok (.getfield 9, 3) := by decide +kernel
theorem dX0_bar_144 : decode cX0_bar 144 = .ok (.iload 4, 2) := by decide +kernel
theorem dX0_bar_146 : decode cX0_bar 146 = .ok (.iaload, 1) := by decide +kernel
theorem dX0_bar_147 : decode cX0_bar 147 = .ok (.iload_n 3, 1) := by decide +kernel
theorem dX0_bar_148 : decode cX0_bar 148 = .ok (.if_icmp .ne 7, 3) := by decide +kernel
theorem dX0_bar_151 : decode cX0_bar 151 = .ok (.iconst 3, 1) := by decide +kernel
theorem dX0_bar_152 : decode cX0_bar 152 = .ok (.goto 4, 3) := by decide +kernel
theorem dX0_bar_155 : decode cX0_bar 155 = .ok (.iconst 0, 1) := by decide +kernel
theorem dX0_bar_156 : decode cX0_bar 156 = .ok (.ireturn, 1) := by decide +kernel
theorem dX0_bar_157 : decode cX0_bar 157 = .ok (.aload_n 0, 1) := by decide +kernel
theorem dX0_bar_158 : decode cX0_bar 158 = .ok (.iload 4, 2) := by decide +kernel
theorem dX0_bar_160 : decode cX0_bar 160 = .ok (.invokevirtual 47, 3) := by decide +kernel
theorem dX0_bar_163 : decode cX0_bar 163 = .ok (.ifCond .eq 7, 3) := by decide +kernel
theorem dX0_bar_166 : decode cX0_bar 166 = .ok (.iconst 4, 1) := by decide +kernel
theorem dX0_bar_167 : decode cX0_bar 167 = .ok (.goto 4, 3) := by decide +kernel
theorem dX0_bar_170 : decode cX0_bar 170 = .ok (.iconst 0, 1) := by decide +kernel
theorem dX0_bar_171 : decode cX0_bar 171 = .ok (.ireturn, 1) := by decide +kernel
theorem dX0_bar_172 : decode cX0_bar 172 = .ok (.iconst 0, 1) := by decide +kernel
theorem dX0_bar_173 : decode cX0_bar 173 = .ok (.ireturn, 1) := by decide +kernel
theorem dX0_act_0 : decode cX0_act 0 = .ok (.aload_n 0, 1) := by decide +kernel
theorem dX0_act_1 : decode cX0_act 1 = .ok (.getfield 21, 3) := by decide +kernel
theorem dX0_act_4 : decode cX0_act 4 = .ok (.iload_n 1, 1) := by decide +kernel
theorem dX0_act_5 : decode cX0_act 5 = .ok (.iaload, 1) := by decide +kernel
theorem dX0_act_6 : decode cX0_act 6 = .ok (.istore 4, 2) := by decide +kernel
theorem dX0_act_8 : decode cX0_act 8 = .ok (.iload_n 2, 1) := by decide +kernel
theorem dX0_act_9 : decode cX0_act 9 = .ok (.lookupswitch 166 #[(33, 148), (42, 109), (46, 159), (48, 128), (60, 88), (62, 75), (63, 101), (126, 139)], 75) := by decide +kernel
theorem dX0_act_84 : decode cX0_act 84 = .ok (.aload_n 0, 1) := by decide +kernel
theorem dX0_act_85 : decode cX0_act 85 = .ok (.getfield 21, 3) := by decide +kernel
theorem dX0_act_88 : decode cX0_act 88 = .ok (.iload_n 1, 1) := by decide +kernel
theorem dX0_act_89 : decode cX0_act 89 = .ok (.iload 4, 2) := by decide +kernel
theorem dX0_act_91 : decode cX0_act 91 = .ok (.iload_n 3, 1) := by decide +kernel
theorem dX0_act_92 : decode cX0_act 92 = .ok (.iadd, 1) := by decide +kernel
theorem dX0_act_93 : decode cX0_act 93 = .ok (.iastore, 1) := by decide +kernel
theorem dX0_act_94 : decode cX0_act 94 = .ok (.goto 81, 3) := by decide +kernel
theorem dX0_act_97 : decode cX0_act 97 = .ok (.aload_n 0, 1) := by decide +kernel
theorem dX0_act_98 : decode cX0_act 98 = .ok (.getfield 21, 3) := by decide +kernel
theorem dX0_act_101 : decode cX0_act 101 = .ok (.iload_n 1, 1) := by decide +kernel
theorem dX0_act_102 : decode cX0_act 102 = .ok (.iload 4, 2) := by decide +kernel
theorem dX0_act_104 : decode cX0_act 104 = .ok (.iload_n 3, 1) := by decide +kernel
theorem dX0_act_105 : decode cX0_act 105 = .ok (.isub, 1) := by decide +kernel
theorem dX0_act_106 : decode cX0_act 106 = .ok (.iastore, 1) := by decide +kernel
theorem dX0_act_107 : decode cX0_act 107 = .ok (.goto 68, 3) := by decide +kernel
theorem dX0_act_110 : decode cX0_act 110 = .ok (.aload_n 0, 1) := by decide +kernel
theorem dX0_act_111 : decode cX0_act 111 = .ok (.iload_n 1, 1) := by decide +kernel
theorem dX0_act_112 : decode cX0_act 112 = .ok (.invokevirtual 50, 3) := by decide +kernel
theorem dX0_act_115 : decode cX0_act 115 = .ok (.goto 60, 3) := by decide +kernel
theorem dX0_act_118 : decode cX0_act 118 = .ok (.aload_n 0, 1) := by decide +kernel
theorem dX0_act_119 : decode cX0_act 119 = .ok (.getfield 15, 3) := by decide +kernel
theorem dX0_act_122 : decode cX0_act 122 = .ok (.iload 4, 2) := by decide +kernel
theorem dX0_act_124 : decode cX0_act 124 = .ok (.iconst 1, 1) := by decide +kernel
theorem dX0_act_125 : decode cX0_act 125 = .ok (.aload_n 0, 1) := by decide +kernel
theorem dX0_act_126 : decode cX0_act 126 = .ok (.getfield 15, 3) := by decide +kernel
theorem dX0_act_129 : decode cX0_act 129 = .ok (.iload 4, 2) := by decide +kernel
theorem dX0_act_131 : decode cX0_act 131 = .ok (.iaload, 1) := by decide +kernel
theorem dX0_act_132 : decode cX0_act 132 = .ok (.isub, 1) := by decide +kernel
theorem dX0_act_133 : decode cX0_act 133 = .ok (.iastore, 1) := by decide +kernel
theorem dX0_act_134 : decode cX0_act 134 = .ok (.goto 41, 3) := by decide +kernel
theorem dX0_act_137 : decode cX0_act 137 = .ok (.aload_n 0, 1) := by decide +kernel
theorem dX0_act_138 : decode cX0_act 138 = .ok (.getfield 9, 3) := by decide +kernel
theorem dX0_act_141 : decode cX0_act 141 = .ok (.iload 4, 2) := by decide +kernel
theorem dX0_act_143 : decode cX0_act 143 = .ok (.iload_n 3, 1) := by decide +kernel
theorem dX0_act_144 : decode cX0_act 144 = .ok (.iastore, 1) := by decide +kernel
theorem dX0_act_145 : decode cX0_act 145 = .ok (.goto 30, 3) := by decide +kernel
theorem dX0_act_148 : decode cX0_act 148 = .ok (.aload_n 0, 1) := by decide +kernel
theorem dX0_act_149 : decode cX0_act 149 = .ok (.iload 4, 2) := by decide +kernel
theorem dX0_act_151 : decode cX0_act 151 = .ok (.invokevirtual 54, 3) := by decide +kernel
theorem dX0_act_154 : decode cX0_act 154 = .ok (.goto 21, 3) := by decide +kernel
theorem dX0_act_157 : decode cX0_act 157 = .ok (.aload_n 0, 1) := by decide +kernel
theorem dX0_act_158 : decode cX0_act 158 = .ok (.getfield 30, 3) := by decide +kernel
theorem dX0_act_161 : decode cX0_act 161 = .ok (.iload_n 1, 1) := by decide +kernel
theorem dX0_act_162 : decode cX0_act 162 = .ok (.iload 4, 2) := by decide +kernel
theorem dX0_act_164 : decode cX0_act 164 = .ok (.iastore, 1) := by decide +kernel
theorem dX0_act_165 : decode cX0_act 165 = .ok (.goto 10, 3) := by decide +kernel
theorem dX0_act_168 : decode cX0_act 168 = .ok (.aload_n 0, 1) := by decide +kernel
theorem dX0_act_169 : decode cX0_act 169 = .ok (.invokevirtual 57, 3) := by decide +kernel
theorem dX0_act_172 : decode cX0_act 172 = .ok (.goto 3, 3) := by decide +kernel
theorem dX0_act_175 : decode cX0_act 175 = .ok (.return_, 1) := by decide +kernel
theorem dX0_isChosen_0 : decode cX0_isChosen 0 = .ok (.iconst 0, 1) := by decide +kernel
theorem dX0_isChosen_1 : decode cX0_isChosen 1 = .ok (.istore_n 2, 1) := by decide +kernel
theorem dX0_isChosen_2 : decode cX0_isChosen 2 = .ok (.iload_n 2, 1) := by decide +kernel
theorem dX0_isChosen_3 : decode cX0_isChosen 3 = .ok (.bipush 6, 2) := by decide +kernel
theorem dX0_isChosen_5 : decode cX0_isChosen 5 = .ok (.if_icmp .ge 21, 3) := by decide +kernel
theorem dX0_isChosen_8 : decode cX0_isChosen 8 = .ok (.aload_n 0, 1) := by decide +kernel
theorem dX0_isChosen_9 : decode cX0_isChosen 9 = .ok (.getfield 30, 3) := by decide +kernel
theorem dX0_isChosen_12 : decode cX0_isChosen 12 = .ok (.iload_n 2, 1) := by decide +kernel
theorem dX0_isChosen_13 : decode cX0_isChosen 13 = .ok (.iaload, 1) := by decide +kernel
theorem dX0_isChosen_14 : decode cX0_isChosen 14 = .ok (.iload_n 1, 1) := by decide +kernel
theorem dX0_isChosen_15 : decode cX0_isChosen 15 = .ok (.if_icmp .ne 5, 3) := by decide +kernel
theorem dX0_isChosen_18 : decode cX0_isChosen 18 = .ok (.iconst 1, 1) := by decide +kernel
theorem dX0_isChosen_19 : decode cX0_isChosen 19 = .ok (.ireturn, 1) := by decide +kernel
theorem dX0_isChosen_20 : decode cX0_isChosen 20 = .ok (.iinc 2 1, 3) := by decide +kernel
theorem dX0_isChosen_23 : decode cX0_isChosen 23 = .ok (.goto (-21), 3) := by decide +kernel
theorem dX0_isChosen_26 : decode cX0_isChosen 26 = .ok (.iconst 0, 1) := by decide +kernel
theorem dX0_isChosen_27 : decode cX0_isChosen 27 = .ok (.ireturn, 1) := by decide +kernel
theorem dX0_listen_0 : decode cX0_listen 0 = .ok (.aload_n 0, 1) := by decide +kernel
theorem dX0_listen_1 : decode cX0_listen 1 = .ok (.iload_n 1, 1) := by decide +kernel
theorem dX0_listen_2 : decode cX0_listen 2 = .ok (.invokevirtual 60, 3) := by decide +kernel
theorem dX0_listen_5 : decode cX0_listen 5 = .ok (.ifCond .eq 24, 3) := by decide +kernel
theorem dX0_listen_8 : decode cX0_listen 8 = .ok (.aload_n 0, 1) := by decide +kernel
theorem dX0_listen_9 : decode cX0_listen 9 = .ok (.getfield 27, 3) := by decide +kernel
theorem dX0_listen_12 : decode cX0_listen 12 = .ok (.iload_n 1, 1) := by decide +kernel
theorem dX0_listen_13 : decode cX0_listen 13 = .ok (.iaload, 1) := by decide +kernel
theorem dX0_listen_14 : decode cX0_listen 14 = .ok (.bipush 99, 2) := by decide +kernel
theorem dX0_listen_16 : decode cX0_listen 16 = .ok (.if_icmp .ge 13, 3) := by decide +kernel
theorem dX0_listen_19 : decode cX0_listen 19 = .ok (.aload_n 0, 1) := by decide +kernel
theorem dX0_listen_20 : decode cX0_listen 20 = .ok (.getfield 27, 3) := by decide +kernel
theorem dX0_listen_23 : decode cX0_listen 23 = .ok (.iload_n 1, 1) := by decide +kernel
theorem dX0_listen_24 : decode cX0_listen 24 = .ok (.dup2, 1) := by decide +kernel
theorem dX0_listen_25 : decode cX0_listen 25 = .ok (.iaload, 1) := by decide +kernel
theorem dX0_listen_26 : decode cX0_listen 26 = .ok (.iconst 1, 1) := by decide +kernel
theorem dX0_listen_27 : decode cX0_listen 27 = .ok (.iadd, 1) := by decide +kernel
theorem dX0_listen_28 : decode cX0_listen 28 = .ok (.iastore, 1) := by decide +kernel
theorem dX0_listen_29 : decode cX0_listen 29 = .ok (.return_, 1) := by decide +kernel
theorem dX0_changeWithNext_0 : decode cX0_changeWithNext 0 = .ok (.aload_n 0, 1) := by decide +kernel
theorem dX0_changeWithNext_1 : decode cX0_changeWithNext 1 = .ok (.getfield 9, 3) := by decide +kernel
theorem dX0_changeWithNext_4 : decode cX0_changeWithNext 4 = .ok (.iload_n 1, 1) := by decide +kernel
theorem dX0_changeWithNext_5 : decode cX0_changeWithNext 5 = .ok (.invokestatic 63, 3) := by decide +kernel
theorem dX0_changeWithNext_8 : decode cX0_changeWithNext 8 = .ok (.aload_n 0, 1) := by decide +kernel
theorem dX0_changeWithNext_9 : decode cX0_changeWithNext 9 = .ok (.getfield 15, 3) := by decide +kernel
theorem dX0_changeWithNext_12 : decode cX0_changeWithNext 12 = .ok (.iload_n 1, 1) := by decide +kernel
theorem dX0_changeWithNext_13 : decode cX0_changeWithNext 13 = .ok (.invokestatic 63, 3) := by decide +kernel
theorem dX0_changeWithNext_16 : decode cX0_changeWithNext 16 = .ok (.aload_n 0, 1) := by decide +kernel
theorem dX0_changeWithNext_17 : decode cX0_changeWithNext 17 = .ok (.getfield 18, 3) := by decide +kernel
theorem dX0_changeWithNext_20 : decode cX0_changeWithNext 20 = .ok (.iload_n 1, 1) := by decide +kernel
theorem dX0_changeWithNext_21 : decode cX0_changeWithNext 21 = .ok (.invokestatic 63, 3) := by decide +kernel
theorem dX0_changeWithNext_24 : decode cX0_changeWithNext 24 = .ok (.return_, 1) := by decide +kernel
theorem dX0_swapWithNext_0 : decode cX0_swapWithNext 0 = .ok (.iload_n 1, 1) := by decide +kernel
theorem dX0_swapWithNext_1 : decode cX0_swapWithNext 1 = .ok (.ifCond .lt 11, 3) := by decide +kernel
theorem dX0_swapWithNext_4 : decode cX0_swapWithNext 4 = .ok (.iload_n 1, 1) := by decide +kernel
theorem dX0_swapWithNext_5 : decode cX0_swapWithNext 5 = .ok (.iconst 1, 1) := by decide +kernel
theorem dX0_swapWithNext_6 : decode cX0_swapWithNext 6 = .ok (.iadd, 1) := by decide +kernel
theorem dX0_swapWithNext_7 : decode cX0_swapWithNext 7 = .ok (.aload_n 0, 1) := by decide +kernel
theorem dX0_swapWithNext_8 : decode cX0_swapWithNext 8 = .ok (.arraylength, 1) := by decide +kernel
theorem dX0_swapWithNext_9 : decode cX0_swapWithNext 9 = .ok (.if_icmp .lt 4, 3) := by decide +kernel
theorem dX0_swapWithNext_12 : decode cX0_swapWithNext 12 = .ok (.return_, 1) := by decide +kernel
theorem dX0_swapWithNext_13 : decode cX0_swapWithNext 13 = .ok (.aload_n 0, 1) := by decide +kernel
theorem dX0_swapWithNext_14 : decode cX0_swapWithNext 14 = .ok (.iload_n 1, 1) := by decide +kernel
theorem dX0_swapWithNext_15 : decode cX0_swapWithNext 15 = .ok (.iaload, 1) := by decide +kernel
theorem dX0_swapWithNext_16 : decode cX0_swapWithNext 16 = .ok (.istore_n 2, 1) := by decide +kernel
theorem dX0_swapWithNext_17 : decode cX0_swapWithNext 17 = .ok (.aload_n 0, 1) := by decide +kernel
theorem dX0_swapWithNext_18 : decode cX0_swapWithNext 18 = .ok (.iload_n 1, 1) := by decide +kernel
theorem dX0_swapWithNext_19 : decode cX0_swapWithNext 19 = .ok (.aload_n 0, 1) := by decide +kernel
theorem dX0_swapWithNext_20 : decode cX0_swapWithNext 20 = .ok (.iload_n 1, 1) := by decide +kernel
theorem dX0_swapWithNext_21 : decode cX0_swapWithNext 21 = .ok (.iconst 1, 1) := by decide +kernel
theorem dX0_swapWithNext_22 : decode cX0_swapWithNext 22 = .ok (.iadd, 1) := by decide +kernel
theorem dX0_swapWithNext_23 : decode cX0_swapWithNext 23 = .ok (.iaload, 1) := by decide +kernel
theorem dX0_swapWithNext_24 : decode cX0_swapWithNext 24 = .ok (.iastore, 1) := by decide +kernel
theorem dX0_swapWithNext_25 : decode cX0_swapWithNext 25 = .ok (.aload_n 0, 1) := by decide +kernel
theorem dX0_swapWithNext_26 : decode cX0_swapWithNext 26 = .ok (.iload_n 1, 1) := by decide +kernel
theorem dX0_swapWithNext_27 : decode cX0_swapWithNext 27 = .ok (.iconst 1, 1) := by decide +kernel
theorem dX0_swapWithNext_28 : decode cX0_swapWithNext 28 = .ok (.iadd, 1) := by decide +kernel
theorem dX0_swapWithNext_29 : decode cX0_swapWithNext 29 = .ok (.iload_n 2, 1) := by decide +kernel
theorem dX0_swapWithNext_30 : decode cX0_swapWithNext 30 = .ok (.iastore, 1) := by decide +kernel
theorem dX0_swapWithNext_31 : decode cX0_swapWithNext 31 = .ok (.return_, 1) := by decide +kernel
theorem dX0_letMinutePass_0 : decode cX0_letMinutePass 0 = .ok (.aload_n 0, 1) := by decide +kernel
theorem dX0_letMinutePass_1 : decode cX0_letMinutePass 1 = .ok (.dup, 1) := by decide +kernel
theorem dX0_letMinutePass_2 : decode cX0_letMinutePass 2 = .ok (.getfield 39, 3) := by decide +kernel
theorem dX0_letMinutePass_5 : decode cX0_letMinutePass 5 = .ok (.iconst 1, 1) := by decide +kernel
theorem dX0_letMinutePass_6 : decode cX0_letMinutePass 6 = .ok (.iadd, 1) := by decide +kernel
theorem dX0_letMinutePass_7 : decode cX0_letMinutePass 7 = .ok (.putfield 39, 3) := by decide +kernel
theorem dX0_letMinutePass_10 : decode cX0_letMinutePass 10 = .ok (.iconst 0, 1) := by decide +kernel
theorem dX0_letMinutePass_11 : decode cX0_letMinutePass 11 = .ok (.istore_n 1, 1) := by decide +kernel
theorem dX0_letMinutePass_12 : decode cX0_letMinutePass 12 = .ok (.iload_n 1, 1) := by decide +kernel
theorem dX0_letMinutePass_13 : decode cX0_letMinutePass 13 = .ok (.bipush 6, 2) := by decide +kernel
theorem dX0_letMinutePass_15 : decode cX0_letMinutePass 15 = .ok (.if_icmp .ge 55, 3) := by decide +kernel
theorem dX0_letMinutePass_18 : decode cX0_letMinutePass 18 = .ok (.aload_n 0, 1) := by decide +kernel
theorem dX0_letMinutePass_19 : decode cX0_letMinutePass 19 = .ok (.getfield 21, 3) := by decide +kernel
theorem dX0_letMinutePass_22 : decode cX0_letMinutePass 22 = .ok (.iload_n 1, 1) := by decide +kernel
theorem dX0_letMinutePass_23 : decode cX0_letMinutePass 23 = .ok (.iaload, 1) := by decide +kernel
theorem dX0_letMinutePass_24 : decode cX0_letMinutePass 24 = .ok (.istore_n 2, 1) := by decide +kernel
theorem dX0_letMinutePass_25 : decode cX0_letMinutePass 25 = .ok (.aload_n 0, 1) := by decide +kernel
theorem dX0_letMinutePass_26 : decode cX0_letMinutePass 26 = .ok (.getfield 30, 3) := by decide +kernel
theorem dX0_letMinutePass_29 : decode cX0_letMinutePass 29 = .ok (.iload_n 1, 1) := by decide +kernel
theorem dX0_letMinutePass_30 : decode cX0_letMinutePass 30 = .ok (.iaload, 1) := by decide +kernel
theorem dX0_letMinutePass_31 : decode cX0_letMinutePass 31 = .ok (.bipush (-6), 2) := by decide +kernel
theorem dX0_letMinutePass_33 : decode cX0_letMinutePass 33 = .ok (.if_icmp .ne 31, 3) := by decide +kernel
theorem dX0_letMinutePass_36 : decode cX0_letMinutePass 36 = .ok (.aload_n 0, 1) := by decide +kernel
theorem dX0_letMinutePass_37 : decode cX0_letMinutePass 37 = .ok (.getfield 15, 3) := by decide +kernel
theorem dX0_letMinutePass_40 : decode cX0_letMinutePass 40 = .ok (.iload_n 2, 1) := by decide +kernel
theorem dX0_letMinutePass_41 : decode cX0_letMinutePass 41 = .ok (.iaload, 1) := by decide +kernel
theorem dX0_letMinutePass_42 : decode cX0_letMinutePass 42 = .ok (.iconst 1, 1) := by decide +kernel
theorem dX0_letMinutePass_43 : decode cX0_letMinutePass 43 = .ok (.if_icmp .ne 21, 3) := by decide +kernel
theorem dX0_letMinutePass_46 : decode cX0_letMinutePass 46 = .ok (.iload_n 2, 1) := by decide +kernel
theorem dX0_letMinutePass_47 : decode cX0_letMinutePass 47 = .ok (.iconst 1, 1) := by decide +kernel
theorem dX0_letMinutePass_48 : decode cX0_letMinutePass 48 = .ok (.iadd, 1) := by decide +kernel
theorem dX0_letMinutePass_49 : decode cX0_letMinutePass 49 = .ok (.invokestatic 43, 3) := by decide +kernel
theorem dX0_letMinutePass_52 : decode cX0_letMinutePass 52 = .ok (.ifCond .eq 12, 3) := by decide +kernel
theorem dX0_letMinutePass_55 : decode cX0_letMinutePass 55 = .ok (.aload_n 0, 1) := by decide +kernel
theorem dX0_letMinutePass_56 : decode cX0_letMinutePass 56 = .ok (.getfield 21, 3) := by decide +kernel
theorem dX0_letMinutePass_59 : decode cX0_letMinutePass 59 = .ok (.iload_n 1, 1) := by decide +kernel
theorem dX0_letMinutePass_60 : decode cX0_letMinutePass 60 = .ok (.iload_n 2, 1) := by decide +kernel
theorem dX0_letMinutePass_61 : decode cX0_letMinutePass 61 = .ok (.iconst 1, 1) := by decide +kernel
theorem dX0_letMinutePass_62 : decode cX0_letMinutePass 62 = .ok (.iadd, 1) := by decide +kernel
theorem dX0_letMinutePass_63 : decode cX0_letMinutePass 63 = .ok (.iastore, 1) := by decide +kernel
theorem dX0_letMinutePass_64 : decode cX0_letMinutePass 64 = .ok (.iinc 1 1, 3) := by decide +kernel
theorem dX0_letMinutePass_67 : decode cX0_letMinutePass 67 = .ok (.goto (-55), 3) := by decide +kernel
theorem dX0_letMinutePass_70 : decode cX0_letMinutePass 70 = .ok (.return_, 1) := by decide +kernel
theorem dX1_placeBehind_0 : decode cX1_placeBehind 0 = .ok (.iload_n 0, 1) := by decide +kernel
theorem dX1_placeBehind_1 : decode cX1_placeBehind 1 = .ok (.iconst 1, 1) := by decide +kernel
theorem dX1_placeBehind_2 : decode cX1_placeBehind 2 = .ok (.isub, 1) := by decide +kernel
theorem dX1_placeBehind_3 : decode cX1_placeBehind 3 = .ok (.istore_n 3, 1) := by decide +kernel
theorem dX1_placeBehind_4 : decode cX1_placeBehind 4 = .ok (.iload_n 3, 1) := by decide +kernel
theorem dX1_placeBehind_5 : decode cX1_placeBehind 5 = .ok (.iconst 1, 1) := by decide +kernel
theorem dX1_placeBehind_6 : decode cX1_placeBehind 6 = .ok (.if_icmp .lt 8, 3) := by decide +kernel
theorem dX1_placeBehind_9 : decode cX1_placeBehind 9 = .ok (.iload_n 1, 1) := by decide +kernel
theorem dX1_placeBehind_10 : decode cX1_placeBehind 10 = .ok (.iload_n 3, 1) := by decide +kernel
theorem dX1_placeBehind_11 : decode cX1_placeBehind 11 = .ok (.if_icmp .lt 5, 3) := by decide +kernel
theorem dX1_placeBehind_14 : decode cX1_placeBehind 14 = .ok (.iload_n 1, 1) := by decide +kernel
theorem dX1_placeBehind_15 : decode cX1_placeBehind 15 = .ok (.ireturn, 1) := by decide +kernel
theorem dX1_placeBehind_16 : decode cX1_placeBehind 16 = .ok (.iload_n 1, 1) := by decide +kernel
theorem dX1_placeBehind_17 : decode cX1_placeBehind 17 = .ok (.istore 4, 2) := by decide +kernel
theorem dX1_placeBehind_19 : decode cX1_placeBehind 19 = .ok (.iconst 2, 1) := by decide +kernel
theorem dX1_placeBehind_20 : decode cX1_placeBehind 20 = .ok (.iload_n 3, 1) := by decide +kernel
theorem dX1_placeBehind_21 : decode cX1_placeBehind 21 = .ok (.irem, 1) := by decide +kernel
theorem dX1_placeBehind_22 : decode cX1_placeBehind 22 = .ok (.istore 5, 2) := by decide +kernel
theorem dX1_placeBehind_24 : decode cX1_placeBehind 24 = .ok (.iload_n 2, 1) := by decide +kernel
theorem dX1_placeBehind_25 : decode cX1_placeBehind 25 = .ok (.istore 6, 2) := by decide +kernel
theorem dX1_placeBehind_27 : decode cX1_placeBehind 27 = .ok (.iload 6, 2) := by decide +kernel
theorem dX1_placeBehind_29 : decode cX1_placeBehind 29 = .ok (.ifCond .le 38, 3) := by decide +kernel
theorem dX1_placeBehind_32 : decode cX1_placeBehind 32 = .ok (.iload 6, 2) := by decide +kernel
theorem dX1_placeBehind_34 : decode cX1_placeBehind 34 = .ok (.iconst 2, 1) := by decide +kernel
theorem dX1_placeBehind_35 : decode cX1_placeBehind 35 = .ok (.irem, 1) := by decide +kernel
theorem dX1_placeBehind_36 : decode cX1_placeBehind 36 = .ok (.iconst 1, 1) := by decide +kernel
theorem dX1_placeBehind_37 : decode cX1_placeBehind 37 = .ok (.if_icmp .ne 12, 3) := by decide +kernel
theorem dX1_placeBehind_40 : decode cX1_placeBehind 40 = .ok (.iload 4, 2) := by decide +kernel
theorem dX1_placeBehind_42 : decode cX1_placeBehind 42 = .ok (.iload 5, 2) := by decide +kernel
theorem dX1_placeBehind_44 : decode cX1_placeBehind 44 = .ok (.imul, 1) := by decide +kernel
theorem dX1_placeBehind_45 : decode cX1_placeBehind 45 = .ok (.iload_n 3, 1) := by decide +kernel
theorem dX1_placeBehind_46 : decode cX1_placeBehind 46 = .ok (.irem, 1) := by decide +kernel
theorem dX1_placeBehind_47 : decode cX1_placeBehind 47 = .ok (.istore 4, 2) := by decide +kernel
theorem dX1_placeBehind_49 : decode cX1_placeBehind 49 = .ok (.iload 5, 2) := by decide +kernel
theorem dX1_placeBehind_51 : decode cX1_placeBehind 51 = .ok (.iload 5, 2) := by decide +kernel
theorem dX1_placeBehind_53 : decode cX1_placeBehind 53 = .ok (.imul, 1) := by decide +kernel
theorem dX1_placeBehind_54 : decode cX1_placeBehind 54 = .ok (.iload_n 3, 1) := by decide +kernel
theorem dX1_placeBehind_55 : decode cX1_placeBehind 55 = .ok (.irem, 1) := by decide +kernel
theorem dX1_placeBehind_56 : decode cX1_placeBehind 56 = .ok (.istore 5, 2) := by decide +kernel
theorem dX1_placeBehind_58 : decode cX1_placeBehind 58 = .ok (.iload 6, 2) := by decide +kernel
theorem dX1_placeBehind_60 : decode cX1_placeBehind 60 = .ok (.iconst 2, 1) := by decide +kernel
theorem dX1_placeBehind_61 : decode cX1_placeBehind 61 = .ok (.idiv, 1) := by decide +kernel
theorem dX1_placeBehind_62 : decode cX1_placeBehind 62 = .ok (.istore 6, 2) := by decide +kernel
theorem dX1_placeBehind_64 : decode cX1_placeBehind 64 = .ok (.goto (-37), 3) := by decide +kernel
theorem dX1_placeBehind_67 : decode cX1_placeBehind 67 = .ok (.iload 4, 2) := by decide +kernel
theorem dX1_placeBehind_69 : decode cX1_placeBehind 69 = .ok (.ireturn, 1) := by decide +kernel
theorem dX1_round_0 : decode cX1_round 0 = .ok (.iload_n 0, 1) := by decide +kernel
theorem dX1_round_1 : decode cX1_round 1 = .ok (.iconst 1, 1) := by decide +kernel
theorem dX1_round_2 : decode cX1_round 2 = .ok (.isub, 1) := by decide +kernel
theorem dX1_round_3 : decode cX1_round 3 = .ok (.istore_n 1, 1) := by decide +kernel
theorem dX1_round_4 : decode cX1_round 4 = .ok (.iload_n 1, 1) := by decide +kernel
theorem dX1_round_5 : decode cX1_round 5 = .ok (.iconst 1, 1) := by decide +kernel
theorem dX1_round_6 : decode cX1_round 6 = .ok (.if_icmp .ge 5, 3) := by decide +kernel
theorem dX1_round_9 : decode cX1_round 9 = .ok (.iconst 1, 1) := by decide +kernel
theorem dX1_round_10 : decode cX1_round 10 = .ok (.ireturn, 1) := by decide +kernel
theorem dX1_round_11 : decode cX1_round 11 = .ok (.iconst 2, 1) := by decide +kernel
theorem dX1_round_12 : decode cX1_round 12 = .ok (.iload_n 1, 1) := by decide +kernel
theorem dX1_round_13 : decode cX1_round 13 = .ok (.irem, 1) := by decide +kernel
theorem dX1_round_14 : decode cX1_round 14 = .ok (.istore_n 2, 1) := by decide +kernel
theorem dX1_round_15 : decode cX1_round 15 = .ok (.iconst 1, 1) := by decide +kernel
theorem dX1_round_16 : decode cX1_round 16 = .ok (.istore_n 3, 1) := by decide +kernel
theorem dX1_round_17 : decode cX1_round 17 = .ok (.iconst 0, 1) := by decide +kernel
theorem dX1_round_18 : decode cX1_round 18 = .ok (.istore 4, 2) := by decide +kernel
theorem dX1_round_20 : decode cX1_round 20 = .ok (.iload 4, 2) := by decide +kernel
theorem dX1_round_22 : decode cX1_round 22 = .ok (.iload_n 0, 1) := by decide +kernel
theorem dX1_round_23 : decode cX1_round 23 = .ok (.if_icmp .ge 25, 3) := by decide +kernel
theorem dX1_round_26 : decode cX1_round 26 = .ok (.iload_n 2, 1) := by decide +kernel
theorem dX1_round_27 : decode cX1_round 27 = .ok (.iconst 1, 1) := by decide +kernel
theorem dX1_round_28 : decode cX1_round 28 = .ok (.iload_n 1, 1) := by decide +kernel
theorem dX1_round_29 : decode cX1_round 29 = .ok (.irem, 1) := by decide +kernel
theorem dX1_round_30 : decode cX1_round 30 = .ok (.if_icmp .eq 18, 3) := by decide +kernel
theorem dX1_round_33 : decode cX1_round 33 = .ok (.iload_n 2, 1) := by decide +kernel
theorem dX1_round_34 : decode cX1_round 34 = .ok (.iconst 2, 1) := by decide +kernel
theorem dX1_round_35 : decode cX1_round 35 = .ok (.imul, 1) := by decide +kernel
theorem dX1_round_36 : decode cX1_round 36 = .ok (.iload_n 1, 1) := by decide +kernel
theorem dX1_round_37 : decode cX1_round 37 = .ok (.irem, 1) := by decide +kernel
theorem dX1_round_38 : decode cX1_round 38 = .ok (.istore_n 2, 1) := by decide +kernel
theorem dX1_round_39 : decode cX1_round 39 = .ok (.iinc 3 1, 3) := by decide +kernel
theorem dX1_round_42 : decode cX1_round 42 = .ok (.iinc 4 1, 3) := by decide +kernel
theorem dX1_round_45 : decode cX1_round 45 = .ok (.goto (-25), 3) := by decide +kernel
theorem dX1_round_48 : decode cX1_round 48 = .ok (.iload_n 3, 1) := by decide +kernel
theorem dX1_round_49 : decode cX1_round 49 = .ok (.ireturn, 1) := by decide +kernel
theorem dX2_init_0 : decode cX2_init 0 = .ok (.aload_n 0, 1) := by decide +kernel
theorem dX2_init_1 : decode cX2_init 1 = .ok (.invokespecial 3, 3) := by decide +kernel
theorem dX2_init_4 : decode cX2_init 4 = .ok (.aload_n 0, 1) := by decide +kernel
theorem dX2_init_5 : decode cX2_init 5 = .ok (.bipush 60, 2) := by decide +kernel
theorem dX2_init_7 : decode cX2_init 7 = .ok (.newarray .int, 2) := by decide +kernel
theorem dX2_init_9 : decode cX2_init 9 = .ok (.putfield 11, 3) := by decide +kernel
theorem dX2_init_12 : decode cX2_init 12 = .ok (.return_, 1) := by decide +kernel
theorem dX2_add_0 : decode cX2_add 0 = .ok (.aload_n 0, 1) := by decide +kernel
theorem dX2_add_1 : decode cX2_add 1 = .ok (.getfield 15, 3) := by decide +kernel
theorem dX2_add_4 : decode cX2_add 4 = .ok (.bipush 60, 2) := by decide +kernel
theorem dX2_add_6 : decode cX2_add 6 = .ok (.if_icmp .lt 6, 3) := by decide +kernel
theorem dX2_add_9 : decode cX2_add 9 = .ok (.bipush (-4), 2) := by decide +kernel
theorem dX2_add_11 : decode cX2_add 11 = .ok (.ireturn, 1) := by decide +kernel
theorem dX2_add_12 : decode cX2_add 12 = .ok (.aload_n 0, 1) := by decide +kernel
theorem dX2_add_13 : decode cX2_add 13 = .ok (.getfield 11, 3) := by decide +kernel
theorem dX2_add_16 : decode cX2_add 16 = .ok (.aload_n 0, 1) := by decide +kernel
theorem dX2_add_17 : decode cX2_add 17 = .ok (.getfield 15, 3) := by decide +kernel
theorem dX2_add_20 : decode cX2_add 20 = .ok (.iload_n 1, 1) := by decide +kernel
theorem dX2_add_21 : decode cX2_add 21 = .ok (.iastore, 1) := by decide +kernel
theorem dX2_add_22 : decode cX2_add 22 = .ok (.aload_n 0, 1) := by decide +kernel
theorem dX2_add_23 : decode cX2_add 23 = .ok (.dup, 1) := by decide +kernel
theorem dX2_add_24 : decode cX2_add 24 = .ok (.getfield 15, 3) := by decide +kernel
theorem dX2_add_27 : decode cX2_add 27 = .ok (.iconst 1, 1) := by decide +kernel
theorem dX2_add_28 : decode cX2_add 28 = .ok (.iadd, 1) := by decide +kernel
theorem dX2_add_29 : decode cX2_add 29 = .ok (.putfield 15, 3) := by decide +kernel
theorem dX2_add_32 : decode cX2_add 32 = .ok (.aload_n 0, 1) := by decide +kernel
theorem dX2_add_33 : decode cX2_add 33 = .ok (.getfield 15, 3) := by decide +kernel
theorem dX2_add_36 : decode cX2_add 36 = .ok (.ireturn, 1) := by decide +kernel
theorem dX2_clear_0 : decode cX2_clear 0 = .ok (.aload_n 0, 1) := by decide +kernel
theorem dX2_clear_1 : decode cX2_clear 1 = .ok (.getfield 15, 3) := by decide +kernel
theorem dX2_clear_4 : decode cX2_clear 4 = .ok (.istore_n 1, 1) := by decide +kernel
theorem dX2_clear_5 : decode cX2_clear 5 = .ok (.aload_n 0, 1) := by decide +kernel
theorem dX2_clear_6 : decode cX2_clear 6 = .ok (.iconst 0, 1) := by decide +kernel
theorem dX2_clear_7 : decode cX2_clear 7 = .ok (.putfield 15, 3) := by decide +kernel
theorem dX2_clear_10 : decode cX2_clear 10 = .ok (.iload_n 1, 1) := by decide +kernel
theorem dX2_clear_11 : decode cX2_clear 11 = .ok (.ireturn, 1) := by decide +kernel
theorem dX2_flaw_0 : decode cX2_flaw 0 = .ok (.iconst 0, 1) := by decide +kernel
theorem dX2_flaw_1 : decode cX2_flaw 1 = .ok (.istore_n 1, 1) := by decide +kernel
theorem dX2_flaw_2 : decode cX2_flaw 2 = .ok (.iconst 0, 1) := by decide +kernel
theorem dX2_flaw_3 : decode cX2_flaw 3 = .ok (.istore_n 2, 1) := by decide +kernel
theorem dX2_flaw_4 : decode cX2_flaw 4 = .ok (.iload_n 2, 1) := by decide +kernel
theorem dX2_flaw_5 : decode cX2_flaw 5 = .ok (.aload_n 0, 1) := by decide +kernel
theorem dX2_flaw_6 : decode cX2_flaw 6 = .ok (.getfield 15, 3) := by decide +kernel
theorem dX2_flaw_9 : decode cX2_flaw 9 = .ok (.if_icmp .ge 27, 3) := by decide +kernel
theorem dX2_flaw_12 : decode cX2_flaw 12 = .ok (.iload_n 1, 1) := by decide +kernel
theorem dX2_flaw_13 : decode cX2_flaw 13 = .ok (.aload_n 0, 1) := by decide +kernel
theorem dX2_flaw_14 : decode cX2_flaw 14 = .ok (.getfield 11, 3) := by decide +kernel
theorem dX2_flaw_17 : decode cX2_flaw 17 = .ok (.iload_n 2, 1) := by decide +kernel
theorem dX2_flaw_18 : decode cX2_flaw 18 = .ok (.iaload, 1) := by decide +kernel
theorem dX2_flaw_19 : decode cX2_flaw 19 = .ok (.invokestatic 19, 3) := by decide +kernel
theorem dX2_flaw_22 : decode cX2_flaw 22 = .ok (.istore_n 1, 1) := by decide +kernel
theorem dX2_flaw_23 : decode cX2_flaw 23 = .ok (.iload_n 1, 1) := by decide +kernel
theorem dX2_flaw_24 : decode cX2_flaw 24 = .ok (.iconst (-1), 1) := by decide +kernel
theorem dX2_flaw_25 : decode cX2_flaw 25 = .ok (.if_icmp .ne 5, 3) := by decide +kernel
theorem dX2_flaw_28 : decode cX2_flaw 28 = .ok (.iload_n 2, 1) := by decide +kernel
theorem dX2_flaw_29 : decode cX2_flaw 29 = .ok (.ireturn, 1) := by decide +kernel
theorem dX2_flaw_30 : decode cX2_flaw 30 = .ok (.iinc 2 1, 3) := by decide +kernel
theorem dX2_flaw_33 : decode cX2_flaw 33 = .ok (.goto (-29), 3) := by decide +kernel
theorem dX2_flaw_36 : decode cX2_flaw 36 = .ok (.iload_n 1, 1) := by decide +kernel
theorem dX2_flaw_37 : decode cX2_flaw 37 = .ok (.ifCond .ne 8, 3) := by decide +kernel
theorem dX2_flaw_40 : decode cX2_flaw 40 = .ok (.bipush (-6), 2) := by decide +kernel
theorem dX2_flaw_42 : decode cX2_flaw 42 = .ok (.goto 7, 3) := by decide +kernel
theorem dX2_flaw_45 : decode cX2_flaw 45 = .ok (.aload_n 0, 1) := by decide +kernel
theorem dX2_flaw_46 : decode cX2_flaw 46 = .ok (.getfield 15, 3) := by decide +kernel
theorem dX2_flaw_49 : decode cX2_flaw 49 = .ok (.ireturn, 1) := by decide +kernel
theorem dX2_awaitedBehind_0 : decode cX2_awaitedBehind 0 = .ok (.iload_n 0, 1) := by decide +kernel
theorem dX2_awaitedBehind_1 : decode cX2_awaitedBehind 1 = .ok (.ifCond .ne 24, 3) := by decide +kernel
theorem dX2_awaitedBehind_4 : decode cX2_awaitedBehind 4 = .ok (.iload_n 1, 1) := by decide +kernel
theorem dX2_awaitedBehind_5 : decode cX2_awaitedBehind 5 = .ok (.bipush 46, 2) := by decide +kernel
theorem dX2_awaitedBehind_7 : decode cX2_awaitedBehind 7 = .ok (.if_icmp .ne 5, 3) := by decide +kernel
theorem dX2_awaitedBehind_10 : decode cX2_awaitedBehind 10 = .ok (.iconst 0, 1) := by decide +kernel
theorem dX2_awaitedBehind_11 : decode cX2_awaitedBehind 11 = .ok (.ireturn, 1) := by decide +kernel
theorem dX2_awaitedBehind_12 : decode cX2_awaitedBehind 12 = .ok (.iload_n 1, 1) := by decide +kernel
theorem dX2_awaitedBehind_13 : decode cX2_awaitedBehind 13 = .ok (.invokestatic 23, 3) := by decide +kernel
theorem dX2_awaitedBehind_16 : decode cX2_awaitedBehind 16 = .ok (.ifCond .eq 7, 3) := by decide +kernel
theorem dX2_awaitedBehind_19 : decode cX2_awaitedBehind 19 = .ok (.iconst 1, 1) := by decide +kernel
theorem dX2_awaitedBehind_20 : decode cX2_awaitedBehind 20 = .ok (.goto 4, 3) := by decide +kernel
theorem dX2_awaitedBehind_23 : decode cX2_awaitedBehind 23 = .ok (.iconst (-1), 1) := by decide +kernel
theorem dX2_awaitedBehind_24 : decode cX2_awaitedBehind 24 = .ok (.ireturn, 1) := by decide +kernel
theorem dX2_awaitedBehind_25 : decode cX2_awaitedBehind 25 = .ok (.iload_n 1, 1) := by decide +kernel
theorem dX2_awaitedBehind_26 : decode cX2_awaitedBehind 26 = .ok (.invokestatic 27, 3) := by decide +kernel
theorem dX2_awaitedBehind_29 : decode cX2_awaitedBehind 29 = .ok (.ifCond .eq 5, 3) := by decide +kernel
theorem dX2_awaitedBehind_32 : decode cX2_awaitedBehind 32 = .ok (.iconst 0, 1) := by decide +kernel
theorem dX2_awaitedBehind_33 : decode cX2_awaitedBehind 33 = .ok (.ireturn, 1) := by decide +kernel
theorem dX2_awaitedBehind_34 : decode cX2_awaitedBehind 34 = .ok (.iload_n 0, 1) := by decide +kernel
theorem dX2_awaitedBehind_35 : decode cX2_awaitedBehind 35 = .ok (.iconst 2, 1) := by decide +kernel
theorem dX2_awaitedBehind_36 : decode cX2_awaitedBehind 36 = .ok (.if_icmp .ne 5, 3) := by decide +kernel
theorem dX2_awaitedBehind_39 : decode cX2_awaitedBehind 39 = .ok (.iconst (-1), 1) := by decide +kernel
theorem dX2_awaitedBehind_40 : decode cX2_awaitedBehind 40 = .ok (.ireturn, 1) := by decide +kernel
theorem dX2_awaitedBehind_41 : decode cX2_awaitedBehind 41 = .ok (.iload_n 1, 1) := by decide +kernel
theorem dX2_awaitedBehind_42 : decode cX2_awaitedBehind 42 = .ok (.invokestatic 30, 3) := by decide +kernel
theorem dX2_awaitedBehind_45 : decode cX2_awaitedBehind 45 = .ok (.ifCond .eq 5, 3) := by decide +kernel
theorem dX2_awaitedBehind_48 : decode cX2_awaitedBehind 48 = .ok (.iconst 2, 1) := by decide +kernel
theorem dX2_awaitedBehind_49 : decode cX2_awaitedBehind 49 = .ok (.ireturn, 1) := by decide +kernel
theorem dX2_awaitedBehind_50 : decode cX2_awaitedBehind 50 = .ok (.iload_n 1, 1) := by decide +kernel
theorem dX2_awaitedBehind_51 : decode cX2_awaitedBehind 51 = .ok (.invokestatic 33, 3) := by decide +kernel
theorem dX2_awaitedBehind_54 : decode cX2_awaitedBehind 54 = .ok (.ifCond .eq 7, 3) := by decide +kernel
theorem dX2_awaitedBehind_57 : decode cX2_awaitedBehind 57 = .ok (.iconst 0, 1) := by decide +kernel
theorem dX2_awaitedBehind_58 : decode cX2_awaitedBehind 58 = .ok (.goto 4, 3) := by decide +kernel
theorem dX2_awaitedBehind_61 : decode cX2_awaitedBehind 61 = .ok (.iconst (-1), 1) := by decide +kernel
theorem dX2_awaitedBehind_62 : decode cX2_awaitedBehind 62 = .ok (.ireturn, 1) := by decide +kernel
theorem dX2_isLetter_0 : decode cX2_isLetter 0 = .ok (.iload_n 0, 1) := by decide +kernel
theorem dX2_isLetter_1 : decode cX2_isLetter 1 = .ok (.bipush 65, 2) := by decide +kernel
theorem dX2_isLetter_3 : decode cX2_isLetter 3 = .ok (.bipush 70, 2) := by decide +kernel
theorem dX2_isLetter_5 : decode cX2_isLetter 5 = .ok (.invokestatic 36, 3) := by decide +kernel
theorem dX2_isLetter_8 : decode cX2_isLetter 8 = .ok (.ireturn, 1) := by decide +kernel
theorem dX2_isDigit_0 : decode cX2_isDigit 0 = .ok (.iload_n 0, 1) := by decide +kernel
theorem dX2_isDigit_1 : decode cX2_isDigit 1 = .ok (.bipush 49, 2) := by decide +kernel
theorem dX2_isDigit_3 : decode cX2_isDigit 3 = .ok (.bipush 57, 2) := by decide +kernel
theorem dX2_isDigit_5 : decode cX2_isDigit 5 = .ok (.invokestatic 36, 3) := by decide +kernel
theorem dX2_isDigit_8 : decode cX2_isDigit 8 = .ok (.ireturn, 1) := by decide +kernel
theorem dX2_isWay_0 : decode cX2_isWay 0 = .ok (.iload_n 0, 1) := by decide +kernel
theorem dX2_isWay_1 : decode cX2_isWay 1 = .ok (.bipush 62, 2) := by decide +kernel
theorem dX2_isWay_3 : decode cX2_isWay 3 = .ok (.if_icmp .eq 9, 3) := by decide +kernel
theorem dX2_isWay_6 : decode cX2_isWay 6 = .ok (.iload_n 0, 1) := by decide +kernel
theorem dX2_isWay_7 : decode cX2_isWay 7 = .ok (.bipush 60, 2) := by decide +kernel
theorem dX2_isWay_9 : decode cX2_isWay 9 = .ok (.if_icmp .ne 7, 3) := by decide +kernel
theorem dX2_isWay_12 : decode cX2_isWay 12 = .ok (.iconst 1, 1) := by decide +kernel
theorem dX2_isWay_13 : decode cX2_isWay 13 = .ok (.goto 4, 3) := by decide +kernel
theorem dX2_isWay_16 : decode cX2_isWay 16 = .ok (.iconst 0, 1) := by decide +kernel
theorem dX2_isWay_17 : decode cX2_isWay 17 = .ok (.ireturn, 1) := by decide +kernel
theorem dX2_isPlainDeed_0 : decode cX2_isPlainDeed 0 = .ok (.iload_n 0, 1) := by decide +kernel
theorem dX2_isPlainDeed_1 : decode cX2_isPlainDeed 1 = .ok (.bipush 63, 2) := by decide +kernel
theorem dX2_isPlainDeed_3 : decode cX2_isPlainDeed 3 = .ok (.if_icmp .eq 21, 3) := by decide +kernel
theorem dX2_isPlainDeed_6 : decode cX2_isPlainDeed 6 = .ok (.iload_n 0, 1) := by decide +kernel
theorem dX2_isPlainDeed_7 : decode cX2_isPlainDeed 7 = .ok (.bipush 42, 2) := by decide +kernel
theorem dX2_isPlainDeed_9 : decode cX2_isPlainDeed 9 = .ok (.if_icmp .eq 15, 3) := by decide +kernel
theorem dX2_isPlainDeed_12 : decode cX2_isPlainDeed 12 = .ok (.iload_n 0, 1) := by decide +kernel
theorem dX2_isPlainDeed_13 : decode cX2_isPlainDeed 13 = .ok (.bipush 126, 2) := by decide +kernel
theorem dX2_isPlainDeed_15 : decode cX2_isPlainDeed 15 = .ok (.if_icmp .eq 9, 3) := by decide +kernel
theorem dX2_isPlainDeed_18 : decode cX2_isPlainDeed 18 = .ok (.iload_n 0, 1) := by decide +kernel
theorem dX2_isPlainDeed_19 : decode cX2_isPlainDeed 19 = .ok (.bipush 33, 2) := by decide +kernel
theorem dX2_isPlainDeed_21 : decode cX2_isPlainDeed 21 = .ok (.if_icmp .ne 7, 3) := by decide +kernel
theorem dX2_isPlainDeed_24 : decode cX2_isPlainDeed 24 = .ok (.iconst 1, 1) := by decide +kernel
theorem dX2_isPlainDeed_25 : decode cX2_isPlainDeed 25 = .ok (.goto 4, 3) := by decide +kernel
theorem dX2_isPlainDeed_28 : decode cX2_isPlainDeed 28 = .ok (.iconst 0, 1) := by decide +kernel
theorem dX2_isPlainDeed_29 : decode cX2_isPlainDeed 29 = .ok (.ireturn, 1) := by decide +kernel
theorem dX3_whole_0 : decode cX3_whole 0 = .ok (.iload_n 0, 1) := by decide +kernel
theorem dX3_whole_1 : decode cX3_whole 1 = .ok (.i2l, 1) := by decide +kernel
theorem dX3_whole_2 : decode cX3_whole 2 = .ok (.ldc2_w 9, 3) := by decide +kernel
theorem dX3_whole_5 : decode cX3_whole 5 = .ok (.lmul, 1) := by decide +kernel
theorem dX3_whole_6 : decode cX3_whole 6 = .ok (.lreturn, 1) := by decide +kernel
theorem dX3_weight_0 : decode cX3_weight 0 = .ok (.iload_n 1, 1) := by decide +kernel
theorem dX3_weight_1 : decode cX3_weight 1 = .ok (.iconst 1, 1) := by decide +kernel
theorem dX3_weight_2 : decode cX3_weight 2 = .ok (.if_icmp .ge 7, 3) := by decide +kernel
theorem dX3_weight_5 : decode cX3_weight 5 = .ok (.ldc2_w 9, 3) := by decide +kernel
theorem dX3_weight_8 : decode cX3_weight 8 = .ok (.lreturn, 1) := by decide +kernel
theorem dX3_weight_9 : decode cX3_weight 9 = .ok (.lconst 0, 1) := by decide +kernel
theorem dX3_weight_10 : decode cX3_weight 10 = .ok (.lstore_n 2, 1) := by decide +kernel
theorem dX3_weight_11 : decode cX3_weight 11 = .ok (.iload_n 1, 1) := by decide +kernel
theorem dX3_weight_12 : decode cX3_weight 12 = .ok (.istore 4, 2) := by decide +kernel
theorem dX3_weight_14 : decode cX3_weight 14 = .ok (.iload 4, 2) := by decide +kernel
theorem dX3_weight_16 : decode cX3_weight 16 = .ok (.iload_n 0, 1) := by decide +kernel
theorem dX3_weight_17 : decode cX3_weight 17 = .ok (.if_icmp .ge 19, 3) := by decide +kernel
theorem dX3_weight_20 : decode cX3_weight 20 = .ok (.lload_n 2, 1) := by decide +kernel
theorem dX3_weight_21 : decode cX3_weight 21 = .ok (.ldc2_w 9, 3) := by decide +kernel
theorem dX3_weight_24 : decode cX3_weight 24 = .ok (.iload 4, 2) := by decide +kernel
theorem dX3_weight_26 : decode cX3_weight 26 = .ok (.i2l, 1) := by decide +kernel
theorem dX3_weight_27 : decode cX3_weight 27 = .ok (.ldiv, 1) := by decide +kernel
theorem dX3_weight_28 : decode cX3_weight 28 = .ok (.ladd, 1) := by decide +kernel
theorem dX3_weight_29 : decode cX3_weight 29 = .ok (.lstore_n 2, 1) := by decide +kernel
theorem dX3_weight_30 : decode cX3_weight 30 = .ok (.iinc 4 1, 3) := by decide +kernel
theorem dX3_weight_33 : decode cX3_weight 33 = .ok (.goto (-19), 3) := by decide +kernel
theorem dX3_weight_36 : decode cX3_weight 36 = .ok (.iload_n 1, 1) := by decide +kernel
theorem dX3_weight_37 : decode cX3_weight 37 = .ok (.i2l, 1) := by decide +kernel
theorem dX3_weight_38 : decode cX3_weight 38 = .ok (.lload_n 2, 1) := by decide +kernel
theorem dX3_weight_39 : decode cX3_weight 39 = .ok (.lmul, 1) := by decide +kernel
theorem dX3_weight_40 : decode cX3_weight 40 = .ok (.lreturn, 1) := by decide +kernel
theorem dX3_best_0 : decode cX3_best 0 = .ok (.iconst 0, 1) := by decide +kernel
theorem dX3_best_1 : decode cX3_best 1 = .ok (.istore_n 1, 1) := by decide +kernel
theorem dX3_best_2 : decode cX3_best 2 = .ok (.iconst 1, 1) := by decide +kernel
theorem dX3_best_3 : decode cX3_best 3 = .ok (.istore_n 2, 1) := by decide +kernel
theorem dX3_best_4 : decode cX3_best 4 = .ok (.iload_n 2, 1) := by decide +kernel
theorem dX3_best_5 : decode cX3_best 5 = .ok (.iload_n 0, 1) := by decide +kernel
theorem dX3_best_6 : decode cX3_best 6 = .ok (.if_icmp .ge 25, 3) := by decide +kernel
theorem dX3_best_9 : decode cX3_best 9 = .ok (.iload_n 0, 1) := by decide +kernel
theorem dX3_best_10 : decode cX3_best 10 = .ok (.iload_n 2, 1) := by decide +kernel
theorem dX3_best_11 : decode cX3_best 11 = .ok (.invokestatic 11, 3) := by decide +kernel
theorem dX3_best_14 : decode cX3_best 14 = .ok (.iload_n 0, 1) := by decide +kernel
theorem dX3_best_15 : decode cX3_best 15 = .ok (.iload_n 1, 1) := by decide +kernel
theorem dX3_best_16 : decode cX3_best 16 = .ok (.invokestatic 11, 3) := by decide +kernel
theorem dX3_best_19 : decode cX3_best 19 = .ok (.lcmp, 1) := by decide +kernel
theorem dX3_best_20 : decode cX3_best 20 = .ok (.ifCond .le 5, 3) := by decide +kernel
theorem dX3_best_23 : decode cX3_best 23 = .ok (.iload_n 2, 1) := by decide +kernel
theorem dX3_best_24 : decode cX3_best 24 = .ok (.istore_n 1, 1) := by decide +kernel
theorem dX3_best_25 : decode cX3_best 25 = .ok (.iinc 2 1, 3) := by decide +kernel
theorem dX3_best_28 : decode cX3_best 28 = .ok (.goto (-24), 3) := by decide +kernel
theorem dX3_best_31 : decode cX3_best 31 = .ok (.iload_n 1, 1) := by decide +kernel
theorem dX3_best_32 : decode cX3_best 32 = .ok (.ireturn, 1) := by decide +kernel
theorem dX4_init_0 : decode cX4_init 0 = .ok (.aload_n 0, 1) := by decide +kernel
theorem dX4_init_1 : decode cX4_init 1 = .ok (.invokespecial 3, 3) := by decide +kernel
theorem dX4_init_4 : decode cX4_init 4 = .ok (.aload_n 0, 1) := by decide +kernel
theorem dX4_init_5 : decode cX4_init 5 = .ok (.bipush 10, 2) := by decide +kernel
theorem dX4_init_7 : decode cX4_init 7 = .ok (.newarray .int, 2) := by decide +kernel
theorem dX4_init_9 : decode cX4_init 9 = .ok (.putfield 9, 3) := by decide +kernel
theorem dX4_init_12 : decode cX4_init 12 = .ok (.return_, 1) := by decide +kernel
theorem dX4_measure_0 : decode cX4_measure 0 = .ok (.iconst 0, 1) := by decide +kernel
theorem dX4_measure_1 : decode cX4_measure 1 = .ok (.istore_n 3, 1) := by decide +kernel
theorem dX4_measure_2 : decode cX4_measure 2 = .ok (.iload_n 3, 1) := by decide +kernel
theorem dX4_measure_3 : decode cX4_measure 3 = .ok (.bipush 9, 2) := by decide +kernel
theorem dX4_measure_5 : decode cX4_measure 5 = .ok (.if_icmp .gt 16, 3) := by decide +kernel
theorem dX4_measure_8 : decode cX4_measure 8 = .ok (.aload_n 0, 1) := by decide +kernel
theorem dX4_measure_9 : decode cX4_measure 9 = .ok (.getfield 9, 3) := by decide +kernel
theorem dX4_measure_12 : decode cX4_measure 12 = .ok (.iload_n 3, 1) := by decide +kernel
theorem dX4_measure_13 : decode cX4_measure 13 = .ok (.iconst 0, 1) := by decide +kernel
theorem dX4_measure_14 : decode cX4_measure 14 = .ok (.iastore, 1) := by decide +kernel
theorem dX4_measure_15 : decode cX4_measure 15 = .ok (.iinc 3 1, 3) := by decide +kernel
theorem dX4_measure_18 : decode cX4_measure 18 = .ok (.goto (-16), 3) := by decide +kernel
theorem dX4_measure_21 : decode cX4_measure 21 = .ok (.aload_n 0, 1) := by decide +kernel
theorem dX4_measure_22 : decode cX4_measure 22 = .ok (.iconst 0, 1) := by decide +kernel
theorem dX4_measure_23 : decode cX4_measure 23 = .ok (.putfield 15, 3) := by decide +kernel
theorem dX4_measure_26 : decode cX4_measure 26 = .ok (.aload_n 0, 1) := by decide +kernel
theorem dX4_measure_27 : decode cX4_measure 27 = .ok (.iload_n 2, 1) := by decide +kernel
theorem dX4_measure_28 : decode cX4_measure 28 = .ok (.putfield 19, 3) := by decide +kernel
theorem dX4_measure_31 : decode cX4_measure 31 = .ok (.aload_n 1, 1) := by decide +kernel
theorem dX4_measure_32 : decode cX4_measure 32 = .ok (.arraylength, 1) := by decide +kernel
theorem dX4_measure_33 : decode cX4_measure 33 = .ok (.iconst 1, 1) := by decide +kernel
theorem dX4_measure_34 : decode cX4_measure 34 = .ok (.isub, 1) := by decide +kernel
theorem dX4_measure_35 : decode cX4_measure 35 = .ok (.istore_n 3, 1) := by decide +kernel
theorem dX4_measure_36 : decode cX4_measure 36 = .ok (.iload_n 3, 1) := by decide +kernel
theorem dX4_measure_37 : decode cX4_measure 37 = .ok (.iload_n 2, 1) := by decide +kernel
theorem dX4_measure_38 : decode cX4_measure 38 = .ok (.if_icmp .lt 68, 3) := by decide +kernel
theorem dX4_measure_41 : decode cX4_measure 41 = .ok (.iload_n 3, 1) := by decide +kernel
theorem dX4_measure_42 : decode cX4_measure 42 = .ok (.ifCond .lt 64, 3) := by decide +kernel
theorem dX4_measure_45 : decode cX4_measure 45 = .ok (.aload_n 1, 1) := by decide +kernel
theorem dX4_measure_46 : decode cX4_measure 46 = .ok (.iload_n 3, 1) := by decide +kernel
theorem dX4_measure_47 : decode cX4_measure 47 = .ok (.iaload, 1) := by decide +kernel
theorem dX4_measure_48 : decode cX4_measure 48 = .ok (.istore 4, 2) := by decide +kernel
theorem dX4_measure_50 : decode cX4_measure 50 = .ok (.iload 4, 2) := by decide +kernel
theorem dX4_measure_52 : decode cX4_measure 52 = .ok (.invokestatic 22, 3) := by decide +kernel
theorem dX4_measure_55 : decode cX4_measure 55 = .ok (.ifCond .ne 6, 3) := by decide +kernel
theorem dX4_measure_58 : decode cX4_measure 58 = .ok (.goto 42, 3) := by decide +kernel
theorem dX4_measure_61 : decode cX4_measure 61 = .ok (.iconst 1, 1) := by decide +kernel
theorem dX4_measure_62 : decode cX4_measure 62 = .ok (.aload_n 0, 1) := by decide +kernel
theorem dX4_measure_63 : decode cX4_measure 63 = .ok (.iload 4, 2) := by decide +kernel
theorem dX4_measure_65 : decode cX4_measure 65 = .ok (.invokevirtual 26, 3) := by decide +kernel
theorem dX4_measure_68 : decode cX4_measure 68 = .ok (.iadd, 1) := by decide +kernel
theorem dX4_measure_69 : decode cX4_measure 69 = .ok (.istore 5, 2) := by decide +kernel
theorem dX4_measure_71 : decode cX4_measure 71 = .ok (.aload_n 0, 1) := by decide +kernel
theorem dX4_measure_72 : decode cX4_measure 72 = .ok (.getfield 9, 3) := by decide +kernel
theorem dX4_measure_75 : decode cX4_measure 75 = .ok (.iload 4, 2) := by decide +kernel
theorem dX4_measure_77 : decode cX4_measure 77 = .ok (.iload 5, 2) := by decide +kernel
theorem dX4_measure_79 : decode cX4_measure 79 = .ok (.iastore, 1) := by decide +kernel
theorem dX4_measure_80 : decode cX4_measure 80 = .ok (.iload 5, 2) := by decide +kernel
theorem dX4_measure_82 : decode cX4_measure 82 = .ok (.aload_n 0, 1) := by decide +kernel
theorem dX4_measure_83 : decode cX4_measure 83 = .ok (.getfield 15, 3) := by decide +kernel
theorem dX4_measure_86 : decode cX4_measure 86 = .ok (.if_icmp .lt 14, 3) := by decide +kernel
theorem dX4_measure_89 : decode cX4_measure 89 = .ok (.aload_n 0, 1) := by decide +kernel
theorem dX4_measure_90 : decode cX4_measure 90 = .ok (.iload 5, 2) := by decide +kernel
theorem dX4_measure_92 : decode cX4_measure 92 = .ok (.putfield 15, 3) := by decide +kernel
theorem dX4_measure_95 : decode cX4_measure 95 = .ok (.aload_n 0, 1) := by decide +kernel
theorem dX4_measure_96 : decode cX4_measure 96 = .ok (.iload_n 3, 1) := by decide +kernel
theorem dX4_measure_97 : decode cX4_measure 97 = .ok (.putfield 19, 3) := by decide +kernel
theorem dX4_measure_100 : decode cX4_measure 100 = .ok (.iinc 3 (-1), 3) := by decide +kernel
theorem dX4_measure_103 : decode cX4_measure 103 = .ok (.goto (-67), 3) := by decide +kernel
theorem dX4_measure_106 : decode cX4_measure 106 = .ok (.return_, 1) := by decide +kernel
theorem dX4_longestFrom_0 : decode cX4_longestFrom 0 = .ok (.iconst 0, 1) := by decide +kernel
theorem dX4_longestFrom_1 : decode cX4_longestFrom 1 = .ok (.istore_n 2, 1) := by decide +kernel
theorem dX4_longestFrom_2 : decode cX4_longestFrom 2 = .ok (.iload_n 1, 1) := by decide +kernel
theorem dX4_longestFrom_3 : decode cX4_longestFrom 3 = .ok (.istore_n 3, 1) := by decide +kernel
theorem dX4_longestFrom_4 : decode cX4_longestFrom 4 = .ok (.iload_n 3, 1) := by decide +kernel
theorem dX4_longestFrom_5 : decode cX4_longestFrom 5 = .ok (.bipush 9, 2) := by decide +kernel
theorem dX4_longestFrom_7 : decode cX4_longestFrom 7 = .ok (.if_icmp .gt 20, 3) := by decide +kernel
theorem dX4_longestFrom_10 : decode cX4_longestFrom 10 = .ok (.iload_n 2, 1) := by decide +kernel
theorem dX4_longestFrom_11 : decode cX4_longestFrom 11 = .ok (.aload_n 0, 1) := by decide +kernel
theorem dX4_longestFrom_12 : decode cX4_longestFrom 12 = .ok (.getfield 9, 3) := by decide +kernel
theorem dX4_longestFrom_15 : decode cX4_longestFrom 15 = .ok (.iload_n 3, 1) := by decide +kernel
theorem dX4_longestFrom_16 : decode cX4_longestFrom 16 = .ok (.iaload, 1) := by decide +kernel
theorem dX4_longestFrom_17 : decode cX4_longestFrom 17 = .ok (.invokestatic 30, 3) := by decide +kernel
theorem dX4_longestFrom_20 : decode cX4_longestFrom 20 = .ok (.istore_n 2, 1) := by decide +kernel
theorem dX4_longestFrom_21 : decode cX4_longestFrom 21 = .ok (.iinc 3 1, 3) := by decide +kernel
theorem dX4_longestFrom_24 : decode cX4_longestFrom 24 = .ok (.goto (-20), 3) := by decide +kernel
theorem dX4_longestFrom_27 : decode cX4_longestFrom 27 = .ok (.iload_n 2, 1) := by decide +kernel
theorem dX4_longestFrom_28 : decode cX4_longestFrom 28 = .ok (.ireturn, 1) := by decide +kernel
theorem dX5_isAsTold_0 : decode cX5_isAsTold 0 = .ok (.iload_n 2, 1) := by decide +kernel
theorem dX5_isAsTold_1 : decode cX5_isAsTold 1 = .ok (.iconst 1, 1) := by decide +kernel
theorem dX5_isAsTold_2 : decode cX5_isAsTold 2 = .ok (.bipush 9, 2) := by decide +kernel
theorem dX5_isAsTold_4 : decode cX5_isAsTold 4 = .ok (.invokestatic 9, 3) := by decide +kernel
theorem dX5_isAsTold_7 : decode cX5_isAsTold 7 = .ok (.ifCond .eq 23, 3) := by decide +kernel
theorem dX5_isAsTold_10 : decode cX5_isAsTold 10 = .ok (.iload_n 0, 1) := by decide +kernel
theorem dX5_isAsTold_11 : decode cX5_isAsTold 11 = .ok (.iload_n 2, 1) := by decide +kernel
theorem dX5_isAsTold_12 : decode cX5_isAsTold 12 = .ok (.invokestatic 15, 3) := by decide +kernel
theorem dX5_isAsTold_15 : decode cX5_isAsTold 15 = .ok (.ifCond .eq 15, 3) := by decide +kernel
theorem dX5_isAsTold_18 : decode cX5_isAsTold 18 = .ok (.iload_n 1, 1) := by decide +kernel
theorem dX5_isAsTold_19 : decode cX5_isAsTold 19 = .ok (.iload_n 2, 1) := by decide +kernel
theorem dX5_isAsTold_20 : decode cX5_isAsTold 20 = .ok (.invokestatic 15, 3) := by decide +kernel
theorem dX5_isAsTold_23 : decode cX5_isAsTold 23 = .ok (.ifCond .eq 7, 3) := by decide +kernel
theorem dX5_isAsTold_26 : decode cX5_isAsTold 26 = .ok (.iconst 1, 1) := by decide +kernel
theorem dX5_isAsTold_27 : decode cX5_isAsTold 27 = .ok (.goto 4, 3) := by decide +kernel
theorem dX5_isAsTold_30 : decode cX5_isAsTold 30 = .ok (.iconst 0, 1) := by decide +kernel
theorem dX5_isAsTold_31 : decode cX5_isAsTold 31 = .ok (.ireturn, 1) := by decide +kernel
theorem dX5_isRow_0 : decode cX5_isRow 0 = .ok (.iload_n 0, 1) := by decide +kernel
theorem dX5_isRow_1 : decode cX5_isRow 1 = .ok (.getstatic 19, 3) := by decide +kernel
theorem dX5_isRow_4 : decode cX5_isRow 4 = .ok (.iload_n 1, 1) := by decide +kernel
theorem dX5_isRow_5 : decode cX5_isRow 5 = .ok (.iconst 1, 1) := by decide +kernel
theorem dX5_isRow_6 : decode cX5_isRow 6 = .ok (.isub, 1) := by decide +kernel
theorem dX5_isRow_7 : decode cX5_isRow 7 = .ok (.iaload, 1) := by decide +kernel
theorem dX5_isRow_8 : decode cX5_isRow 8 = .ok (.if_icmp .lt 13, 3) := by decide +kernel
theorem dX5_isRow_11 : decode cX5_isRow 11 = .ok (.iload_n 0, 1) := by decide +kernel
theorem dX5_isRow_12 : decode cX5_isRow 12 = .ok (.getstatic 19, 3) := by decide +kernel
theorem dX5_isRow_15 : decode cX5_isRow 15 = .ok (.iload_n 1, 1) := by decide +kernel
theorem dX5_isRow_16 : decode cX5_isRow 16 = .ok (.iaload, 1) := by decide +kernel
theorem dX5_isRow_17 : decode cX5_isRow 17 = .ok (.idiv, 1) := by decide +kernel
theorem dX5_isRow_18 : decode cX5_isRow 18 = .ok (.ifCond .eq 5, 3) := by decide +kernel
theorem dX5_isRow_21 : decode cX5_isRow 21 = .ok (.iconst 0, 1) := by decide +kernel
theorem dX5_isRow_22 : decode cX5_isRow 22 = .ok (.ireturn, 1) := by decide +kernel
theorem dX5_isRow_23 : decode cX5_isRow 23 = .ok (.iconst 0, 1) := by decide +kernel
theorem dX5_isRow_24 : decode cX5_isRow 24 = .ok (.istore_n 2, 1) := by decide +kernel
theorem dX5_isRow_25 : decode cX5_isRow 25 = .ok (.iload_n 2, 1) := by decide +kernel
theorem dX5_isRow_26 : decode cX5_isRow 26 = .ok (.iload_n 1, 1) := by decide +kernel
theorem dX5_isRow_27 : decode cX5_isRow 27 = .ok (.if_icmp .ge 20, 3) := by decide +kernel
theorem dX5_isRow_30 : decode cX5_isRow 30 = .ok (.iload_n 0, 1) := by decide +kernel
theorem dX5_isRow_31 : decode cX5_isRow 31 = .ok (.iload_n 1, 1) := by decide +kernel
theorem dX5_isRow_32 : decode cX5_isRow 32 = .ok (.iload_n 2, 1) := by decide +kernel
theorem dX5_isRow_33 : decode cX5_isRow 33 = .ok (.invokestatic 23, 3) := by decide +kernel
theorem dX5_isRow_36 : decode cX5_isRow 36 = .ok (.ifCond .ne 5, 3) := by decide +kernel
theorem dX5_isRow_39 : decode cX5_isRow 39 = .ok (.iconst 0, 1) := by decide +kernel
theorem dX5_isRow_40 : decode cX5_isRow 40 = .ok (.ireturn, 1) := by decide +kernel
theorem dX5_isRow_41 : decode cX5_isRow 41 = .ok (.iinc 2 1, 3) := by decide +kernel
theorem dX5_isRow_44 : decode cX5_isRow 44 = .ok (.goto (-19), 3) := by decide +kernel
theorem dX5_isRow_47 : decode cX5_isRow 47 = .ok (.iconst 1, 1) := by decide +kernel
theorem dX5_isRow_48 : decode cX5_isRow 48 = .ok (.ireturn, 1) := by decide +kernel
theorem dX5_digit_0 : decode cX5_digit 0 = .ok (.iload_n 0, 1) := by decide +kernel
theorem dX5_digit_1 : decode cX5_digit 1 = .ok (.getstatic 19, 3) := by decide +kernel
theorem dX5_digit_4 : decode cX5_digit 4 = .ok (.iload_n 1, 1) := by decide +kernel
theorem dX5_digit_5 : decode cX5_digit 5 = .ok (.iconst 1, 1) := by decide +kernel
theorem dX5_digit_6 : decode cX5_digit 6 = .ok (.isub, 1) := by decide +kernel
theorem dX5_digit_7 : decode cX5_digit 7 = .ok (.iload_n 2, 1) := by decide +kernel
theorem dX5_digit_8 : decode cX5_digit 8 = .ok (.isub, 1) := by decide +kernel
theorem dX5_digit_9 : decode cX5_digit 9 = .ok (.iaload, 1) := by decide +kernel
theorem dX5_digit_10 : decode cX5_digit 10 = .ok (.idiv, 1) := by decide +kernel
theorem dX5_digit_11 : decode cX5_digit 11 = .ok (.bipush 10, 2) := by decide +kernel
theorem dX5_digit_13 : decode cX5_digit 13 = .ok (.irem, 1) := by decide +kernel
theorem dX5_digit_14 : decode cX5_digit 14 = .ok (.ireturn, 1) := by decide +kernel
theorem dX5_digitSum_0 : decode cX5_digitSum 0 = .ok (.lconst 0, 1) := by decide +kernel
theorem dX5_digitSum_1 : decode cX5_digitSum 1 = .ok (.lstore_n 2, 1) := by decide +kernel
theorem dX5_digitSum_2 : decode cX5_digitSum 2 = .ok (.iconst 0, 1) := by decide +kernel
theorem dX5_digitSum_3 : decode cX5_digitSum 3 = .ok (.istore 4, 2) := by decide +kernel
theorem dX5_digitSum_5 : decode cX5_digitSum 5 = .ok (.iload 4, 2) := by decide +kernel
theorem dX5_digitSum_7 : decode cX5_digitSum 7 = .ok (.iload_n 1, 1) := by decide +kernel
theorem dX5_digitSum_8 : decode cX5_digitSum 8 = .ok (.if_icmp .ge 20, 3) := by decide +kernel
theorem dX5_digitSum_11 : decode cX5_digitSum 11 = .ok (.lload_n 2, 1) := by decide +kernel
theorem dX5_digitSum_12 : decode cX5_digitSum 12 = .ok (.iload_n 0, 1) := by decide +kernel
theorem dX5_digitSum_13 : decode cX5_digitSum 13 = .ok (.iload_n 1, 1) := by decide +kernel
theorem dX5_digitSum_14 : decode cX5_digitSum 14 = .ok (.iload 4, 2) := by decide +kernel
theorem dX5_digitSum_16 : decode cX5_digitSum 16 = .ok (.invokestatic 23, 3) := by decide +kernel
theorem dX5_digitSum_19 : decode cX5_digitSum 19 = .ok (.i2l, 1) := by decide +kernel
theorem dX5_digitSum_20 : decode cX5_digitSum 20 = .ok (.ladd, 1) := by decide +kernel
theorem dX5_digitSum_21 : decode cX5_digitSum 21 = .ok (.lstore_n 2, 1) := by decide +kernel
theorem dX5_digitSum_22 : decode cX5_digitSum 22 = .ok (.iinc 4 1, 3) := by decide +kernel
theorem dX5_digitSum_25 : decode cX5_digitSum 25 = .ok (.goto (-20), 3) := by decide +kernel
theorem dX5_digitSum_28 : decode cX5_digitSum 28 = .ok (.lload_n 2, 1) := by decide +kernel
theorem dX5_digitSum_29 : decode cX5_digitSum 29 = .ok (.lreturn, 1) := by decide +kernel
theorem dX5_leastSum_0 : decode cX5_leastSum 0 = .ok (.lconst 0, 1) := by decide +kernel
theorem dX5_leastSum_1 : decode cX5_leastSum 1 = .ok (.lstore_n 3, 1) := by decide +kernel
theorem dX5_leastSum_2 : decode cX5_leastSum 2 = .ok (.iconst 0, 1) := by decide +kernel
theorem dX5_leastSum_3 : decode cX5_leastSum 3 = .ok (.istore 5, 2) := by decide +kernel
theorem dX5_leastSum_5 : decode cX5_leastSum 5 = .ok (.iload 5, 2) := by decide +kernel
theorem dX5_leastSum_7 : decode cX5_leastSum 7 = .ok (.iload_n 2, 1) := by decide +kernel
theorem dX5_leastSum_8 : decode cX5_leastSum 8 = .ok (.if_icmp .ge 91, 3) := by decide +kernel
theorem dX5_leastSum_11 : decode cX5_leastSum 11 = .ok (.lload_n 3, 1) := by decide +kernel
theorem dX5_leastSum_12 : decode cX5_leastSum 12 = .ok (.iload_n 0, 1) := by decide +kernel
theorem dX5_leastSum_13 : decode cX5_leastSum 13 = .ok (.iload_n 2, 1) := by decide +kernel
theorem dX5_leastSum_14 : decode cX5_leastSum 14 = .ok (.iload 5, 2) := by decide +kernel
theorem dX5_leastSum_16 : decode cX5_leastSum 16 = .ok (.invokestatic 23, 3) := by decide +kernel
theorem dX5_leastSum_19 : decode cX5_leastSum 19 = .ok (.iload_n 1, 1) := by decide +kernel
theorem dX5_leastSum_20 : decode cX5_leastSum 20 = .ok (.iload_n 2, 1) := by decide +kernel
theorem dX5_leastSum_21 : decode cX5_leastSum 21 = .ok (.iload 5, 2) := by decide +kernel
theorem dX5_leastSum_23 : decode cX5_leastSum 23 = .ok (.invokestatic 23, 3) := by decide +kernel
theorem dX5_leastSum_26 : decode cX5_leastSum 26 = .ok (.imul, 1) := by decide +kernel
theorem dX5_leastSum_27 : decode cX5_leastSum 27 = .ok (.i2l, 1) := by decide +kernel
theorem dX5_leastSum_28 : decode cX5_leastSum 28 = .ok (.ladd, 1) := by decide +kernel
theorem dX5_leastSum_29 : decode cX5_leastSum 29 = .ok (.lstore_n 3, 1) := by decide +kernel
theorem dX5_leastSum_30 : decode cX5_leastSum 30 = .ok (.iload 5, 2) := by decide +kernel
theorem dX5_leastSum_32 : decode cX5_leastSum 32 = .ok (.iconst 1, 1) := by decide +kernel
theorem dX5_leastSum_33 : decode cX5_leastSum 33 = .ok (.iadd, 1) := by decide +kernel
theorem dX5_leastSum_34 : decode cX5_leastSum 34 = .ok (.istore 6, 2) := by decide +kernel
theorem dX5_leastSum_36 : decode cX5_leastSum 36 = .ok (.iload 6, 2) := by decide +kernel
theorem dX5_leastSum_38 : decode cX5_leastSum 38 = .ok (.iload_n 2, 1) := by decide +kernel
theorem dX5_leastSum_39 : decode cX5_leastSum 39 = .ok (.if_icmp .ge 54, 3) := by decide +kernel
theorem dX5_leastSum_42 : decode cX5_leastSum 42 = .ok (.iload_n 0, 1) := by decide +kernel
theorem dX5_leastSum_43 : decode cX5_leastSum 43 = .ok (.iload_n 2, 1) := by decide +kernel
theorem dX5_leastSum_44 : decode cX5_leastSum 44 = .ok (.iload 5, 2) := by decide +kernel
theorem dX5_leastSum_46 : decode cX5_leastSum 46 = .ok (.invokestatic 23, 3) := by decide +kernel
theorem dX5_leastSum_49 : decode cX5_leastSum 49 = .ok (.iload_n 1, 1) := by decide +kernel
theorem dX5_leastSum_50 : decode cX5_leastSum 50 = .ok (.iload_n 2, 1) := by decide +kernel
theorem dX5_leastSum_51 : decode cX5_leastSum 51 = .ok (.iload 6, 2) := by decide +kernel
theorem dX5_leastSum_53 : decode cX5_leastSum 53 = .ok (.invokestatic 23, 3) := by decide +kernel
theorem dX5_leastSum_56 : decode cX5_leastSum 56 = .ok (.imul, 1) := by decide +kernel
theorem dX5_leastSum_57 : decode cX5_leastSum 57 = .ok (.istore 7, 2) := by decide +kernel
theorem dX5_leastSum_59 : decode cX5_leastSum 59 = .ok (.iload_n 0, 1) := by decide +kernel
theorem dX5_leastSum_60 : decode cX5_leastSum 60 = .ok (.iload_n 2, 1) := by decide +kernel
theorem dX5_leastSum_61 : decode cX5_leastSum 61 = .ok (.iload 6, 2) := by decide +kernel
theorem dX5_leastSum_63 : decode cX5_leastSum 63 = .ok (.invokestatic 23, 3) := by decide +kernel
theorem dX5_leastSum_66 : decode cX5_leastSum 66 = .ok (.iload_n 1, 1) := by decide +kernel
theorem dX5_leastSum_67 : decode cX5_leastSum 67 = .ok (.iload_n 2, 1) := by decide +kernel
theorem dX5_leastSum_68 : decode cX5_leastSum 68 = .ok (.iload 5, 2) := by decide +kernel
theorem dX5_leastSum_70 : decode cX5_leastSum 70 = .ok (.invokestatic 23, 3) := by decide +kernel
theorem dX5_leastSum_73 : decode cX5_leastSum 73 = .ok (.imul, 1) := by decide +kernel
theorem dX5_leastSum_74 : decode cX5_leastSum 74 = .ok (.istore 8, 2) := by decide +kernel
theorem dX5_leastSum_76 : decode cX5_leastSum 76 = .ok (.lload_n 3, 1) := by decide +kernel
theorem dX5_leastSum_77 : decode cX5_leastSum 77 = .ok (.iload 7, 2) := by decide +kernel
theorem dX5_leastSum_79 : decode cX5_leastSum 79 = .ok (.iload 8, 2) := by decide +kernel
theorem dX5_leastSum_81 : decode cX5_leastSum 81 = .ok (.invokestatic 27, 3) := by decide +kernel
theorem dX5_leastSum_84 : decode cX5_leastSum 84 = .ok (.i2l, 1) := by decide +kernel
theorem dX5_leastSum_85 : decode cX5_leastSum 85 = .ok (.ladd, 1) := by decide +kernel
theorem dX5_leastSum_86 : decode cX5_leastSum 86 = .ok (.lstore_n 3, 1) := by decide +kernel
theorem dX5_leastSum_87 : decode cX5_leastSum 87 = .ok (.iinc 6 1, 3) := by decide +kernel
theorem dX5_leastSum_90 : decode cX5_leastSum 90 = .ok (.goto (-54), 3) := by decide +kernel
theorem dX5_leastSum_93 : decode cX5_leastSum 93 = .ok (.iinc 5 1, 3) := by decide +kernel
theorem dX5_leastSum_96 : decode cX5_leastSum 96 = .ok (.goto (-91), 3) := by decide +kernel
theorem dX5_leastSum_99 : decode cX5_leastSum 99 = .ok (.lload_n 3, 1) := by decide +kernel
theorem dX5_leastSum_100 : decode cX5_leastSum 100 = .ok (.lreturn, 1) := by decide +kernel
theorem dX5_first_0 : decode cX5_first 0 = .ok (.iconst 0, 1) := by decide +kernel
theorem dX5_first_1 : decode cX5_first 1 = .ok (.istore_n 3, 1) := by decide +kernel
theorem dX5_first_2 : decode cX5_first 2 = .ok (.iconst 1, 1) := by decide +kernel
theorem dX5_first_3 : decode cX5_first 3 = .ok (.istore 4, 2) := by decide +kernel
theorem dX5_first_5 : decode cX5_first 5 = .ok (.iload 4, 2) := by decide +kernel
theorem dX5_first_7 : decode cX5_first 7 = .ok (.iload_n 2, 1) := by decide +kernel
theorem dX5_first_8 : decode cX5_first 8 = .ok (.if_icmp .ge 51, 3) := by decide +kernel
theorem dX5_first_11 : decode cX5_first 11 = .ok (.iload_n 0, 1) := by decide +kernel
theorem dX5_first_12 : decode cX5_first 12 = .ok (.iload_n 2, 1) := by decide +kernel
theorem dX5_first_13 : decode cX5_first 13 = .ok (.iload 4, 2) := by decide +kernel
theorem dX5_first_15 : decode cX5_first 15 = .ok (.invokestatic 23, 3) := by decide +kernel
theorem dX5_first_18 : decode cX5_first 18 = .ok (.iload_n 1, 1) := by decide +kernel
theorem dX5_first_19 : decode cX5_first 19 = .ok (.iload_n 2, 1) := by decide +kernel
theorem dX5_first_20 : decode cX5_first 20 = .ok (.iload_n 3, 1) := by decide +kernel
theorem dX5_first_21 : decode cX5_first 21 = .ok (.invokestatic 23, 3) := by decide +kernel
theorem dX5_first_24 : decode cX5_first 24 = .ok (.imul, 1) := by decide +kernel
theorem dX5_first_25 : decode cX5_first 25 = .ok (.istore 5, 2) := by decide +kernel
theorem dX5_first_27 : decode cX5_first 27 = .ok (.iload_n 0, 1) := by decide +kernel
theorem dX5_first_28 : decode cX5_first 28 = .ok (.iload_n 2, 1) := by decide +kernel
theorem dX5_first_29 : decode cX5_first 29 = .ok (.iload_n 3, 1) := by decide +kernel
theorem dX5_first_30 : decode cX5_first 30 = .ok (.invokestatic 23, 3) := by decide +kernel
theorem dX5_first_33 : decode cX5_first 33 = .ok (.iload_n 1, 1) := by decide +kernel
theorem dX5_first_34 : decode cX5_first 34 = .ok (.iload_n 2, 1) := by decide +kernel
theorem dX5_first_35 : decode cX5_first 35 = .ok (.iload 4, 2) := by decide +kernel
theorem dX5_first_37 : decode cX5_first 37 = .ok (.invokestatic 23, 3) := by decide +kernel
theorem dX5_first_40 : decode cX5_first 40 = .ok (.imul, 1) := by decide +kernel
theorem dX5_first_41 : decode cX5_first 41 = .ok (.istore 6, 2) := by decide +kernel
theorem dX5_first_43 : decode cX5_first 43 = .ok (.iload 5, 2) := by decide +kernel
theorem dX5_first_45 : decode cX5_first 45 = .ok (.iload 6, 2) := by decide +kernel
theorem dX5_first_47 : decode cX5_first 47 = .ok (.if_icmp .le 6, 3) := by decide +kernel
theorem dX5_first_50 : decode cX5_first 50 = .ok (.iload 4, 2) := by decide +kernel
theorem dX5_first_52 : decode cX5_first 52 = .ok (.istore_n 3, 1) := by decide +kernel
theorem dX5_first_53 : decode cX5_first 53 = .ok (.iinc 4 1, 3) := by decide +kernel
theorem dX5_first_56 : decode cX5_first 56 = .ok (.goto (-51), 3) := by decide +kernel
theorem dX5_first_59 : decode cX5_first 59 = .ok (.iload_n 3, 1) := by decide +kernel
theorem dX5_first_60 : decode cX5_first 60 = .ok (.ireturn, 1) := by decide +kernel
theorem dX6_init_0 : decode cX6_init 0 = .ok (.aload_n 0, 1) := by decide +kernel
theorem dX6_init_1 : decode cX6_init 1 = .ok (.invokespecial 3, 3) := by decide +kernel
theorem dX6_init_4 : decode cX6_init 4 = .ok (.aload_n 0, 1) := by decide +kernel
theorem dX6_init_5 : decode cX6_init 5 = .ok (.bipush 8, 2) := by decide +kernel
theorem dX6_init_7 : decode cX6_init 7 = .ok (.newarray .int, 2) := by decide +kernel
theorem dX6_init_9 : decode cX6_init 9 = .ok (.putfield 11, 3) := by decide +kernel
theorem dX6_init_12 : decode cX6_init 12 = .ok (.aload_n 0, 1) := by decide +kernel
theorem dX6_init_13 : decode cX6_init 13 = .ok (.bipush 8, 2) := by decide +kernel
theorem dX6_init_15 : decode cX6_init 15 = .ok (.newarray .int, 2) := by decide +kernel
theorem dX6_init_17 : decode cX6_init 17 = .ok (.putfield 15, 3) := by decide +kernel
theorem dX6_init_20 : decode cX6_init 20 = .ok (.aload_n 0, 1) := by decide +kernel
theorem dX6_init_21 : decode cX6_init 21 = .ok (.bipush 8, 2) := by decide +kernel
theorem dX6_init_23 : decode cX6_init 23 = .ok (.newarray .boolean, 2) := by decide +kernel
theorem dX6_init_25 : decode cX6_init 25 = .ok (.putfield 18, 3) := by decide +kernel
theorem dX6_init_28 : decode cX6_init 28 = .ok (.aload_n 0, 1) := by decide +kernel
theorem dX6_init_29 : decode cX6_init 29 = .ok (.bipush 10, 2) := by decide +kernel
theorem dX6_init_31 : decode cX6_init 31 = .ok (.newarray .int, 2) := by decide +kernel
theorem dX6_init_33 : decode cX6_init 33 = .ok (.putfield 22, 3) := by decide +kernel
theorem dX6_init_36 : decode cX6_init 36 = .ok (.return_, 1) := by decide +kernel
theorem dX6_copyFrom_0 : decode cX6_copyFrom 0 = .ok (.iconst 0, 1) := by decide +kernel
theorem dX6_copyFrom_1 : decode cX6_copyFrom 1 = .ok (.istore_n 2, 1) := by decide +kernel
theorem dX6_copyFrom_2 : decode cX6_copyFrom 2 = .ok (.iload_n 2, 1) := by decide +kernel
theorem dX6_copyFrom_3 : decode cX6_copyFrom 3 = .ok (.bipush 8, 2) := by decide +kernel
theorem dX6_copyFrom_5 : decode cX6_copyFrom 5 = .ok (.if_icmp .ge 45, 3) := by decide +kernel
theorem dX6_copyFrom_8 : decode cX6_copyFrom 8 = .ok (.aload_n 0, 1) := by decide +kernel
theorem dX6_copyFrom_9 : decode cX6_copyFrom 9 = .ok (.getfield 11, 3) := by decide +kernel
theorem dX6_copyFrom_12 : decode cX6_copyFrom 12 = .ok (.iload_n 2, 1) := by decide +kernel
theorem dX6_copyFrom_13 : decode cX6_copyFrom 13 = .ok (.aload_n 1, 1) := by decide +kernel
theorem dX6_copyFrom_14 : decode cX6_copyFrom 14 = .ok (.getfield 11, 3) := by decide +kernel
theorem dX6_copyFrom_17 : decode cX6_copyFrom 17 = .ok (.iload_n 2, 1) := by decide +kernel
theorem dX6_copyFrom_18 : decode cX6_copyFrom 18 = .ok (.iaload, 1) := by decide +kernel
theorem dX6_copyFrom_19 : decode cX6_copyFrom 19 = .ok (.iastore, 1) := by decide +kernel
theorem dX6_copyFrom_20 : decode cX6_copyFrom 20 = .ok (.aload_n 0, 1) := by decide +kernel
theorem dX6_copyFrom_21 : decode cX6_copyFrom 21 = .ok (.getfield 15, 3) := by decide +kernel
theorem dX6_copyFrom_24 : decode cX6_copyFrom 24 = .ok (.iload_n 2, 1) := by decide +kernel
theorem dX6_copyFrom_25 : decode cX6_copyFrom 25 = .ok (.aload_n 1, 1) := by decide +kernel
theorem dX6_copyFrom_26 : decode cX6_copyFrom 26 = .ok (.getfield 15, 3) := by decide +kernel
theorem dX6_copyFrom_29 : decode cX6_copyFrom 29 = .ok (.iload_n 2, 1) := by decide +kernel
theorem dX6_copyFrom_30 : decode cX6_copyFrom 30 = .ok (.iaload, 1) := by decide +kernel
theorem dX6_copyFrom_31 : decode cX6_copyFrom 31 = .ok (.iastore, 1) := by decide +kernel
theorem dX6_copyFrom_32 : decode cX6_copyFrom 32 = .ok (.aload_n 0, 1) := by decide +kernel
theorem dX6_copyFrom_33 : decode cX6_copyFrom 33 = .ok (.getfield 18, 3) := by decide +kernel
theorem dX6_copyFrom_36 : decode cX6_copyFrom 36 = .ok (.iload_n 2, 1) := by decide +kernel
theorem dX6_copyFrom_37 : decode cX6_copyFrom 37 = .ok (.aload_n 1, 1) := by decide +kernel
theorem dX6_copyFrom_38 : decode cX6_copyFrom 38 = .ok (.getfield 18, 3) := by decide +kernel
theorem dX6_copyFrom_41 : decode cX6_copyFrom 41 = .ok (.iload_n 2, 1) := by decide +kernel
theorem dX6_copyFrom_42 : decode cX6_copyFrom 42 = .ok (.baload, 1) := by decide +kernel
theorem dX6_copyFrom_43 : decode cX6_copyFrom 43 = .ok (.bastore, 1) := by decide +kernel
theorem dX6_copyFrom_44 : decode cX6_copyFrom 44 = .ok (.iinc 2 1, 3) := by decide +kernel
theorem dX6_copyFrom_47 : decode cX6_copyFrom 47 = .ok (.goto (-45), 3) := by decide +kernel
theorem dX6_copyFrom_50 : decode cX6_copyFrom 50 = .ok (.aload_n 0, 1) := by decide +kernel
theorem dX6_copyFrom_51 : decode cX6_copyFrom 51 = .ok (.aload_n 1, 1) := by decide +kernel
theorem dX6_copyFrom_52 : decode cX6_copyFrom 52 = .ok (.getfield 25, 3) := by decide +kernel
theorem dX6_copyFrom_55 : decode cX6_copyFrom 55 = .ok (.putfield 25, 3) := by decide +kernel
theorem dX6_copyFrom_58 : decode cX6_copyFrom 58 = .ok (.return_, 1) := by decide +kernel
theorem dX6_add_0 : decode cX6_add 0 = .ok (.aload_n 0, 1) := by decide +kernel
theorem dX6_add_1 : decode cX6_add 1 = .ok (.getfield 25, 3) := by decide +kernel
theorem dX6_add_4 : decode cX6_add 4 = .ok (.bipush 8, 2) := by decide +kernel
theorem dX6_add_6 : decode cX6_add 6 = .ok (.if_icmp .lt 6, 3) := by decide +kernel
theorem dX6_add_9 : decode cX6_add 9 = .ok (.bipush (-4), 2) := by decide +kernel
theorem dX6_add_11 : decode cX6_add 11 = .ok (.ireturn, 1) := by decide +kernel
theorem dX6_add_12 : decode cX6_add 12 = .ok (.aload_n 0, 1) := by decide +kernel
theorem dX6_add_13 : decode cX6_add 13 = .ok (.getfield 11, 3) := by decide +kernel
theorem dX6_add_16 : decode cX6_add 16 = .ok (.aload_n 0, 1) := by decide +kernel
theorem dX6_add_17 : decode cX6_add 17 = .ok (.getfield 25, 3) := by decide +kernel
theorem dX6_add_20 : decode cX6_add 20 = .ok (.iload_n 1, 1) := by decide +kernel
theorem dX6_add_21 : decode cX6_add 21 = .ok (.iastore, 1) := by decide +kernel
theorem dX6_add_22 : decode cX6_add 22 = .ok (.aload_n 0, 1) := by decide +kernel
theorem dX6_add_23 : decode cX6_add 23 = .ok (.getfield 15, 3) := by decide +kernel
theorem dX6_add_26 : decode cX6_add 26 = .ok (.aload_n 0, 1) := by decide +kernel
theorem dX6_add_27 : decode cX6_add 27 = .ok (.getfield 25, 3) := by decide +kernel
theorem dX6_add_30 : decode cX6_add 30 = .ok (.iload_n 2, 1) := by decide +kernel
theorem dX6_add_31 : decode cX6_add 31 = .ok (.iastore, 1) := by decide +kernel
theorem dX6_add_32 : decode cX6_add 32 = .ok (.aload_n 0, 1) := by decide +kernel
theorem dX6_add_33 : decode cX6_add 33 = .ok (.getfield 18, 3) := by decide +kernel
theorem dX6_add_36 : decode cX6_add 36 = .ok (.aload_n 0, 1) := by decide +kernel
theorem dX6_add_37 : decode cX6_add 37 = .ok (.getfield 25, 3) := by decide +kernel
theorem dX6_add_40 : decode cX6_add 40 = .ok (.iload_n 3, 1) := by decide +kernel
theorem dX6_add_41 : decode cX6_add 41 = .ok (.bastore, 1) := by decide +kernel
theorem dX6_add_42 : decode cX6_add 42 = .ok (.aload_n 0, 1) := by decide +kernel
theorem dX6_add_43 : decode cX6_add 43 = .ok (.dup, 1) := by decide +kernel
theorem dX6_add_44 : decode cX6_add 44 = .ok (.getfield 25, 3) := by decide +kernel
theorem dX6_add_47 : decode cX6_add 47 = .ok (.iconst 1, 1) := by decide +kernel
theorem dX6_add_48 : decode cX6_add 48 = .ok (.iadd, 1) := by decide +kernel
theorem dX6_add_49 : decode cX6_add 49 = .ok (.putfield 25, 3) := by decide +kernel
theorem dX6_add_52 : decode cX6_add 52 = .ok (.aload_n 0, 1) := by decide +kernel
theorem dX6_add_53 : decode cX6_add 53 = .ok (.getfield 25, 3) := by decide +kernel
theorem dX6_add_56 : decode cX6_add 56 = .ok (.ireturn, 1) := by decide +kernel
theorem dX6_clear_0 : decode cX6_clear 0 = .ok (.aload_n 0, 1) := by decide +kernel
theorem dX6_clear_1 : decode cX6_clear 1 = .ok (.getfield 25, 3) := by decide +kernel
theorem dX6_clear_4 : decode cX6_clear 4 = .ok (.istore_n 1, 1) := by decide +kernel
theorem dX6_clear_5 : decode cX6_clear 5 = .ok (.aload_n 0, 1) := by decide +kernel
theorem dX6_clear_6 : decode cX6_clear 6 = .ok (.iconst 0, 1) := by decide +kernel
theorem dX6_clear_7 : decode cX6_clear 7 = .ok (.putfield 25, 3) := by decide +kernel
theorem dX6_clear_10 : decode cX6_clear 10 = .ok (.iload_n 1, 1) := by decide +kernel
theorem dX6_clear_11 : decode cX6_clear 11 = .ok (.ireturn, 1) := by decide +kernel
theorem dX6_fit_0 : decode cX6_fit 0 = .ok (.iconst 0, 1) := by decide +kernel
theorem dX6_fit_1 : decode cX6_fit 1 = .ok (.istore_n 2, 1) := by decide +kernel
theorem dX6_fit_2 : decode cX6_fit 2 = .ok (.iload_n 2, 1) := by decide +kernel
theorem dX6_fit_3 : decode cX6_fit 3 = .ok (.aload_n 0, 1) := by decide +kernel
theorem dX6_fit_4 : decode cX6_fit 4 = .ok (.getfield 25, 3) := by decide +kernel
theorem dX6_fit_7 : decode cX6_fit 7 = .ok (.if_icmp .ge 36, 3) := by decide +kernel
theorem dX6_fit_10 : decode cX6_fit 10 = .ok (.iload_n 1, 1) := by decide +kernel
theorem dX6_fit_11 : decode cX6_fit 11 = .ok (.aload_n 0, 1) := by decide +kernel
theorem dX6_fit_12 : decode cX6_fit 12 = .ok (.getfield 11, 3) := by decide +kernel
theorem dX6_fit_15 : decode cX6_fit 15 = .ok (.iload_n 2, 1) := by decide +kernel
theorem dX6_fit_16 : decode cX6_fit 16 = .ok (.iaload, 1) := by decide +kernel
theorem dX6_fit_17 : decode cX6_fit 17 = .ok (.aload_n 0, 1) := by decide +kernel
theorem dX6_fit_18 : decode cX6_fit 18 = .ok (.getfield 15, 3) := by decide +kernel
theorem dX6_fit_21 : decode cX6_fit 21 = .ok (.iload_n 2, 1) := by decide +kernel
theorem dX6_fit_22 : decode cX6_fit 22 = .ok (.iaload, 1) := by decide +kernel
theorem dX6_fit_23 : decode cX6_fit 23 = .ok (.invokestatic 29, 3) := by decide +kernel
theorem dX6_fit_26 : decode cX6_fit 26 = .ok (.aload_n 0, 1) := by decide +kernel
theorem dX6_fit_27 : decode cX6_fit 27 = .ok (.getfield 18, 3) := by decide +kernel
theorem dX6_fit_30 : decode cX6_fit 30 = .ok (.iload_n 2, 1) := by decide +kernel
theorem dX6_fit_31 : decode cX6_fit 31 = .ok (.baload, 1) := by decide +kernel
theorem dX6_fit_32 : decode cX6_fit 32 = .ok (.if_icmp .eq 5, 3) := by decide +kernel
theorem dX6_fit_35 : decode cX6_fit 35 = .ok (.iconst 0, 1) := by decide +kernel
theorem dX6_fit_36 : decode cX6_fit 36 = .ok (.ireturn, 1) := by decide +kernel
theorem dX6_fit_37 : decode cX6_fit 37 = .ok (.iinc 2 1, 3) := by decide +kernel
theorem dX6_fit_40 : decode cX6_fit 40 = .ok (.goto (-38), 3) := by decide +kernel
theorem dX6_fit_43 : decode cX6_fit 43 = .ok (.iconst 1, 1) := by decide +kernel
theorem dX6_fit_44 : decode cX6_fit 44 = .ok (.ireturn, 1) := by decide +kernel
theorem dX6_findQuestion_0 : decode cX6_findQuestion 0 = .ok (.aload_n 0, 1) := by decide +kernel
theorem dX6_findQuestion_1 : decode cX6_findQuestion 1 = .ok (.bipush (-6), 2) := by decide +kernel
theorem dX6_findQuestion_3 : decode cX6_findQuestion 3 = .ok (.putfield 33, 3) := by decide +kernel
theorem dX6_findQuestion_6 : decode cX6_findQuestion 6 = .ok (.aload_n 0, 1) := by decide +kernel
theorem dX6_findQuestion_7 : decode cX6_findQuestion 7 = .ok (.bipush (-6), 2) := by decide +kernel
theorem dX6_findQuestion_9 : decode cX6_findQuestion 9 = .ok (.putfield 36, 3) := by decide +kernel
theorem dX6_findQuestion_12 : decode cX6_findQuestion 12 = .ok (.aload_n 0, 1) := by decide +kernel
theorem dX6_findQuestion_13 : decode cX6_findQuestion 13 = .ok (.aload_n 1, 1) := by decide +kernel
theorem dX6_findQuestion_14 : decode cX6_findQuestion 14 = .ok (.invokevirtual 39, 3) := by decide +kernel
theorem dX6_findQuestion_17 : decode cX6_findQuestion 17 = .ok (.istore_n 2, 1) := by decide +kernel
theorem dX6_findQuestion_18 : decode cX6_findQuestion 18 = .ok (.iload_n 2, 1) := by decide +kernel
theorem dX6_findQuestion_19 : decode cX6_findQuestion 19 = .ok (.ifCond .ne 4, 3) := by decide +kernel
theorem dX6_findQuestion_22 : decode cX6_findQuestion 22 = .ok (.return_, 1) := by decide +kernel
theorem dX6_findQuestion_23 : decode cX6_findQuestion 23 = .ok (.iconst 1, 1) := by decide +kernel
theorem dX6_findQuestion_24 : decode cX6_findQuestion 24 = .ok (.istore_n 3, 1) := by decide +kernel
theorem dX6_findQuestion_25 : decode cX6_findQuestion 25 = .ok (.iload_n 3, 1) := by decide +kernel
theorem dX6_findQuestion_26 : decode cX6_findQuestion 26 = .ok (.bipush 9, 2) := by decide +kernel
theorem dX6_findQuestion_28 : decode cX6_findQuestion 28 = .ok (.if_icmp .gt 80, 3) := by decide +kernel
theorem dX6_findQuestion_31 : decode cX6_findQuestion 31 = .ok (.iconst 0, 1) := by decide +kernel
theorem dX6_findQuestion_32 : decode cX6_findQuestion 32 = .ok (.istore 4, 2) := by decide +kernel
theorem dX6_findQuestion_34 : decode cX6_findQuestion 34 = .ok (.iload 4, 2) := by decide +kernel
theorem dX6_findQuestion_36 : decode cX6_findQuestion 36 = .ok (.bipush 9, 2) := by decide +kernel
theorem dX6_findQuestion_38 : decode cX6_findQuestion 38 = .ok (.if_icmp .ge 64, 3) := by decide +kernel
theorem dX6_findQuestion_41 : decode cX6_findQuestion 41 = .ok (.aload_n 0, 1) := by decide +kernel
theorem dX6_findQuestion_42 : decode cX6_findQuestion 42 = .ok (.iload_n 3, 1) := by decide +kernel
theorem dX6_findQuestion_43 : decode cX6_findQuestion 43 = .ok (.iload 4, 2) := by decide +kernel
theorem dX6_findQuestion_45 : decode cX6_findQuestion 45 = .ok (.invokevirtual 43, 3) := by decide +kernel
theorem dX6_findQuestion_48 : decode cX6_findQuestion 48 = .ok (.istore 5, 2) := by decide +kernel
theorem dX6_findQuestion_50 : decode cX6_findQuestion 50 = .ok (.iload 5, 2) := by decide +kernel
theorem dX6_findQuestion_52 : decode cX6_findQuestion 52 = .ok (.iload_n 2, 1) := by decide +kernel
theorem dX6_findQuestion_53 : decode cX6_findQuestion 53 = .ok (.iload 5, 2) := by decide +kernel
theorem dX6_findQuestion_55 : decode cX6_findQuestion 55 = .ok (.isub, 1) := by decide +kernel
theorem dX6_findQuestion_56 : decode cX6_findQuestion 56 = .ok (.invokestatic 47, 3) := by decide +kernel
theorem dX6_findQuestion_59 : decode cX6_findQuestion 59 = .ok (.istore 6, 2) := by decide +kernel
theorem dX6_findQuestion_61 : decode cX6_findQuestion 61 = .ok (.aload_n 0, 1) := by decide +kernel
theorem dX6_findQuestion_62 : decode cX6_findQuestion 62 = .ok (.getfield 33, 3) := by decide +kernel
theorem dX6_findQuestion_65 : decode cX6_findQuestion 65 = .ok (.bipush (-6), 2) := by decide +kernel
theorem dX6_findQuestion_67 : decode cX6_findQuestion 67 = .ok (.if_icmp .eq 12, 3) := by decide +kernel
theorem dX6_findQuestion_70 : decode cX6_findQuestion 70 = .ok (.iload 6, 2) := by decide +kernel
theorem dX6_findQuestion_72 : decode cX6_findQuestion 72 = .ok (.aload_n 0, 1) := by decide +kernel
theorem dX6_findQuestion_73 : decode cX6_findQuestion 73 = .ok (.getfield 36, 3) := by decide +kernel
theorem dX6_findQuestion_76 : decode cX6_findQuestion 76 = .ok (.if_icmp .ge 20, 3) := by decide +kernel
theorem dX6_findQuestion_79 : decode cX6_findQuestion 79 = .ok (.aload_n 0, 1) := by decide +kernel
theorem dX6_findQuestion_80 : decode cX6_findQuestion 80 = .ok (.bipush 10, 2) := by decide +kernel
theorem dX6_findQuestion_82 : decode cX6_findQuestion 82 = .ok (.iload_n 3, 1) := by decide +kernel
theorem dX6_findQuestion_83 : decode cX6_findQuestion 83 = .ok (.imul, 1) := by decide +kernel
theorem dX6_findQuestion_84 : decode cX6_findQuestion 84 = .ok (.iload 4, 2) := by decide +kernel
theorem dX6_findQuestion_86 : decode cX6_findQuestion 86 = .ok (.iadd, 1) := by decide +kernel
theorem dX6_findQuestion_87 : decode cX6_findQuestion 87 = .ok (.putfield 33, 3) := by decide +kernel
theorem dX6_findQuestion_90 : decode cX6_findQuestion 90 = .ok (.aload_n 0, 1) := by decide +kernel
theorem dX6_findQuestion_91 : decode cX6_findQuestion 91 = .ok (.iload 6, 2) := by decide +kernel
theorem dX6_findQuestion_93 : decode cX6_findQuestion 93 = .ok (.putfield 36, 3) := by decide +kernel
theorem dX6_findQuestion_96 : decode cX6_findQuestion 96 = .ok (.iinc 4 1, 3) := by decide +kernel
theorem dX6_findQuestion_99 : decode cX6_findQuestion 99 = .ok (.goto (-65), 3) := by decide +kernel
theorem dX6_findQuestion_102 : decode cX6_findQuestion 102 = .ok (.iinc 3 1, 3) := by decide +kernel
theorem dX6_findQuestion_105 : decode cX6_findQuestion 105 = .ok (.goto (-80), 3) := by decide +kernel
theorem dX6_findQuestion_108 : decode cX6_findQuestion 108 = .ok (.return_, 1) := by decide +kernel
theorem dX6_countFitting_0 : decode cX6_countFitting 0 = .ok (.iconst 0, 1) := by decide +kernel
theorem dX6_countFitting_1 : decode cX6_countFitting 1 = .ok (.istore_n 2, 1) := by decide +kernel
theorem dX6_countFitting_2 : decode cX6_countFitting 2 = .ok (.iload_n 2, 1) := by decide +kernel
theorem dX6_countFitting_3 : decode cX6_countFitting 3 = .ok (.bipush 9, 2) := by decide +kernel
theorem dX6_countFitting_5 : decode cX6_countFitting 5 = .ok (.if_icmp .gt 16, 3) := by decide +kernel
theorem dX6_countFitting_8 : decode cX6_countFitting 8 = .ok (.aload_n 0, 1) := by decide +kernel
theorem dX6_countFitting_9 : decode cX6_countFitting 9 = .ok (.getfield 22, 3) := by decide +kernel
theorem dX6_countFitting_12 : decode cX6_countFitting 12 = .ok (.iload_n 2, 1) := by decide +kernel
theorem dX6_countFitting_13 : decode cX6_countFitting 13 = .ok (.iconst 0, 1) := by decide +kernel
theorem dX6_countFitting_14 : decode cX6_countFitting 14 = .ok (.iastore, 1) := by decide +kernel
theorem dX6_countFitting_15 : decode cX6_countFitting 15 = .ok (.iinc 2 1, 3) := by decide +kernel
theorem dX6_countFitting_18 : decode cX6_countFitting 18 = .ok (.goto (-16), 3) := by decide +kernel
theorem dX6_countFitting_21 : decode cX6_countFitting 21 = .ok (.iconst 0, 1) := by decide +kernel
theorem dX6_countFitting_22 : decode cX6_countFitting 22 = .ok (.istore_n 2, 1) := by decide +kernel
theorem dX6_countFitting_23 : decode cX6_countFitting 23 = .ok (.iconst 0, 1) := by decide +kernel
theorem dX6_countFitting_24 : decode cX6_countFitting 24 = .ok (.istore_n 3, 1) := by decide +kernel
theorem dX6_countFitting_25 : decode cX6_countFitting 25 = .ok (.iload_n 3, 1) := by decide +kernel
theorem dX6_countFitting_26 : decode cX6_countFitting 26 = .ok (.aload_n 1, 1) := by decide +kernel
theorem dX6_countFitting_27 : decode cX6_countFitting 27 = .ok (.arraylength, 1) := by decide +kernel
theorem dX6_countFitting_28 : decode cX6_countFitting 28 = .ok (.if_icmp .ge 45, 3) := by decide +kernel
theorem dX6_countFitting_31 : decode cX6_countFitting 31 = .ok (.aload_n 1, 1) := by decide +kernel
theorem dX6_countFitting_32 : decode cX6_countFitting 32 = .ok (.iload_n 3, 1) := by decide +kernel
theorem dX6_countFitting_33 : decode cX6_countFitting 33 = .ok (.iaload, 1) := by decide +kernel
theorem dX6_countFitting_34 : decode cX6_countFitting 34 = .ok (.istore 4, 2) := by decide +kernel
theorem dX6_countFitting_36 : decode cX6_countFitting 36 = .ok (.iload 4, 2) := by decide +kernel
theorem dX6_countFitting_38 : decode cX6_countFitting 38 = .ok (.invokestatic 52, 3) := by decide +kernel
theorem dX6_countFitting_41 : decode cX6_countFitting 41 = .ok (.ifCond .eq 26, 3) := by decide +kernel
theorem dX6_countFitting_44 : decode cX6_countFitting 44 = .ok (.aload_n 0, 1) := by decide +kernel
theorem dX6_countFitting_45 : decode cX6_countFitting 45 = .ok (.iload 4, 2) := by decide +kernel
theorem dX6_countFitting_47 : decode cX6_countFitting 47 = .ok (.invokevirtual 56, 3) := by decide +kernel
theorem dX6_countFitting_50 : decode cX6_countFitting 50 = .ok (.ifCond .eq 17, 3) := by decide +kernel
theorem dX6_countFitting_53 : decode cX6_countFitting 53 = .ok (.aload_n 0, 1) := by decide +kernel
theorem dX6_countFitting_54 : decode cX6_countFitting 54 = .ok (.getfield 22, 3) := by decide +kernel
theorem dX6_countFitting_57 : decode cX6_countFitting 57 = .ok (.iload 4, 2) := by decide +kernel
theorem dX6_countFitting_59 : decode cX6_countFitting 59 = .ok (.dup2, 1) := by decide +kernel
theorem dX6_countFitting_60 : decode cX6_countFitting 60 = .ok (.iaload, 1) := by decide +kernel
theorem dX6_countFitting_61 : decode cX6_countFitting 61 = .ok (.iconst 1, 1) := by decide +kernel
theorem dX6_countFitting_62 : decode cX6_countFitting 62 = .ok (.iadd, 1) := by decide +kernel
theorem dX6_countFitting_63 : decode cX6_countFitting 63 = .ok (.iastore, 1) := by decide +kernel
theorem dX6_countFitting_64 : decode cX6_countFitting 64 = .ok (.iinc 2 1, 3) := by decide +kernel
theorem dX6_countFitting_67 : decode cX6_countFitting 67 = .ok (.iinc 3 1, 3) := by decide +kernel
theorem dX6_countFitting_70 : decode cX6_countFitting 70 = .ok (.goto (-45), 3) := by decide +kernel
theorem dX6_countFitting_73 : decode cX6_countFitting 73 = .ok (.iload_n 2, 1) := by decide +kernel
theorem dX6_countFitting_74 : decode cX6_countFitting 74 = .ok (.ireturn, 1) := by decide +kernel
theorem dX6_countNear_0 : decode cX6_countNear 0 = .ok (.iconst 0, 1) := by decide +kernel
theorem dX6_countNear_1 : decode cX6_countNear 1 = .ok (.istore_n 3, 1) := by decide +kernel
theorem dX6_countNear_2 : decode cX6_countNear 2 = .ok (.iconst 1, 1) := by decide +kernel
theorem dX6_countNear_3 : decode cX6_countNear 3 = .ok (.istore 4, 2) := by decide +kernel
theorem dX6_countNear_5 : decode cX6_countNear 5 = .ok (.iload 4, 2) := by decide +kernel
theorem dX6_countNear_7 : decode cX6_countNear 7 = .ok (.bipush 9, 2) := by decide +kernel
theorem dX6_countNear_9 : decode cX6_countNear 9 = .ok (.if_icmp .gt 29, 3) := by decide +kernel
theorem dX6_countNear_12 : decode cX6_countNear 12 = .ok (.iload 4, 2) := by decide +kernel
theorem dX6_countNear_14 : decode cX6_countNear 14 = .ok (.iload_n 1, 1) := by decide +kernel
theorem dX6_countNear_15 : decode cX6_countNear 15 = .ok (.iload_n 2, 1) := by decide +kernel
theorem dX6_countNear_16 : decode cX6_countNear 16 = .ok (.invokestatic 29, 3) := by decide +kernel
theorem dX6_countNear_19 : decode cX6_countNear 19 = .ok (.ifCond .eq 13, 3) := by decide +kernel
theorem dX6_countNear_22 : decode cX6_countNear 22 = .ok (.iload_n 3, 1) := by decide +kernel
theorem dX6_countNear_23 : decode cX6_countNear 23 = .ok (.aload_n 0, 1) := by decide +kernel
theorem dX6_countNear_24 : decode cX6_countNear 24 = .ok (.getfield 22, 3) := by decide +kernel
theorem dX6_countNear_27 : decode cX6_countNear 27 = .ok (.iload 4, 2) := by decide +kernel
theorem dX6_countNear_29 : decode cX6_countNear 29 = .ok (.iaload, 1) := by decide +kernel
theorem dX6_countNear_30 : decode cX6_countNear 30 = .ok (.iadd, 1) := by decide +kernel
theorem dX6_countNear_31 : decode cX6_countNear 31 = .ok (.istore_n 3, 1) := by decide +kernel
theorem dX6_countNear_32 : decode cX6_countNear 32 = .ok (.iinc 4 1, 3) := by decide +kernel
theorem dX6_countNear_35 : decode cX6_countNear 35 = .ok (.goto (-30), 3) := by decide +kernel
theorem dX6_countNear_38 : decode cX6_countNear 38 = .ok (.iload_n 3, 1) := by decide +kernel
theorem dX6_countNear_39 : decode cX6_countNear 39 = .ok (.ireturn, 1) := by decide +kernel
theorem dX6_isNear_0 : decode cX6_isNear 0 = .ok (.iload_n 0, 1) := by decide +kernel
theorem dX6_isNear_1 : decode cX6_isNear 1 = .ok (.iload_n 1, 1) := by decide +kernel
theorem dX6_isNear_2 : decode cX6_isNear 2 = .ok (.isub, 1) := by decide +kernel
theorem dX6_isNear_3 : decode cX6_isNear 3 = .ok (.invokestatic 59, 3) := by decide +kernel
theorem dX6_isNear_6 : decode cX6_isNear 6 = .ok (.iload_n 2, 1) := by decide +kernel
theorem dX6_isNear_7 : decode cX6_isNear 7 = .ok (.if_icmp .gt 7, 3) := by decide +kernel
theorem dX6_isNear_10 : decode cX6_isNear 10 = .ok (.iconst 1, 1) := by decide +kernel
theorem dX6_isNear_11 : decode cX6_isNear 11 = .ok (.goto 4, 3) := by decide +kernel
theorem dX6_isNear_14 : decode cX6_isNear 14 = .ok (.iconst 0, 1) := by decide +kernel
theorem dX6_isNear_15 : decode cX6_isNear 15 = .ok (.ireturn, 1) := by decide +kernel
theorem dX7_init_0 : decode cX7_init 0 = .ok (.aload_n 0, 1) := by decide +kernel
theorem dX7_init_1 : decode cX7_init 1 = .ok (.invokespecial 3, 3) := by decide +kernel
theorem dX7_init_4 : decode cX7_init 4 = .ok (.aload_n 0, 1) := by decide +kernel
theorem dX7_init_5 : decode cX7_init 5 = .ok (.new 9, 3) := by decide +kernel
theorem dX7_init_8 : decode cX7_init 8 = .ok (.dup, 1) := by decide +kernel
theorem dX7_init_9 : decode cX7_init 9 = .ok (.invokespecial 11, 3) := by decide +kernel
theorem dX7_init_12 : decode cX7_init 12 = .ok (.putfield 12, 3) := by decide +kernel
theorem dX7_init_15 : decode cX7_init 15 = .ok (.return_, 1) := by decide +kernel
theorem dX7_follow_0 : decode cX7_follow 0 = .ok (.aload_n 0, 1) := by decide +kernel
theorem dX7_follow_1 : decode cX7_follow 1 = .ok (.aload_n 1, 1) := by decide +kernel
theorem dX7_follow_2 : decode cX7_follow 2 = .ok (.invokevirtual 18, 3) := by decide +kernel
theorem dX7_follow_5 : decode cX7_follow 5 = .ok (.iconst 0, 1) := by decide +kernel
theorem dX7_follow_6 : decode cX7_follow 6 = .ok (.istore_n 3, 1) := by decide +kernel
theorem dX7_follow_7 : decode cX7_follow 7 = .ok (.iconst 0, 1) := by decide +kernel
theorem dX7_follow_8 : decode cX7_follow 8 = .ok (.istore 4, 2) := by decide +kernel
theorem dX7_follow_10 : decode cX7_follow 10 = .ok (.iconst 0, 1) := by decide +kernel
theorem dX7_follow_11 : decode cX7_follow 11 = .ok (.istore 5, 2) := by decide +kernel
theorem dX7_follow_13 : decode cX7_follow 13 = .ok (.iload 5, 2) := by decide +kernel
theorem dX7_follow_15 : decode cX7_follow 15 = .ok (.aload_n 2, 1) := by decide +kernel
theorem dX7_follow_16 : decode cX7_follow 16 = .ok (.getfield 22, 3) := by decide +kernel
theorem dX7_follow_19 : decode cX7_follow 19 = .ok (.if_icmp .ge 113, 3) := by decide +kernel
theorem dX7_follow_22 : decode cX7_follow 22 = .ok (.aload_n 0, 1) := by decide +kernel
theorem dX7_follow_23 : decode cX7_follow 23 = .ok (.getfield 28, 3) := by decide +kernel
theorem dX7_follow_26 : decode cX7_follow 26 = .ok (.bipush (-6), 2) := by decide +kernel
theorem dX7_follow_28 : decode cX7_follow 28 = .ok (.if_icmp .ne 104, 3) := by decide +kernel
theorem dX7_follow_31 : decode cX7_follow 31 = .ok (.aload_n 2, 1) := by decide +kernel
theorem dX7_follow_32 : decode cX7_follow 32 = .ok (.getfield 31, 3) := by decide +kernel
theorem dX7_follow_35 : decode cX7_follow 35 = .ok (.iload 5, 2) := by decide +kernel
theorem dX7_follow_37 : decode cX7_follow 37 = .ok (.iaload, 1) := by decide +kernel
theorem dX7_follow_38 : decode cX7_follow 38 = .ok (.istore 6, 2) := by decide +kernel
theorem dX7_follow_40 : decode cX7_follow 40 = .ok (.iload 4, 2) := by decide +kernel
theorem dX7_follow_42 : decode cX7_follow 42 = .ok (.ifCond .eq 21, 3) := by decide +kernel
theorem dX7_follow_45 : decode cX7_follow 45 = .ok (.aload_n 0, 1) := by decide +kernel
theorem dX7_follow_46 : decode cX7_follow 46 = .ok (.iload_n 3, 1) := by decide +kernel
theorem dX7_follow_47 : decode cX7_follow 47 = .ok (.iload 4, 2) := by decide +kernel
theorem dX7_follow_49 : decode cX7_follow 49 = .ok (.iload 6, 2) := by decide +kernel
theorem dX7_follow_51 : decode cX7_follow 51 = .ok (.bipush 48, 2) := by decide +kernel
theorem dX7_follow_53 : decode cX7_follow 53 = .ok (.isub, 1) := by decide +kernel
theorem dX7_follow_54 : decode cX7_follow 54 = .ok (.invokevirtual 35, 3) := by decide +kernel
theorem dX7_follow_57 : decode cX7_follow 57 = .ok (.iconst 0, 1) := by decide +kernel
theorem dX7_follow_58 : decode cX7_follow 58 = .ok (.istore 4, 2) := by decide +kernel
theorem dX7_follow_60 : decode cX7_follow 60 = .ok (.goto 66, 3) := by decide +kernel
theorem dX7_follow_63 : decode cX7_follow 63 = .ok (.iload 6, 2) := by decide +kernel
theorem dX7_follow_65 : decode cX7_follow 65 = .ok (.invokestatic 39, 3) := by decide +kernel
theorem dX7_follow_68 : decode cX7_follow 68 = .ok (.ifCond .eq 12, 3) := by decide +kernel
theorem dX7_follow_71 : decode cX7_follow 71 = .ok (.iload 6, 2) := by decide +kernel
theorem dX7_follow_73 : decode cX7_follow 73 = .ok (.bipush 65, 2) := by decide +kernel
theorem dX7_follow_75 : decode cX7_follow 75 = .ok (.isub, 1) := by decide +kernel
theorem dX7_follow_76 : decode cX7_follow 76 = .ok (.istore_n 3, 1) := by decide +kernel
theorem dX7_follow_77 : decode cX7_follow 77 = .ok (.goto 49, 3) := by decide +kernel
theorem dX7_follow_80 : decode cX7_follow 80 = .ok (.iload 6, 2) := by decide +kernel
theorem dX7_follow_82 : decode cX7_follow 82 = .ok (.invokestatic 43, 3) := by decide +kernel
theorem dX7_follow_85 : decode cX7_follow 85 = .ok (.ifCond .eq 10, 3) := by decide +kernel
theorem dX7_follow_88 : decode cX7_follow 88 = .ok (.iload 6, 2) := by decide +kernel
theorem dX7_follow_90 : decode cX7_follow 90 = .ok (.istore 4, 2) := by decide +kernel
theorem dX7_follow_92 : decode cX7_follow 92 = .ok (.goto 34, 3) := by decide +kernel
theorem dX7_follow_95 : decode cX7_follow 95 = .ok (.iload 6, 2) := by decide +kernel
theorem dX7_follow_97 : decode cX7_follow 97 = .ok (.invokestatic 46, 3) := by decide +kernel
theorem dX7_follow_100 : decode cX7_follow 100 = .ok (.ifCond .eq 18, 3) := by decide +kernel
theorem dX7_follow_103 : decode cX7_follow 103 = .ok (.aload_n 0, 1) := by decide +kernel
theorem dX7_follow_104 : decode cX7_follow 104 = .ok (.iload_n 3, 1) := by decide +kernel
theorem dX7_follow_105 : decode cX7_follow 105 = .ok (.bipush 48, 2) := by decide +kernel
theorem dX7_follow_107 : decode cX7_follow 107 = .ok (.iload 6, 2) := by decide +kernel
theorem dX7_follow_109 : decode cX7_follow 109 = .ok (.bipush 48, 2) := by decide +kernel
theorem dX7_follow_111 : decode cX7_follow 111 = .ok (.isub, 1) := by decide +kernel
theorem dX7_follow_112 : decode cX7_follow 112 = .ok (.invokevirtual 35, 3) := by decide +kernel
theorem dX7_follow_115 : decode cX7_follow 115 = .ok (.goto 11, 3) := by decide +kernel
theorem dX7_follow_118 : decode cX7_follow 118 = .ok (.aload_n 0, 1) := by decide +kernel
theorem dX7_follow_119 : decode cX7_follow 119 = .ok (.iload_n 3, 1) := by decide +kernel
theorem dX7_follow_120 : decode cX7_follow 120 = .ok (.iload 6, 2) := by decide +kernel
theorem dX7_follow_122 : decode cX7_follow 122 = .ok (.iconst 0, 1) := by decide +kernel
theorem dX7_follow_123 : decode cX7_follow 123 = .ok (.invokevirtual 35, 3) := by decide +kernel
theorem dX7_follow_126 : decode cX7_follow 126 = .ok (.iinc 5 1, 3) := by decide +kernel
theorem dX7_follow_129 : decode cX7_follow 129 = .ok (.goto (-116), 3) := by decide +kernel
theorem dX7_follow_132 : decode cX7_follow 132 = .ok (.return_, 1) := by decide +kernel
theorem dX7_draw_0 : decode cX7_draw 0 = .ok (.aload_n 0, 1) := by decide +kernel
theorem dX7_draw_1 : decode cX7_draw 1 = .ok (.aload_n 1, 1) := by decide +kernel
theorem dX7_draw_2 : decode cX7_draw 2 = .ok (.invokevirtual 18, 3) := by decide +kernel
theorem dX7_draw_5 : decode cX7_draw 5 = .ok (.iload_n 2, 1) := by decide +kernel
theorem dX7_draw_6 : decode cX7_draw 6 = .ok (.istore 4, 2) := by decide +kernel
theorem dX7_draw_8 : decode cX7_draw 8 = .ok (.iconst 0, 1) := by decide +kernel
theorem dX7_draw_9 : decode cX7_draw 9 = .ok (.istore 5, 2) := by decide +kernel
theorem dX7_draw_11 : decode cX7_draw 11 = .ok (.iload 5, 2) := by decide +kernel
theorem dX7_draw_13 : decode cX7_draw 13 = .ok (.iload_n 3, 1) := by decide +kernel
theorem dX7_draw_14 : decode cX7_draw 14 = .ok (.if_icmp .ge 87, 3) := by decide +kernel
theorem dX7_draw_17 : decode cX7_draw 17 = .ok (.bipush 75, 2) := by decide +kernel
theorem dX7_draw_19 : decode cX7_draw 19 = .ok (.iload 4, 2) := by decide +kernel
theorem dX7_draw_21 : decode cX7_draw 21 = .ok (.imul, 1) := by decide +kernel
theorem dX7_draw_22 : decode cX7_draw 22 = .ok (.bipush 74, 2) := by decide +kernel
theorem dX7_draw_24 : decode cX7_draw 24 = .ok (.iadd, 1) := by decide +kernel
theorem dX7_draw_25 : decode cX7_draw 25 = .ok (.ldc 49, 2) := by decide +kernel
theorem dX7_draw_27 : decode cX7_draw 27 = .ok (.irem, 1) := by decide +kernel
theorem dX7_draw_28 : decode cX7_draw 28 = .ok (.istore 4, 2) := by decide +kernel
theorem dX7_draw_30 : decode cX7_draw 30 = .ok (.iload 4, 2) := by decide +kernel
theorem dX7_draw_32 : decode cX7_draw 32 = .ok (.bipush 6, 2) := by decide +kernel
theorem dX7_draw_34 : decode cX7_draw 34 = .ok (.idiv, 1) := by decide +kernel
theorem dX7_draw_35 : decode cX7_draw 35 = .ok (.bipush 8, 2) := by decide +kernel
theorem dX7_draw_37 : decode cX7_draw 37 = .ok (.irem, 1) := by decide +kernel
theorem dX7_draw_38 : decode cX7_draw 38 = .ok (.iload 4, 2) := by decide +kernel
theorem dX7_draw_40 : decode cX7_draw 40 = .ok (.bipush 48, 2) := by decide +kernel
theorem dX7_draw_42 : decode cX7_draw 42 = .ok (.idiv, 1) := by decide +kernel
theorem dX7_draw_43 : decode cX7_draw 43 = .ok (.invokestatic 50, 3) := by decide +kernel
theorem dX7_draw_46 : decode cX7_draw 46 = .ok (.istore 6, 2) := by decide +kernel
theorem dX7_draw_48 : decode cX7_draw 48 = .ok (.iload 4, 2) := by decide +kernel
theorem dX7_draw_50 : decode cX7_draw 50 = .ok (.bipush 48, 2) := by decide +kernel
theorem dX7_draw_52 : decode cX7_draw 52 = .ok (.idiv, 1) := by decide +kernel
theorem dX7_draw_53 : decode cX7_draw 53 = .ok (.bipush 9, 2) := by decide +kernel
theorem dX7_draw_55 : decode cX7_draw 55 = .ok (.irem, 1) := by decide +kernel
theorem dX7_draw_56 : decode cX7_draw 56 = .ok (.iconst 1, 1) := by decide +kernel
theorem dX7_draw_57 : decode cX7_draw 57 = .ok (.iadd, 1) := by decide +kernel
theorem dX7_draw_58 : decode cX7_draw 58 = .ok (.istore 7, 2) := by decide +kernel
theorem dX7_draw_60 : decode cX7_draw 60 = .ok (.aload_n 0, 1) := by decide +kernel
theorem dX7_draw_61 : decode cX7_draw 61 = .ok (.getfield 12, 3) := by decide +kernel
theorem dX7_draw_64 : decode cX7_draw 64 = .ok (.iload 4, 2) := by decide +kernel
theorem dX7_draw_66 : decode cX7_draw 66 = .ok (.bipush 6, 2) := by decide +kernel
theorem dX7_draw_68 : decode cX7_draw 68 = .ok (.irem, 1) := by decide +kernel
theorem dX7_draw_69 : decode cX7_draw 69 = .ok (.iload 6, 2) := by decide +kernel
theorem dX7_draw_71 : decode cX7_draw 71 = .ok (.iload 7, 2) := by decide +kernel
theorem dX7_draw_73 : decode cX7_draw 73 = .ok (.invokevirtual 54, 3) := by decide +kernel
theorem dX7_draw_76 : decode cX7_draw 76 = .ok (.ifCond .ne 19, 3) := by decide +kernel
theorem dX7_draw_79 : decode cX7_draw 79 = .ok (.aload_n 0, 1) := by decide +kernel
theorem dX7_draw_80 : decode cX7_draw 80 = .ok (.getfield 12, 3) := by decide +kernel
theorem dX7_draw_83 : decode cX7_draw 83 = .ok (.iload 4, 2) := by decide +kernel
theorem dX7_draw_85 : decode cX7_draw 85 = .ok (.bipush 6, 2) := by decide +kernel
theorem dX7_draw_87 : decode cX7_draw 87 = .ok (.irem, 1) := by decide +kernel
theorem dX7_draw_88 : decode cX7_draw 88 = .ok (.iload 6, 2) := by decide +kernel
theorem dX7_draw_90 : decode cX7_draw 90 = .ok (.iload 7, 2) := by decide +kernel
theorem dX7_draw_92 : decode cX7_draw 92 = .ok (.invokevirtual 58, 3) := by decide +kernel
theorem dX7_draw_95 : decode cX7_draw 95 = .ok (.iinc 5 1, 3) := by decide +kernel
theorem dX7_draw_98 : decode cX7_draw 98 = .ok (.goto (-87), 3) := by decide +kernel
theorem dX7_draw_101 : decode cX7_draw 101 = .ok (.return_, 1) := by decide +kernel
theorem dX7_drawnKind_0 : decode cX7_drawnKind 0 = .ok (.iload_n 0, 1) := by decide +kernel
theorem dX7_drawnKind_1 : decode cX7_drawnKind 1 = .ok (.tableswitch 61 0 6 #[43, 43, 46, 49, 52, 55, 58], 43) := by decide +kernel
theorem dX7_drawnKind_44 : decode cX7_drawnKind 44 = .ok (.bipush 62, 2) := by decide +kernel
theorem dX7_drawnKind_46 : decode cX7_drawnKind 46 = .ok (.ireturn, 1) := by decide +kernel
theorem dX7_drawnKind_47 : decode cX7_drawnKind 47 = .ok (.bipush 60, 2) := by decide +kernel
theorem dX7_drawnKind_49 : decode cX7_drawnKind 49 = .ok (.ireturn, 1) := by decide +kernel
theorem dX7_drawnKind_50 : decode cX7_drawnKind 50 = .ok (.bipush 63, 2) := by decide +kernel
theorem dX7_drawnKind_52 : decode cX7_drawnKind 52 = .ok (.ireturn, 1) := by decide +kernel
theorem dX7_drawnKind_53 : decode cX7_drawnKind 53 = .ok (.bipush 42, 2) := by decide +kernel
theorem dX7_drawnKind_55 : decode cX7_drawnKind 55 = .ok (.ireturn, 1) := by decide +kernel
theorem dX7_drawnKind_56 : decode cX7_drawnKind 56 = .ok (.bipush 48, 2) := by decide +kernel
theorem dX7_drawnKind_58 : decode cX7_drawnKind 58 = .ok (.ireturn, 1) := by decide +kernel
theorem dX7_drawnKind_59 : decode cX7_drawnKind 59 = .ok (.bipush 126, 2) := by decide +kernel
theorem dX7_drawnKind_61 : decode cX7_drawnKind 61 = .ok (.ireturn, 1) := by decide +kernel
theorem dX7_drawnKind_62 : decode cX7_drawnKind 62 = .ok (.iload_n 1, 1) := by decide +kernel
theorem dX7_drawnKind_63 : decode cX7_drawnKind 63 = .ok (.bipush 8, 2) := by decide +kernel
theorem dX7_drawnKind_65 : decode cX7_drawnKind 65 = .ok (.irem, 1) := by decide +kernel
theorem dX7_drawnKind_66 : decode cX7_drawnKind 66 = .ok (.ifCond .ne 8, 3) := by decide +kernel
theorem dX7_drawnKind_69 : decode cX7_drawnKind 69 = .ok (.bipush 33, 2) := by decide +kernel
theorem dX7_drawnKind_71 : decode cX7_drawnKind 71 = .ok (.goto 5, 3) := by decide +kernel
theorem dX7_drawnKind_74 : decode cX7_drawnKind 74 = .ok (.bipush 46, 2) := by decide +kernel
theorem dX7_drawnKind_76 : decode cX7_drawnKind 76 = .ok (.ireturn, 1) := by decide +kernel
theorem dX7_begin_0 : decode cX7_begin 0 = .ok (.aload_n 0, 1) := by decide +kernel
theorem dX7_begin_1 : decode cX7_begin 1 = .ok (.getfield 12, 3) := by decide +kernel
theorem dX7_begin_4 : decode cX7_begin 4 = .ok (.aload_n 1, 1) := by decide +kernel
theorem dX7_begin_5 : decode cX7_begin 5 = .ok (.invokevirtual 61, 3) := by decide +kernel
theorem dX7_begin_8 : decode cX7_begin 8 = .ok (.aload_n 0, 1) := by decide +kernel
theorem dX7_begin_9 : decode cX7_begin 9 = .ok (.iconst 0, 1) := by decide +kernel
theorem dX7_begin_10 : decode cX7_begin 10 = .ok (.putfield 64, 3) := by decide +kernel
theorem dX7_begin_13 : decode cX7_begin 13 = .ok (.aload_n 0, 1) := by decide +kernel
theorem dX7_begin_14 : decode cX7_begin 14 = .ok (.bipush (-6), 2) := by decide +kernel
theorem dX7_begin_16 : decode cX7_begin 16 = .ok (.putfield 28, 3) := by decide +kernel
theorem dX7_begin_19 : decode cX7_begin 19 = .ok (.aload_n 0, 1) := by decide +kernel
theorem dX7_begin_20 : decode cX7_begin 20 = .ok (.bipush (-6), 2) := by decide +kernel
theorem dX7_begin_22 : decode cX7_begin 22 = .ok (.putfield 67, 3) := by decide +kernel
theorem dX7_begin_25 : decode cX7_begin 25 = .ok (.aload_n 0, 1) := by decide +kernel
theorem dX7_begin_26 : decode cX7_begin 26 = .ok (.iconst 0, 1) := by decide +kernel
theorem dX7_begin_27 : decode cX7_begin 27 = .ok (.putfield 70, 3) := by decide +kernel
theorem dX7_begin_30 : decode cX7_begin 30 = .ok (.aload_n 0, 1) := by decide +kernel
theorem dX7_begin_31 : decode cX7_begin 31 = .ok (.bipush (-6), 2) := by decide +kernel
theorem dX7_begin_33 : decode cX7_begin 33 = .ok (.putfield 73, 3) := by decide +kernel
theorem dX7_begin_36 : decode cX7_begin 36 = .ok (.aload_n 0, 1) := by decide +kernel
theorem dX7_begin_37 : decode cX7_begin 37 = .ok (.bipush (-6), 2) := by decide +kernel
theorem dX7_begin_39 : decode cX7_begin 39 = .ok (.putfield 76, 3) := by decide +kernel
theorem dX7_begin_42 : decode cX7_begin 42 = .ok (.return_, 1) := by decide +kernel
theorem dX7_attempt_0 : decode cX7_attempt 0 = .ok (.aload_n 0, 1) := by decide +kernel
theorem dX7_attempt_1 : decode cX7_attempt 1 = .ok (.getfield 12, 3) := by decide +kernel
theorem dX7_attempt_4 : decode cX7_attempt 4 = .ok (.iload_n 1, 1) := by decide +kernel
theorem dX7_attempt_5 : decode cX7_attempt 5 = .ok (.iload_n 2, 1) := by decide +kernel
theorem dX7_attempt_6 : decode cX7_attempt 6 = .ok (.iload_n 3, 1) := by decide +kernel
theorem dX7_attempt_7 : decode cX7_attempt 7 = .ok (.invokevirtual 54, 3) := by decide +kernel
theorem dX7_attempt_10 : decode cX7_attempt 10 = .ok (.istore 4, 2) := by decide +kernel
theorem dX7_attempt_12 : decode cX7_attempt 12 = .ok (.iload 4, 2) := by decide +kernel
theorem dX7_attempt_14 : decode cX7_attempt 14 = .ok (.ifCond .eq 18, 3) := by decide +kernel
theorem dX7_attempt_17 : decode cX7_attempt 17 = .ok (.aload_n 0, 1) := by decide +kernel
theorem dX7_attempt_18 : decode cX7_attempt 18 = .ok (.aload_n 0, 1) := by decide +kernel
theorem dX7_attempt_19 : decode cX7_attempt 19 = .ok (.getfield 64, 3) := by decide +kernel
theorem dX7_attempt_22 : decode cX7_attempt 22 = .ok (.putfield 28, 3) := by decide +kernel
theorem dX7_attempt_25 : decode cX7_attempt 25 = .ok (.aload_n 0, 1) := by decide +kernel
theorem dX7_attempt_26 : decode cX7_attempt 26 = .ok (.iload 4, 2) := by decide +kernel
theorem dX7_attempt_28 : decode cX7_attempt 28 = .ok (.putfield 67, 3) := by decide +kernel
theorem dX7_attempt_31 : decode cX7_attempt 31 = .ok (.return_, 1) := by decide +kernel
theorem dX7_attempt_32 : decode cX7_attempt 32 = .ok (.iload_n 2, 1) := by decide +kernel
theorem dX7_attempt_33 : decode cX7_attempt 33 = .ok (.bipush 63, 2) := by decide +kernel
theorem dX7_attempt_35 : decode cX7_attempt 35 = .ok (.if_icmp .ne 24, 3) := by decide +kernel
theorem dX7_attempt_38 : decode cX7_attempt 38 = .ok (.aload_n 0, 1) := by decide +kernel
theorem dX7_attempt_39 : decode cX7_attempt 39 = .ok (.getfield 12, 3) := by decide +kernel
theorem dX7_attempt_42 : decode cX7_attempt 42 = .ok (.iload_n 1, 1) := by decide +kernel
theorem dX7_attempt_43 : decode cX7_attempt 43 = .ok (.invokevirtual 79, 3) := by decide +kernel
theorem dX7_attempt_46 : decode cX7_attempt 46 = .ok (.ifCond .eq 13, 3) := by decide +kernel
theorem dX7_attempt_49 : decode cX7_attempt 49 = .ok (.aload_n 0, 1) := by decide +kernel
theorem dX7_attempt_50 : decode cX7_attempt 50 = .ok (.dup, 1) := by decide +kernel
theorem dX7_attempt_51 : decode cX7_attempt 51 = .ok (.getfield 70, 3) := by decide +kernel
theorem dX7_attempt_54 : decode cX7_attempt 54 = .ok (.iconst 1, 1) := by decide +kernel
theorem dX7_attempt_55 : decode cX7_attempt 55 = .ok (.iadd, 1) := by decide +kernel
theorem dX7_attempt_56 : decode cX7_attempt 56 = .ok (.putfield 70, 3) := by decide +kernel
theorem dX7_attempt_59 : decode cX7_attempt 59 = .ok (.iload_n 2, 1) := by decide +kernel
theorem dX7_attempt_60 : decode cX7_attempt 60 = .ok (.bipush 33, 2) := by decide +kernel
theorem dX7_attempt_62 : decode cX7_attempt 62 = .ok (.if_icmp .ne 36, 3) := by decide +kernel
theorem dX7_attempt_65 : decode cX7_attempt 65 = .ok (.aload_n 0, 1) := by decide +kernel
theorem dX7_attempt_66 : decode cX7_attempt 66 = .ok (.getfield 73, 3) := by decide +kernel
theorem dX7_attempt_69 : decode cX7_attempt 69 = .ok (.bipush (-6), 2) := by decide +kernel
theorem dX7_attempt_71 : decode cX7_attempt 71 = .ok (.if_icmp .ne 27, 3) := by decide +kernel
theorem dX7_attempt_74 : decode cX7_attempt 74 = .ok (.aload_n 0, 1) := by decide +kernel
theorem dX7_attempt_75 : decode cX7_attempt 75 = .ok (.getfield 12, 3) := by decide +kernel
theorem dX7_attempt_78 : decode cX7_attempt 78 = .ok (.iload_n 1, 1) := by decide +kernel
theorem dX7_attempt_79 : decode cX7_attempt 79 = .ok (.invokevirtual 82, 3) := by decide +kernel
theorem dX7_attempt_82 : decode cX7_attempt 82 = .ok (.ifCond .ne 16, 3) := by decide +kernel
theorem dX7_attempt_85 : decode cX7_attempt 85 = .ok (.aload_n 0, 1) := by decide +kernel
theorem dX7_attempt_86 : decode cX7_attempt 86 = .ok (.aload_n 0, 1) := by decide +kernel
theorem dX7_attempt_87 : decode cX7_attempt 87 = .ok (.getfield 64, 3) := by decide +kernel
theorem dX7_attempt_90 : decode cX7_attempt 90 = .ok (.putfield 73, 3) := by decide +kernel
theorem dX7_attempt_93 : decode cX7_attempt 93 = .ok (.aload_n 0, 1) := by decide +kernel
theorem dX7_attempt_94 : decode cX7_attempt 94 = .ok (.iload_n 1, 1) := by decide +kernel
theorem dX7_attempt_95 : decode cX7_attempt 95 = .ok (.putfield 76, 3) := by decide +kernel
theorem dX7_attempt_98 : decode cX7_attempt 98 = .ok (.aload_n 0, 1) := by decide +kernel
theorem dX7_attempt_99 : decode cX7_attempt 99 = .ok (.getfield 12, 3) := by decide +kernel
theorem dX7_attempt_102 : decode cX7_attempt 102 = .ok (.iload_n 1, 1) := by decide +kernel
end
section
theorem dX7_attempt_103 : decode cX7_attempt 103 = .ok (.iload_n 2, 1) := by decide +kernel
theorem dX7_attempt_104 : decode cX7_attempt 104 = .ok (.iload_n 3, 1) := by decide +kernel
theorem dX7_attempt_105 : decode cX7_attempt 105 = .ok (.invokevirtual 58, 3) := by decide +kernel
theorem dX7_attempt_108 : decode cX7_attempt 108 = .ok (.aload_n 0, 1) := by decide +kernel
theorem dX7_attempt_109 : decode cX7_attempt 109 = .ok (.dup, 1) := by decide +kernel
theorem dX7_attempt_110 : decode cX7_attempt 110 = .ok (.getfield 64, 3) := by decide +kernel
theorem dX7_attempt_113 : decode cX7_attempt 113 = .ok (.iconst 1, 1) := by decide +kernel
theorem dX7_attempt_114 : decode cX7_attempt 114 = .ok (.iadd, 1) := by decide +kernel
theorem dX7_attempt_115 : decode cX7_attempt 115 = .ok (.putfield 64, 3) := by decide +kernel
theorem dX7_attempt_118 : decode cX7_attempt 118 = .ok (.return_, 1) := by decide +kernel
theorem dX8_init_0 : decode cX8_init 0 = .ok (.aload_n 0, 1) := by decide +kernel
theorem dX8_init_1 : decode cX8_init 1 = .ok (.invokespecial 1, 3) := by decide +kernel
theorem dX8_init_4 : decode cX8_init 4 = .ok (.aload_n 0, 1) := by decide +kernel
theorem dX8_init_5 : decode cX8_init 5 = .ok (.new 7, 3) := by decide +kernel
theorem dX8_init_8 : decode cX8_init 8 = .ok (.dup, 1) := by decide +kernel
theorem dX8_init_9 : decode cX8_init 9 = .ok (.invokespecial 9, 3) := by decide +kernel
theorem dX8_init_12 : decode cX8_init 12 = .ok (.putfield 10, 3) := by decide +kernel
theorem dX8_init_15 : decode cX8_init 15 = .ok (.aload_n 0, 1) := by decide +kernel
theorem dX8_init_16 : decode cX8_init 16 = .ok (.new 16, 3) := by decide +kernel
theorem dX8_init_19 : decode cX8_init 19 = .ok (.dup, 1) := by decide +kernel
theorem dX8_init_20 : decode cX8_init 20 = .ok (.invokespecial 18, 3) := by decide +kernel
theorem dX8_init_23 : decode cX8_init 23 = .ok (.putfield 19, 3) := by decide +kernel
theorem dX8_init_26 : decode cX8_init 26 = .ok (.aload_n 0, 1) := by decide +kernel
theorem dX8_init_27 : decode cX8_init 27 = .ok (.new 23, 3) := by decide +kernel
theorem dX8_init_30 : decode cX8_init 30 = .ok (.dup, 1) := by decide +kernel
theorem dX8_init_31 : decode cX8_init 31 = .ok (.invokespecial 25, 3) := by decide +kernel
theorem dX8_init_34 : decode cX8_init 34 = .ok (.putfield 26, 3) := by decide +kernel
theorem dX8_init_37 : decode cX8_init 37 = .ok (.aload_n 0, 1) := by decide +kernel
theorem dX8_init_38 : decode cX8_init 38 = .ok (.new 30, 3) := by decide +kernel
theorem dX8_init_41 : decode cX8_init 41 = .ok (.dup, 1) := by decide +kernel
theorem dX8_init_42 : decode cX8_init 42 = .ok (.invokespecial 32, 3) := by decide +kernel
theorem dX8_init_45 : decode cX8_init 45 = .ok (.putfield 33, 3) := by decide +kernel
theorem dX8_init_48 : decode cX8_init 48 = .ok (.aload_n 0, 1) := by decide +kernel
theorem dX8_init_49 : decode cX8_init 49 = .ok (.new 37, 3) := by decide +kernel
theorem dX8_init_52 : decode cX8_init 52 = .ok (.dup, 1) := by decide +kernel
theorem dX8_init_53 : decode cX8_init 53 = .ok (.invokespecial 39, 3) := by decide +kernel
theorem dX8_init_56 : decode cX8_init 56 = .ok (.putfield 40, 3) := by decide +kernel
theorem dX8_init_59 : decode cX8_init 59 = .ok (.aload_n 0, 1) := by decide +kernel
theorem dX8_init_60 : decode cX8_init 60 = .ok (.iconst 2, 1) := by decide +kernel
theorem dX8_init_61 : decode cX8_init 61 = .ok (.anewarray 7, 3) := by decide +kernel
theorem dX8_init_64 : decode cX8_init 64 = .ok (.putfield 44, 3) := by decide +kernel
theorem dX8_init_67 : decode cX8_init 67 = .ok (.aload_n 0, 1) := by decide +kernel
theorem dX8_init_68 : decode cX8_init 68 = .ok (.iconst 2, 1) := by decide +kernel
theorem dX8_init_69 : decode cX8_init 69 = .ok (.anewarray 16, 3) := by decide +kernel
theorem dX8_init_72 : decode cX8_init 72 = .ok (.putfield 48, 3) := by decide +kernel
theorem dX8_init_75 : decode cX8_init 75 = .ok (.aload_n 0, 1) := by decide +kernel
theorem dX8_init_76 : decode cX8_init 76 = .ok (.iconst 2, 1) := by decide +kernel
theorem dX8_init_77 : decode cX8_init 77 = .ok (.newarray .boolean, 2) := by decide +kernel
theorem dX8_init_79 : decode cX8_init 79 = .ok (.putfield 52, 3) := by decide +kernel
theorem dX8_init_82 : decode cX8_init 82 = .ok (.iconst 0, 1) := by decide +kernel
theorem dX8_init_83 : decode cX8_init 83 = .ok (.istore_n 1, 1) := by decide +kernel
theorem dX8_init_84 : decode cX8_init 84 = .ok (.iload_n 1, 1) := by decide +kernel
theorem dX8_init_85 : decode cX8_init 85 = .ok (.iconst 2, 1) := by decide +kernel
theorem dX8_init_86 : decode cX8_init 86 = .ok (.if_icmp .ge 35, 3) := by decide +kernel
theorem dX8_init_89 : decode cX8_init 89 = .ok (.aload_n 0, 1) := by decide +kernel
theorem dX8_init_90 : decode cX8_init 90 = .ok (.getfield 44, 3) := by decide +kernel
theorem dX8_init_93 : decode cX8_init 93 = .ok (.iload_n 1, 1) := by decide +kernel
theorem dX8_init_94 : decode cX8_init 94 = .ok (.new 7, 3) := by decide +kernel
theorem dX8_init_97 : decode cX8_init 97 = .ok (.dup, 1) := by decide +kernel
theorem dX8_init_98 : decode cX8_init 98 = .ok (.invokespecial 9, 3) := by decide +kernel
theorem dX8_init_101 : decode cX8_init 101 = .ok (.aastore, 1) := by decide +kernel
theorem dX8_init_102 : decode cX8_init 102 = .ok (.aload_n 0, 1) := by decide +kernel
theorem dX8_init_103 : decode cX8_init 103 = .ok (.getfield 48, 3) := by decide +kernel
theorem dX8_init_106 : decode cX8_init 106 = .ok (.iload_n 1, 1) := by decide +kernel
theorem dX8_init_107 : decode cX8_init 107 = .ok (.new 16, 3) := by decide +kernel
theorem dX8_init_110 : decode cX8_init 110 = .ok (.dup, 1) := by decide +kernel
theorem dX8_init_111 : decode cX8_init 111 = .ok (.invokespecial 18, 3) := by decide +kernel
theorem dX8_init_114 : decode cX8_init 114 = .ok (.aastore, 1) := by decide +kernel
theorem dX8_init_115 : decode cX8_init 115 = .ok (.iinc 1 1, 3) := by decide +kernel
theorem dX8_init_118 : decode cX8_init 118 = .ok (.goto (-34), 3) := by decide +kernel
theorem dX8_init_121 : decode cX8_init 121 = .ok (.return_, 1) := by decide +kernel
theorem dX8_cradle_0 : decode cX8_cradle 0 = .ok (.iload_n 1, 1) := by decide +kernel
theorem dX8_cradle_1 : decode cX8_cradle 1 = .ok (.invokestatic 56, 3) := by decide +kernel
theorem dX8_cradle_4 : decode cX8_cradle 4 = .ok (.ifCond .eq 17, 3) := by decide +kernel
theorem dX8_cradle_7 : decode cX8_cradle 7 = .ok (.iload 4, 2) := by decide +kernel
theorem dX8_cradle_9 : decode cX8_cradle 9 = .ok (.iconst (-1), 1) := by decide +kernel
theorem dX8_cradle_10 : decode cX8_cradle 10 = .ok (.if_icmp .eq 13, 3) := by decide +kernel
theorem dX8_cradle_13 : decode cX8_cradle 13 = .ok (.iload 4, 2) := by decide +kernel
theorem dX8_cradle_15 : decode cX8_cradle 15 = .ok (.invokestatic 60, 3) := by decide +kernel
theorem dX8_cradle_18 : decode cX8_cradle 18 = .ok (.ifCond .ne 5, 3) := by decide +kernel
theorem dX8_cradle_21 : decode cX8_cradle 21 = .ok (.iconst (-1), 1) := by decide +kernel
theorem dX8_cradle_22 : decode cX8_cradle 22 = .ok (.ireturn, 1) := by decide +kernel
theorem dX8_cradle_23 : decode cX8_cradle 23 = .ok (.iload_n 2, 1) := by decide +kernel
theorem dX8_cradle_24 : decode cX8_cradle 24 = .ok (.invokestatic 63, 3) := by decide +kernel
theorem dX8_cradle_27 : decode cX8_cradle 27 = .ok (.ifCond .eq 12, 3) := by decide +kernel
theorem dX8_cradle_30 : decode cX8_cradle 30 = .ok (.iload_n 3, 1) := by decide +kernel
theorem dX8_cradle_31 : decode cX8_cradle 31 = .ok (.iconst 0, 1) := by decide +kernel
theorem dX8_cradle_32 : decode cX8_cradle 32 = .ok (.iconst 1, 1) := by decide +kernel
theorem dX8_cradle_33 : decode cX8_cradle 33 = .ok (.invokestatic 66, 3) := by decide +kernel
theorem dX8_cradle_36 : decode cX8_cradle 36 = .ok (.ifCond .ne 6, 3) := by decide +kernel
theorem dX8_cradle_39 : decode cX8_cradle 39 = .ok (.bipush (-2), 2) := by decide +kernel
theorem dX8_cradle_41 : decode cX8_cradle 41 = .ok (.ireturn, 1) := by decide +kernel
theorem dX8_cradle_42 : decode cX8_cradle 42 = .ok (.aload_n 0, 1) := by decide +kernel
theorem dX8_cradle_43 : decode cX8_cradle 43 = .ok (.getfield 10, 3) := by decide +kernel
theorem dX8_cradle_46 : decode cX8_cradle 46 = .ok (.getfield 70, 3) := by decide +kernel
theorem dX8_cradle_49 : decode cX8_cradle 49 = .ok (.iload_n 1, 1) := by decide +kernel
theorem dX8_cradle_50 : decode cX8_cradle 50 = .ok (.iaload, 1) := by decide +kernel
theorem dX8_cradle_51 : decode cX8_cradle 51 = .ok (.istore 5, 2) := by decide +kernel
theorem dX8_cradle_53 : decode cX8_cradle 53 = .ok (.aload_n 0, 1) := by decide +kernel
theorem dX8_cradle_54 : decode cX8_cradle 54 = .ok (.getfield 10, 3) := by decide +kernel
theorem dX8_cradle_57 : decode cX8_cradle 57 = .ok (.getfield 70, 3) := by decide +kernel
theorem dX8_cradle_60 : decode cX8_cradle 60 = .ok (.iload_n 1, 1) := by decide +kernel
theorem dX8_cradle_61 : decode cX8_cradle 61 = .ok (.iload_n 2, 1) := by decide +kernel
theorem dX8_cradle_62 : decode cX8_cradle 62 = .ok (.iastore, 1) := by decide +kernel
theorem dX8_cradle_63 : decode cX8_cradle 63 = .ok (.aload_n 0, 1) := by decide +kernel
theorem dX8_cradle_64 : decode cX8_cradle 64 = .ok (.getfield 10, 3) := by decide +kernel
theorem dX8_cradle_67 : decode cX8_cradle 67 = .ok (.getfield 74, 3) := by decide +kernel
theorem dX8_cradle_70 : decode cX8_cradle 70 = .ok (.iload_n 1, 1) := by decide +kernel
theorem dX8_cradle_71 : decode cX8_cradle 71 = .ok (.iload_n 3, 1) := by decide +kernel
theorem dX8_cradle_72 : decode cX8_cradle 72 = .ok (.iastore, 1) := by decide +kernel
theorem dX8_cradle_73 : decode cX8_cradle 73 = .ok (.aload_n 0, 1) := by decide +kernel
theorem dX8_cradle_74 : decode cX8_cradle 74 = .ok (.getfield 10, 3) := by decide +kernel
theorem dX8_cradle_77 : decode cX8_cradle 77 = .ok (.getfield 77, 3) := by decide +kernel
theorem dX8_cradle_80 : decode cX8_cradle 80 = .ok (.iload_n 1, 1) := by decide +kernel
theorem dX8_cradle_81 : decode cX8_cradle 81 = .ok (.iload 4, 2) := by decide +kernel
theorem dX8_cradle_83 : decode cX8_cradle 83 = .ok (.iconst (-1), 1) := by decide +kernel
theorem dX8_cradle_84 : decode cX8_cradle 84 = .ok (.if_icmp .ne 8, 3) := by decide +kernel
theorem dX8_cradle_87 : decode cX8_cradle 87 = .ok (.bipush (-6), 2) := by decide +kernel
theorem dX8_cradle_89 : decode cX8_cradle 89 = .ok (.goto 5, 3) := by decide +kernel
theorem dX8_cradle_92 : decode cX8_cradle 92 = .ok (.iload 4, 2) := by decide +kernel
theorem dX8_cradle_94 : decode cX8_cradle 94 = .ok (.iastore, 1) := by decide +kernel
theorem dX8_cradle_95 : decode cX8_cradle 95 = .ok (.iload 5, 2) := by decide +kernel
theorem dX8_cradle_97 : decode cX8_cradle 97 = .ok (.ireturn, 1) := by decide +kernel
theorem dX8_heir_0 : decode cX8_heir 0 = .ok (.iload_n 1, 1) := by decide +kernel
theorem dX8_heir_1 : decode cX8_heir 1 = .ok (.invokestatic 60, 3) := by decide +kernel
theorem dX8_heir_4 : decode cX8_heir 4 = .ok (.ifCond .eq 10, 3) := by decide +kernel
theorem dX8_heir_7 : decode cX8_heir 7 = .ok (.iload_n 2, 1) := by decide +kernel
theorem dX8_heir_8 : decode cX8_heir 8 = .ok (.invokestatic 56, 3) := by decide +kernel
theorem dX8_heir_11 : decode cX8_heir 11 = .ok (.ifCond .ne 5, 3) := by decide +kernel
theorem dX8_heir_14 : decode cX8_heir 14 = .ok (.iconst (-1), 1) := by decide +kernel
theorem dX8_heir_15 : decode cX8_heir 15 = .ok (.ireturn, 1) := by decide +kernel
theorem dX8_heir_16 : decode cX8_heir 16 = .ok (.iload_n 3, 1) := by decide +kernel
theorem dX8_heir_17 : decode cX8_heir 17 = .ok (.invokestatic 63, 3) := by decide +kernel
theorem dX8_heir_20 : decode cX8_heir 20 = .ok (.ifCond .ne 6, 3) := by decide +kernel
theorem dX8_heir_23 : decode cX8_heir 23 = .ok (.bipush (-2), 2) := by decide +kernel
theorem dX8_heir_25 : decode cX8_heir 25 = .ok (.ireturn, 1) := by decide +kernel
theorem dX8_heir_26 : decode cX8_heir 26 = .ok (.aload_n 0, 1) := by decide +kernel
theorem dX8_heir_27 : decode cX8_heir 27 = .ok (.getfield 10, 3) := by decide +kernel
theorem dX8_heir_30 : decode cX8_heir 30 = .ok (.getfield 80, 3) := by decide +kernel
theorem dX8_heir_33 : decode cX8_heir 33 = .ok (.iload_n 1, 1) := by decide +kernel
theorem dX8_heir_34 : decode cX8_heir 34 = .ok (.iaload, 1) := by decide +kernel
theorem dX8_heir_35 : decode cX8_heir 35 = .ok (.istore 4, 2) := by decide +kernel
theorem dX8_heir_37 : decode cX8_heir 37 = .ok (.aload_n 0, 1) := by decide +kernel
theorem dX8_heir_38 : decode cX8_heir 38 = .ok (.getfield 10, 3) := by decide +kernel
theorem dX8_heir_41 : decode cX8_heir 41 = .ok (.getfield 80, 3) := by decide +kernel
theorem dX8_heir_44 : decode cX8_heir 44 = .ok (.iload_n 1, 1) := by decide +kernel
theorem dX8_heir_45 : decode cX8_heir 45 = .ok (.iload_n 2, 1) := by decide +kernel
theorem dX8_heir_46 : decode cX8_heir 46 = .ok (.iastore, 1) := by decide +kernel
theorem dX8_heir_47 : decode cX8_heir 47 = .ok (.aload_n 0, 1) := by decide +kernel
theorem dX8_heir_48 : decode cX8_heir 48 = .ok (.getfield 10, 3) := by decide +kernel
theorem dX8_heir_51 : decode cX8_heir 51 = .ok (.getfield 83, 3) := by decide +kernel
theorem dX8_heir_54 : decode cX8_heir 54 = .ok (.iload_n 1, 1) := by decide +kernel
theorem dX8_heir_55 : decode cX8_heir 55 = .ok (.iload_n 3, 1) := by decide +kernel
theorem dX8_heir_56 : decode cX8_heir 56 = .ok (.iastore, 1) := by decide +kernel
theorem dX8_heir_57 : decode cX8_heir 57 = .ok (.aload_n 0, 1) := by decide +kernel
theorem dX8_heir_58 : decode cX8_heir 58 = .ok (.getfield 10, 3) := by decide +kernel
theorem dX8_heir_61 : decode cX8_heir 61 = .ok (.getfield 86, 3) := by decide +kernel
theorem dX8_heir_64 : decode cX8_heir 64 = .ok (.iload_n 1, 1) := by decide +kernel
theorem dX8_heir_65 : decode cX8_heir 65 = .ok (.iconst 0, 1) := by decide +kernel
theorem dX8_heir_66 : decode cX8_heir 66 = .ok (.iastore, 1) := by decide +kernel
theorem dX8_heir_67 : decode cX8_heir 67 = .ok (.aload_n 0, 1) := by decide +kernel
theorem dX8_heir_68 : decode cX8_heir 68 = .ok (.getfield 10, 3) := by decide +kernel
theorem dX8_heir_71 : decode cX8_heir 71 = .ok (.getfield 89, 3) := by decide +kernel
theorem dX8_heir_74 : decode cX8_heir 74 = .ok (.iload_n 1, 1) := by decide +kernel
theorem dX8_heir_75 : decode cX8_heir 75 = .ok (.bipush (-6), 2) := by decide +kernel
theorem dX8_heir_77 : decode cX8_heir 77 = .ok (.iastore, 1) := by decide +kernel
theorem dX8_heir_78 : decode cX8_heir 78 = .ok (.iload 4, 2) := by decide +kernel
theorem dX8_heir_80 : decode cX8_heir 80 = .ok (.ireturn, 1) := by decide +kernel
theorem dX8_say_0 : decode cX8_say 0 = .ok (.iload_n 1, 1) := by decide +kernel
theorem dX8_say_1 : decode cX8_say 1 = .ok (.bipush 33, 2) := by decide +kernel
theorem dX8_say_3 : decode cX8_say 3 = .ok (.bipush 126, 2) := by decide +kernel
theorem dX8_say_5 : decode cX8_say 5 = .ok (.invokestatic 66, 3) := by decide +kernel
theorem dX8_say_8 : decode cX8_say 8 = .ok (.ifCond .ne 6, 3) := by decide +kernel
theorem dX8_say_11 : decode cX8_say 11 = .ok (.bipush (-2), 2) := by decide +kernel
theorem dX8_say_13 : decode cX8_say 13 = .ok (.ireturn, 1) := by decide +kernel
theorem dX8_say_14 : decode cX8_say 14 = .ok (.aload_n 0, 1) := by decide +kernel
theorem dX8_say_15 : decode cX8_say 15 = .ok (.getfield 26, 3) := by decide +kernel
theorem dX8_say_18 : decode cX8_say 18 = .ok (.iload_n 1, 1) := by decide +kernel
theorem dX8_say_19 : decode cX8_say 19 = .ok (.invokevirtual 92, 3) := by decide +kernel
theorem dX8_say_22 : decode cX8_say 22 = .ok (.ireturn, 1) := by decide +kernel
theorem dX8_wipe_0 : decode cX8_wipe 0 = .ok (.aload_n 0, 1) := by decide +kernel
theorem dX8_wipe_1 : decode cX8_wipe 1 = .ok (.getfield 26, 3) := by decide +kernel
theorem dX8_wipe_4 : decode cX8_wipe 4 = .ok (.invokevirtual 96, 3) := by decide +kernel
theorem dX8_wipe_7 : decode cX8_wipe 7 = .ok (.ireturn, 1) := by decide +kernel
theorem dX8_fault_0 : decode cX8_fault 0 = .ok (.aload_n 0, 1) := by decide +kernel
theorem dX8_fault_1 : decode cX8_fault 1 = .ok (.getfield 26, 3) := by decide +kernel
theorem dX8_fault_4 : decode cX8_fault 4 = .ok (.invokevirtual 100, 3) := by decide +kernel
theorem dX8_fault_7 : decode cX8_fault 7 = .ok (.ireturn, 1) := by decide +kernel
theorem dX8_judge_0 : decode cX8_judge 0 = .ok (.iload_n 1, 1) := by decide +kernel
theorem dX8_judge_1 : decode cX8_judge 1 = .ok (.iconst 0, 1) := by decide +kernel
theorem dX8_judge_2 : decode cX8_judge 2 = .ok (.iconst 2, 1) := by decide +kernel
theorem dX8_judge_3 : decode cX8_judge 3 = .ok (.invokestatic 66, 3) := by decide +kernel
theorem dX8_judge_6 : decode cX8_judge 6 = .ok (.ifCond .ne 6, 3) := by decide +kernel
theorem dX8_judge_9 : decode cX8_judge 9 = .ok (.bipush (-2), 2) := by decide +kernel
theorem dX8_judge_11 : decode cX8_judge 11 = .ok (.ireturn, 1) := by decide +kernel
theorem dX8_judge_12 : decode cX8_judge 12 = .ok (.aload_n 0, 1) := by decide +kernel
theorem dX8_judge_13 : decode cX8_judge 13 = .ok (.invokevirtual 103, 3) := by decide +kernel
theorem dX8_judge_16 : decode cX8_judge 16 = .ok (.istore_n 2, 1) := by decide +kernel
theorem dX8_judge_17 : decode cX8_judge 17 = .ok (.iload_n 2, 1) := by decide +kernel
theorem dX8_judge_18 : decode cX8_judge 18 = .ok (.bipush (-5), 2) := by decide +kernel
theorem dX8_judge_20 : decode cX8_judge 20 = .ok (.if_icmp .eq 14, 3) := by decide +kernel
theorem dX8_judge_23 : decode cX8_judge 23 = .ok (.iload_n 2, 1) := by decide +kernel
theorem dX8_judge_24 : decode cX8_judge 24 = .ok (.bipush (-3), 2) := by decide +kernel
theorem dX8_judge_26 : decode cX8_judge 26 = .ok (.if_icmp .ne 10, 3) := by decide +kernel
theorem dX8_judge_29 : decode cX8_judge 29 = .ok (.iload_n 1, 1) := by decide +kernel
theorem dX8_judge_30 : decode cX8_judge 30 = .ok (.iconst 2, 1) := by decide +kernel
theorem dX8_judge_31 : decode cX8_judge 31 = .ok (.if_icmp .ne 5, 3) := by decide +kernel
theorem dX8_judge_34 : decode cX8_judge 34 = .ok (.iload_n 2, 1) := by decide +kernel
theorem dX8_judge_35 : decode cX8_judge 35 = .ok (.ireturn, 1) := by decide +kernel
theorem dX8_judge_36 : decode cX8_judge 36 = .ok (.iload_n 1, 1) := by decide +kernel
theorem dX8_judge_37 : decode cX8_judge 37 = .ok (.ifCond .ne 11, 3) := by decide +kernel
theorem dX8_judge_40 : decode cX8_judge 40 = .ok (.aload_n 0, 1) := by decide +kernel
theorem dX8_judge_41 : decode cX8_judge 41 = .ok (.getfield 33, 3) := by decide +kernel
theorem dX8_judge_44 : decode cX8_judge 44 = .ok (.getfield 106, 3) := by decide +kernel
theorem dX8_judge_47 : decode cX8_judge 47 = .ok (.ireturn, 1) := by decide +kernel
theorem dX8_judge_48 : decode cX8_judge 48 = .ok (.iload_n 1, 1) := by decide +kernel
theorem dX8_judge_49 : decode cX8_judge 49 = .ok (.iconst 1, 1) := by decide +kernel
theorem dX8_judge_50 : decode cX8_judge 50 = .ok (.if_icmp .ne 13, 3) := by decide +kernel
theorem dX8_judge_53 : decode cX8_judge 53 = .ok (.aload_n 0, 1) := by decide +kernel
theorem dX8_judge_54 : decode cX8_judge 54 = .ok (.getfield 33, 3) := by decide +kernel
theorem dX8_judge_57 : decode cX8_judge 57 = .ok (.getfield 110, 3) := by decide +kernel
theorem dX8_judge_60 : decode cX8_judge 60 = .ok (.goto 10, 3) := by decide +kernel
theorem dX8_judge_63 : decode cX8_judge 63 = .ok (.aload_n 0, 1) := by decide +kernel
theorem dX8_judge_64 : decode cX8_judge 64 = .ok (.getfield 33, 3) := by decide +kernel
theorem dX8_judge_67 : decode cX8_judge 67 = .ok (.getfield 113, 3) := by decide +kernel
theorem dX8_judge_70 : decode cX8_judge 70 = .ok (.ireturn, 1) := by decide +kernel
theorem dX8_behind_0 : decode cX8_behind 0 = .ok (.iload_n 1, 1) := by decide +kernel
theorem dX8_behind_1 : decode cX8_behind 1 = .ok (.invokestatic 60, 3) := by decide +kernel
theorem dX8_behind_4 : decode cX8_behind 4 = .ok (.ifCond .ne 5, 3) := by decide +kernel
theorem dX8_behind_7 : decode cX8_behind 7 = .ok (.iconst (-1), 1) := by decide +kernel
theorem dX8_behind_8 : decode cX8_behind 8 = .ok (.ireturn, 1) := by decide +kernel
theorem dX8_behind_9 : decode cX8_behind 9 = .ok (.iload_n 2, 1) := by decide +kernel
theorem dX8_behind_10 : decode cX8_behind 10 = .ok (.iconst 0, 1) := by decide +kernel
theorem dX8_behind_11 : decode cX8_behind 11 = .ok (.iconst 2, 1) := by decide +kernel
theorem dX8_behind_12 : decode cX8_behind 12 = .ok (.invokestatic 66, 3) := by decide +kernel
theorem dX8_behind_15 : decode cX8_behind 15 = .ok (.ifCond .ne 6, 3) := by decide +kernel
theorem dX8_behind_18 : decode cX8_behind 18 = .ok (.bipush (-2), 2) := by decide +kernel
theorem dX8_behind_20 : decode cX8_behind 20 = .ok (.ireturn, 1) := by decide +kernel
theorem dX8_behind_21 : decode cX8_behind 21 = .ok (.aload_n 0, 1) := by decide +kernel
theorem dX8_behind_22 : decode cX8_behind 22 = .ok (.invokevirtual 103, 3) := by decide +kernel
theorem dX8_behind_25 : decode cX8_behind 25 = .ok (.istore_n 3, 1) := by decide +kernel
theorem dX8_behind_26 : decode cX8_behind 26 = .ok (.iload_n 3, 1) := by decide +kernel
theorem dX8_behind_27 : decode cX8_behind 27 = .ok (.ifCond .eq 5, 3) := by decide +kernel
theorem dX8_behind_30 : decode cX8_behind 30 = .ok (.iload_n 3, 1) := by decide +kernel
theorem dX8_behind_31 : decode cX8_behind 31 = .ok (.ireturn, 1) := by decide +kernel
theorem dX8_behind_32 : decode cX8_behind 32 = .ok (.iload_n 2, 1) := by decide +kernel
theorem dX8_behind_33 : decode cX8_behind 33 = .ok (.ifCond .ne 16, 3) := by decide +kernel
theorem dX8_behind_36 : decode cX8_behind 36 = .ok (.aload_n 0, 1) := by decide +kernel
theorem dX8_behind_37 : decode cX8_behind 37 = .ok (.getfield 33, 3) := by decide +kernel
theorem dX8_behind_40 : decode cX8_behind 40 = .ok (.getfield 116, 3) := by decide +kernel
theorem dX8_behind_43 : decode cX8_behind 43 = .ok (.getfield 80, 3) := by decide +kernel
theorem dX8_behind_46 : decode cX8_behind 46 = .ok (.iload_n 1, 1) := by decide +kernel
theorem dX8_behind_47 : decode cX8_behind 47 = .ok (.iaload, 1) := by decide +kernel
theorem dX8_behind_48 : decode cX8_behind 48 = .ok (.ireturn, 1) := by decide +kernel
theorem dX8_behind_49 : decode cX8_behind 49 = .ok (.iload_n 2, 1) := by decide +kernel
theorem dX8_behind_50 : decode cX8_behind 50 = .ok (.iconst 1, 1) := by decide +kernel
theorem dX8_behind_51 : decode cX8_behind 51 = .ok (.if_icmp .ne 18, 3) := by decide +kernel
theorem dX8_behind_54 : decode cX8_behind 54 = .ok (.aload_n 0, 1) := by decide +kernel
theorem dX8_behind_55 : decode cX8_behind 55 = .ok (.getfield 33, 3) := by decide +kernel
theorem dX8_behind_58 : decode cX8_behind 58 = .ok (.getfield 116, 3) := by decide +kernel
theorem dX8_behind_61 : decode cX8_behind 61 = .ok (.getfield 86, 3) := by decide +kernel
theorem dX8_behind_64 : decode cX8_behind 64 = .ok (.iload_n 1, 1) := by decide +kernel
theorem dX8_behind_65 : decode cX8_behind 65 = .ok (.iaload, 1) := by decide +kernel
theorem dX8_behind_66 : decode cX8_behind 66 = .ok (.goto 15, 3) := by decide +kernel
theorem dX8_behind_69 : decode cX8_behind 69 = .ok (.aload_n 0, 1) := by decide +kernel
theorem dX8_behind_70 : decode cX8_behind 70 = .ok (.getfield 33, 3) := by decide +kernel
theorem dX8_behind_73 : decode cX8_behind 73 = .ok (.getfield 116, 3) := by decide +kernel
theorem dX8_behind_76 : decode cX8_behind 76 = .ok (.getfield 89, 3) := by decide +kernel
theorem dX8_behind_79 : decode cX8_behind 79 = .ok (.iload_n 1, 1) := by decide +kernel
theorem dX8_behind_80 : decode cX8_behind 80 = .ok (.iaload, 1) := by decide +kernel
theorem dX8_behind_81 : decode cX8_behind 81 = .ok (.ireturn, 1) := by decide +kernel
theorem dX8_stands_0 : decode cX8_stands 0 = .ok (.iload_n 1, 1) := by decide +kernel
theorem dX8_stands_1 : decode cX8_stands 1 = .ok (.invokestatic 56, 3) := by decide +kernel
theorem dX8_stands_4 : decode cX8_stands 4 = .ok (.ifCond .ne 5, 3) := by decide +kernel
theorem dX8_stands_7 : decode cX8_stands 7 = .ok (.iconst (-1), 1) := by decide +kernel
theorem dX8_stands_8 : decode cX8_stands 8 = .ok (.ireturn, 1) := by decide +kernel
theorem dX8_stands_9 : decode cX8_stands 9 = .ok (.iload_n 2, 1) := by decide +kernel
theorem dX8_stands_10 : decode cX8_stands 10 = .ok (.iconst 0, 1) := by decide +kernel
theorem dX8_stands_11 : decode cX8_stands 11 = .ok (.iconst 2, 1) := by decide +kernel
theorem dX8_stands_12 : decode cX8_stands 12 = .ok (.invokestatic 66, 3) := by decide +kernel
theorem dX8_stands_15 : decode cX8_stands 15 = .ok (.ifCond .ne 6, 3) := by decide +kernel
theorem dX8_stands_18 : decode cX8_stands 18 = .ok (.bipush (-2), 2) := by decide +kernel
theorem dX8_stands_20 : decode cX8_stands 20 = .ok (.ireturn, 1) := by decide +kernel
theorem dX8_stands_21 : decode cX8_stands 21 = .ok (.aload_n 0, 1) := by decide +kernel
theorem dX8_stands_22 : decode cX8_stands 22 = .ok (.invokevirtual 103, 3) := by decide +kernel
theorem dX8_stands_25 : decode cX8_stands 25 = .ok (.istore_n 3, 1) := by decide +kernel
theorem dX8_stands_26 : decode cX8_stands 26 = .ok (.iload_n 3, 1) := by decide +kernel
theorem dX8_stands_27 : decode cX8_stands 27 = .ok (.ifCond .eq 5, 3) := by decide +kernel
theorem dX8_stands_30 : decode cX8_stands 30 = .ok (.iload_n 3, 1) := by decide +kernel
theorem dX8_stands_31 : decode cX8_stands 31 = .ok (.ireturn, 1) := by decide +kernel
theorem dX8_stands_32 : decode cX8_stands 32 = .ok (.iload_n 2, 1) := by decide +kernel
theorem dX8_stands_33 : decode cX8_stands 33 = .ok (.ifCond .ne 16, 3) := by decide +kernel
theorem dX8_stands_36 : decode cX8_stands 36 = .ok (.aload_n 0, 1) := by decide +kernel
theorem dX8_stands_37 : decode cX8_stands 37 = .ok (.getfield 33, 3) := by decide +kernel
theorem dX8_stands_40 : decode cX8_stands 40 = .ok (.getfield 116, 3) := by decide +kernel
theorem dX8_stands_43 : decode cX8_stands 43 = .ok (.getfield 70, 3) := by decide +kernel
theorem dX8_stands_46 : decode cX8_stands 46 = .ok (.iload_n 1, 1) := by decide +kernel
theorem dX8_stands_47 : decode cX8_stands 47 = .ok (.iaload, 1) := by decide +kernel
theorem dX8_stands_48 : decode cX8_stands 48 = .ok (.ireturn, 1) := by decide +kernel
theorem dX8_stands_49 : decode cX8_stands 49 = .ok (.iload_n 2, 1) := by decide +kernel
theorem dX8_stands_50 : decode cX8_stands 50 = .ok (.iconst 1, 1) := by decide +kernel
theorem dX8_stands_51 : decode cX8_stands 51 = .ok (.if_icmp .ne 18, 3) := by decide +kernel
theorem dX8_stands_54 : decode cX8_stands 54 = .ok (.aload_n 0, 1) := by decide +kernel
theorem dX8_stands_55 : decode cX8_stands 55 = .ok (.getfield 33, 3) := by decide +kernel
theorem dX8_stands_58 : decode cX8_stands 58 = .ok (.getfield 116, 3) := by decide +kernel
theorem dX8_stands_61 : decode cX8_stands 61 = .ok (.getfield 74, 3) := by decide +kernel
theorem dX8_stands_64 : decode cX8_stands 64 = .ok (.iload_n 1, 1) := by decide +kernel
theorem dX8_stands_65 : decode cX8_stands 65 = .ok (.iaload, 1) := by decide +kernel
theorem dX8_stands_66 : decode cX8_stands 66 = .ok (.goto 15, 3) := by decide +kernel
theorem dX8_stands_69 : decode cX8_stands 69 = .ok (.aload_n 0, 1) := by decide +kernel
theorem dX8_stands_70 : decode cX8_stands 70 = .ok (.getfield 33, 3) := by decide +kernel
theorem dX8_stands_73 : decode cX8_stands 73 = .ok (.getfield 116, 3) := by decide +kernel
theorem dX8_stands_76 : decode cX8_stands 76 = .ok (.getfield 77, 3) := by decide +kernel
theorem dX8_stands_79 : decode cX8_stands 79 = .ok (.iload_n 1, 1) := by decide +kernel
theorem dX8_stands_80 : decode cX8_stands 80 = .ok (.iaload, 1) := by decide +kernel
theorem dX8_stands_81 : decode cX8_stands 81 = .ok (.ireturn, 1) := by decide +kernel
theorem dX8_house_0 : decode cX8_house 0 = .ok (.iload_n 1, 1) := by decide +kernel
theorem dX8_house_1 : decode cX8_house 1 = .ok (.iconst 0, 1) := by decide +kernel
theorem dX8_house_2 : decode cX8_house 2 = .ok (.iconst 3, 1) := by decide +kernel
theorem dX8_house_3 : decode cX8_house 3 = .ok (.invokestatic 66, 3) := by decide +kernel
theorem dX8_house_6 : decode cX8_house 6 = .ok (.ifCond .ne 6, 3) := by decide +kernel
theorem dX8_house_9 : decode cX8_house 9 = .ok (.bipush (-2), 2) := by decide +kernel
theorem dX8_house_11 : decode cX8_house 11 = .ok (.ireturn, 1) := by decide +kernel
theorem dX8_house_12 : decode cX8_house 12 = .ok (.aload_n 0, 1) := by decide +kernel
theorem dX8_house_13 : decode cX8_house 13 = .ok (.invokevirtual 103, 3) := by decide +kernel
theorem dX8_house_16 : decode cX8_house 16 = .ok (.istore_n 2, 1) := by decide +kernel
theorem dX8_house_17 : decode cX8_house 17 = .ok (.iload_n 2, 1) := by decide +kernel
theorem dX8_house_18 : decode cX8_house 18 = .ok (.ifCond .eq 5, 3) := by decide +kernel
theorem dX8_house_21 : decode cX8_house 21 = .ok (.iload_n 2, 1) := by decide +kernel
theorem dX8_house_22 : decode cX8_house 22 = .ok (.ireturn, 1) := by decide +kernel
theorem dX8_house_23 : decode cX8_house 23 = .ok (.iload_n 1, 1) := by decide +kernel
theorem dX8_house_24 : decode cX8_house 24 = .ok (.tableswitch 61 0 2 #[28, 39, 50], 28) := by decide +kernel
theorem dX8_house_52 : decode cX8_house 52 = .ok (.aload_n 0, 1) := by decide +kernel
theorem dX8_house_53 : decode cX8_house 53 = .ok (.getfield 33, 3) := by decide +kernel
theorem dX8_house_56 : decode cX8_house 56 = .ok (.getfield 116, 3) := by decide +kernel
theorem dX8_house_59 : decode cX8_house 59 = .ok (.invokevirtual 119, 3) := by decide +kernel
theorem dX8_house_62 : decode cX8_house 62 = .ok (.ireturn, 1) := by decide +kernel
theorem dX8_house_63 : decode cX8_house 63 = .ok (.aload_n 0, 1) := by decide +kernel
theorem dX8_house_64 : decode cX8_house 64 = .ok (.getfield 33, 3) := by decide +kernel
theorem dX8_house_67 : decode cX8_house 67 = .ok (.getfield 116, 3) := by decide +kernel
theorem dX8_house_70 : decode cX8_house 70 = .ok (.invokevirtual 122, 3) := by decide +kernel
theorem dX8_house_73 : decode cX8_house 73 = .ok (.ireturn, 1) := by decide +kernel
theorem dX8_house_74 : decode cX8_house 74 = .ok (.aload_n 0, 1) := by decide +kernel
theorem dX8_house_75 : decode cX8_house 75 = .ok (.getfield 33, 3) := by decide +kernel
theorem dX8_house_78 : decode cX8_house 78 = .ok (.getfield 116, 3) := by decide +kernel
theorem dX8_house_81 : decode cX8_house 81 = .ok (.invokevirtual 125, 3) := by decide +kernel
theorem dX8_house_84 : decode cX8_house 84 = .ok (.ireturn, 1) := by decide +kernel
theorem dX8_house_85 : decode cX8_house 85 = .ok (.aload_n 0, 1) := by decide +kernel
theorem dX8_house_86 : decode cX8_house 86 = .ok (.getfield 33, 3) := by decide +kernel
theorem dX8_house_89 : decode cX8_house 89 = .ok (.getfield 116, 3) := by decide +kernel
theorem dX8_house_92 : decode cX8_house 92 = .ok (.getfield 128, 3) := by decide +kernel
theorem dX8_house_95 : decode cX8_house 95 = .ok (.ireturn, 1) := by decide +kernel
theorem dX8_wrong_0 : decode cX8_wrong 0 = .ok (.iload_n 1, 1) := by decide +kernel
theorem dX8_wrong_1 : decode cX8_wrong 1 = .ok (.iconst 0, 1) := by decide +kernel
theorem dX8_wrong_2 : decode cX8_wrong 2 = .ok (.iconst 1, 1) := by decide +kernel
theorem dX8_wrong_3 : decode cX8_wrong 3 = .ok (.invokestatic 66, 3) := by decide +kernel
theorem dX8_wrong_6 : decode cX8_wrong 6 = .ok (.ifCond .ne 6, 3) := by decide +kernel
theorem dX8_wrong_9 : decode cX8_wrong 9 = .ok (.bipush (-2), 2) := by decide +kernel
theorem dX8_wrong_11 : decode cX8_wrong 11 = .ok (.ireturn, 1) := by decide +kernel
theorem dX8_wrong_12 : decode cX8_wrong 12 = .ok (.aload_n 0, 1) := by decide +kernel
theorem dX8_wrong_13 : decode cX8_wrong 13 = .ok (.invokevirtual 103, 3) := by decide +kernel
theorem dX8_wrong_16 : decode cX8_wrong 16 = .ok (.istore_n 2, 1) := by decide +kernel
theorem dX8_wrong_17 : decode cX8_wrong 17 = .ok (.iload_n 2, 1) := by decide +kernel
theorem dX8_wrong_18 : decode cX8_wrong 18 = .ok (.ifCond .eq 5, 3) := by decide +kernel
theorem dX8_wrong_21 : decode cX8_wrong 21 = .ok (.iload_n 2, 1) := by decide +kernel
theorem dX8_wrong_22 : decode cX8_wrong 22 = .ok (.ireturn, 1) := by decide +kernel
theorem dX8_wrong_23 : decode cX8_wrong 23 = .ok (.iload_n 1, 1) := by decide +kernel
theorem dX8_wrong_24 : decode cX8_wrong 24 = .ok (.ifCond .ne 13, 3) := by decide +kernel
theorem dX8_wrong_27 : decode cX8_wrong 27 = .ok (.aload_n 0, 1) := by decide +kernel
theorem dX8_wrong_28 : decode cX8_wrong 28 = .ok (.getfield 33, 3) := by decide +kernel
theorem dX8_wrong_31 : decode cX8_wrong 31 = .ok (.getfield 131, 3) := by decide +kernel
theorem dX8_wrong_34 : decode cX8_wrong 34 = .ok (.goto 10, 3) := by decide +kernel
theorem dX8_wrong_37 : decode cX8_wrong 37 = .ok (.aload_n 0, 1) := by decide +kernel
theorem dX8_wrong_38 : decode cX8_wrong 38 = .ok (.getfield 33, 3) := by decide +kernel
theorem dX8_wrong_41 : decode cX8_wrong 41 = .ok (.getfield 134, 3) := by decide +kernel
theorem dX8_wrong_44 : decode cX8_wrong 44 = .ok (.ireturn, 1) := by decide +kernel
theorem dX8_done_0 : decode cX8_done 0 = .ok (.aload_n 0, 1) := by decide +kernel
theorem dX8_done_1 : decode cX8_done 1 = .ok (.invokevirtual 103, 3) := by decide +kernel
theorem dX8_done_4 : decode cX8_done 4 = .ok (.istore_n 1, 1) := by decide +kernel
theorem dX8_done_5 : decode cX8_done 5 = .ok (.iload_n 1, 1) := by decide +kernel
theorem dX8_done_6 : decode cX8_done 6 = .ok (.ifCond .eq 5, 3) := by decide +kernel
theorem dX8_done_9 : decode cX8_done 9 = .ok (.iload_n 1, 1) := by decide +kernel
theorem dX8_done_10 : decode cX8_done 10 = .ok (.ireturn, 1) := by decide +kernel
theorem dX8_done_11 : decode cX8_done 11 = .ok (.aload_n 0, 1) := by decide +kernel
theorem dX8_done_12 : decode cX8_done 12 = .ok (.getfield 10, 3) := by decide +kernel
theorem dX8_done_15 : decode cX8_done 15 = .ok (.aload_n 0, 1) := by decide +kernel
theorem dX8_done_16 : decode cX8_done 16 = .ok (.getfield 33, 3) := by decide +kernel
theorem dX8_done_19 : decode cX8_done 19 = .ok (.getfield 116, 3) := by decide +kernel
theorem dX8_done_22 : decode cX8_done 22 = .ok (.invokevirtual 137, 3) := by decide +kernel
theorem dX8_done_25 : decode cX8_done 25 = .ok (.aload_n 0, 1) := by decide +kernel
theorem dX8_done_26 : decode cX8_done 26 = .ok (.getfield 26, 3) := by decide +kernel
theorem dX8_done_29 : decode cX8_done 29 = .ok (.invokevirtual 96, 3) := by decide +kernel
theorem dX8_done_32 : decode cX8_done 32 = .ok (.pop, 1) := by decide +kernel
theorem dX8_done_33 : decode cX8_done 33 = .ok (.aload_n 0, 1) := by decide +kernel
theorem dX8_done_34 : decode cX8_done 34 = .ok (.getfield 33, 3) := by decide +kernel
theorem dX8_done_37 : decode cX8_done 37 = .ok (.getfield 141, 3) := by decide +kernel
theorem dX8_done_40 : decode cX8_done 40 = .ok (.ireturn, 1) := by decide +kernel
theorem dX8_seek_0 : decode cX8_seek 0 = .ok (.iload_n 1, 1) := by decide +kernel
theorem dX8_seek_1 : decode cX8_seek 1 = .ok (.iload_n 2, 1) := by decide +kernel
theorem dX8_seek_2 : decode cX8_seek 2 = .ok (.iload_n 3, 1) := by decide +kernel
theorem dX8_seek_3 : decode cX8_seek 3 = .ok (.invokestatic 144, 3) := by decide +kernel
theorem dX8_seek_6 : decode cX8_seek 6 = .ok (.ifCond .eq 13, 3) := by decide +kernel
theorem dX8_seek_9 : decode cX8_seek 9 = .ok (.iload 4, 2) := by decide +kernel
theorem dX8_seek_11 : decode cX8_seek 11 = .ok (.iconst 0, 1) := by decide +kernel
theorem dX8_seek_12 : decode cX8_seek 12 = .ok (.iconst 1, 1) := by decide +kernel
theorem dX8_seek_13 : decode cX8_seek 13 = .ok (.invokestatic 66, 3) := by decide +kernel
theorem dX8_seek_16 : decode cX8_seek 16 = .ok (.ifCond .ne 7, 3) := by decide +kernel
theorem dX8_seek_19 : decode cX8_seek 19 = .ok (.ldc2_w 149, 3) := by decide +kernel
theorem dX8_seek_22 : decode cX8_seek 22 = .ok (.lreturn, 1) := by decide +kernel
theorem dX8_seek_23 : decode cX8_seek 23 = .ok (.iload_n 1, 1) := by decide +kernel
theorem dX8_seek_24 : decode cX8_seek 24 = .ok (.iload_n 2, 1) := by decide +kernel
theorem dX8_seek_25 : decode cX8_seek 25 = .ok (.iload_n 3, 1) := by decide +kernel
theorem dX8_seek_26 : decode cX8_seek 26 = .ok (.invokestatic 151, 3) := by decide +kernel
theorem dX8_seek_29 : decode cX8_seek 29 = .ok (.iload_n 1, 1) := by decide +kernel
theorem dX8_seek_30 : decode cX8_seek 30 = .ok (.iload_n 3, 1) := by decide +kernel
theorem dX8_seek_31 : decode cX8_seek 31 = .ok (.invokestatic 155, 3) := by decide +kernel
theorem dX8_seek_34 : decode cX8_seek 34 = .ok (.iload 4, 2) := by decide +kernel
theorem dX8_seek_36 : decode cX8_seek 36 = .ok (.invokestatic 159, 3) := by decide +kernel
theorem dX8_seek_39 : decode cX8_seek 39 = .ok (.lreturn, 1) := by decide +kernel
theorem dX8_looks_0 : decode cX8_looks 0 = .ok (.iload_n 1, 1) := by decide +kernel
theorem dX8_looks_1 : decode cX8_looks 1 = .ok (.iload_n 2, 1) := by decide +kernel
theorem dX8_looks_2 : decode cX8_looks 2 = .ok (.iload_n 3, 1) := by decide +kernel
theorem dX8_looks_3 : decode cX8_looks 3 = .ok (.invokestatic 144, 3) := by decide +kernel
theorem dX8_looks_6 : decode cX8_looks 6 = .ok (.ifCond .ne 6, 3) := by decide +kernel
theorem dX8_looks_9 : decode cX8_looks 9 = .ok (.bipush (-2), 2) := by decide +kernel
theorem dX8_looks_11 : decode cX8_looks 11 = .ok (.ireturn, 1) := by decide +kernel
theorem dX8_looks_12 : decode cX8_looks 12 = .ok (.iload_n 1, 1) := by decide +kernel
theorem dX8_looks_13 : decode cX8_looks 13 = .ok (.iload_n 2, 1) := by decide +kernel
theorem dX8_looks_14 : decode cX8_looks 14 = .ok (.iload_n 3, 1) := by decide +kernel
theorem dX8_looks_15 : decode cX8_looks 15 = .ok (.invokestatic 163, 3) := by decide +kernel
theorem dX8_looks_18 : decode cX8_looks 18 = .ok (.ireturn, 1) := by decide +kernel
theorem dX8_mix_0 : decode cX8_mix 0 = .ok (.iload_n 1, 1) := by decide +kernel
theorem dX8_mix_1 : decode cX8_mix 1 = .ok (.iconst 2, 1) := by decide +kernel
theorem dX8_mix_2 : decode cX8_mix 2 = .ok (.sipush 998, 3) := by decide +kernel
theorem dX8_mix_5 : decode cX8_mix 5 = .ok (.invokestatic 66, 3) := by decide +kernel
theorem dX8_mix_8 : decode cX8_mix 8 = .ok (.ifCond .eq 20, 3) := by decide +kernel
theorem dX8_mix_11 : decode cX8_mix 11 = .ok (.iload_n 1, 1) := by decide +kernel
theorem dX8_mix_12 : decode cX8_mix 12 = .ok (.iconst 2, 1) := by decide +kernel
theorem dX8_mix_13 : decode cX8_mix 13 = .ok (.irem, 1) := by decide +kernel
theorem dX8_mix_14 : decode cX8_mix 14 = .ok (.ifCond .ne 14, 3) := by decide +kernel
theorem dX8_mix_17 : decode cX8_mix 17 = .ok (.iload_n 2, 1) := by decide +kernel
theorem dX8_mix_18 : decode cX8_mix 18 = .ok (.iconst 0, 1) := by decide +kernel
theorem dX8_mix_19 : decode cX8_mix 19 = .ok (.iload_n 1, 1) := by decide +kernel
theorem dX8_mix_20 : decode cX8_mix 20 = .ok (.iconst 1, 1) := by decide +kernel
theorem dX8_mix_21 : decode cX8_mix 21 = .ok (.isub, 1) := by decide +kernel
theorem dX8_mix_22 : decode cX8_mix 22 = .ok (.invokestatic 66, 3) := by decide +kernel
theorem dX8_mix_25 : decode cX8_mix 25 = .ok (.ifCond .ne 6, 3) := by decide +kernel
theorem dX8_mix_28 : decode cX8_mix 28 = .ok (.bipush (-2), 2) := by decide +kernel
theorem dX8_mix_30 : decode cX8_mix 30 = .ok (.ireturn, 1) := by decide +kernel
theorem dX8_mix_31 : decode cX8_mix 31 = .ok (.iload_n 3, 1) := by decide +kernel
theorem dX8_mix_32 : decode cX8_mix 32 = .ok (.iconst 0, 1) := by decide +kernel
theorem dX8_mix_33 : decode cX8_mix 33 = .ok (.ldc 167, 2) := by decide +kernel
theorem dX8_mix_35 : decode cX8_mix 35 = .ok (.invokestatic 66, 3) := by decide +kernel
theorem dX8_mix_38 : decode cX8_mix 38 = .ok (.ifCond .eq 13, 3) := by decide +kernel
theorem dX8_mix_41 : decode cX8_mix 41 = .ok (.iload 4, 2) := by decide +kernel
theorem dX8_mix_43 : decode cX8_mix 43 = .ok (.iconst 0, 1) := by decide +kernel
theorem dX8_mix_44 : decode cX8_mix 44 = .ok (.iconst 1, 1) := by decide +kernel
theorem dX8_mix_45 : decode cX8_mix 45 = .ok (.invokestatic 66, 3) := by decide +kernel
theorem dX8_mix_48 : decode cX8_mix 48 = .ok (.ifCond .ne 6, 3) := by decide +kernel
theorem dX8_mix_51 : decode cX8_mix 51 = .ok (.bipush (-2), 2) := by decide +kernel
theorem dX8_mix_53 : decode cX8_mix 53 = .ok (.ireturn, 1) := by decide +kernel
theorem dX8_mix_54 : decode cX8_mix 54 = .ok (.iload 4, 2) := by decide +kernel
theorem dX8_mix_56 : decode cX8_mix 56 = .ok (.ifCond .ne 12, 3) := by decide +kernel
theorem dX8_mix_59 : decode cX8_mix 59 = .ok (.iload_n 1, 1) := by decide +kernel
theorem dX8_mix_60 : decode cX8_mix 60 = .ok (.iload_n 2, 1) := by decide +kernel
theorem dX8_mix_61 : decode cX8_mix 61 = .ok (.iload_n 3, 1) := by decide +kernel
theorem dX8_mix_62 : decode cX8_mix 62 = .ok (.invokestatic 168, 3) := by decide +kernel
theorem dX8_mix_65 : decode cX8_mix 65 = .ok (.goto 7, 3) := by decide +kernel
theorem dX8_mix_68 : decode cX8_mix 68 = .ok (.iload_n 1, 1) := by decide +kernel
theorem dX8_mix_69 : decode cX8_mix 69 = .ok (.invokestatic 173, 3) := by decide +kernel
theorem dX8_mix_72 : decode cX8_mix 72 = .ok (.ireturn, 1) := by decide +kernel
theorem dX8_rises_0 : decode cX8_rises 0 = .ok (.iload_n 1, 1) := by decide +kernel
theorem dX8_rises_1 : decode cX8_rises 1 = .ok (.invokestatic 56, 3) := by decide +kernel
theorem dX8_rises_4 : decode cX8_rises 4 = .ok (.ifCond .ne 5, 3) := by decide +kernel
theorem dX8_rises_7 : decode cX8_rises 7 = .ok (.iconst (-1), 1) := by decide +kernel
theorem dX8_rises_8 : decode cX8_rises 8 = .ok (.ireturn, 1) := by decide +kernel
theorem dX8_rises_9 : decode cX8_rises 9 = .ok (.iload_n 2, 1) := by decide +kernel
theorem dX8_rises_10 : decode cX8_rises 10 = .ok (.iconst 0, 1) := by decide +kernel
theorem dX8_rises_11 : decode cX8_rises 11 = .ok (.iconst 1, 1) := by decide +kernel
theorem dX8_rises_12 : decode cX8_rises 12 = .ok (.invokestatic 66, 3) := by decide +kernel
theorem dX8_rises_15 : decode cX8_rises 15 = .ok (.ifCond .ne 6, 3) := by decide +kernel
theorem dX8_rises_18 : decode cX8_rises 18 = .ok (.bipush (-2), 2) := by decide +kernel
theorem dX8_rises_20 : decode cX8_rises 20 = .ok (.ireturn, 1) := by decide +kernel
theorem dX8_rises_21 : decode cX8_rises 21 = .ok (.aload_n 0, 1) := by decide +kernel
theorem dX8_rises_22 : decode cX8_rises 22 = .ok (.getfield 40, 3) := by decide +kernel
theorem dX8_rises_25 : decode cX8_rises 25 = .ok (.aload_n 0, 1) := by decide +kernel
theorem dX8_rises_26 : decode cX8_rises 26 = .ok (.getfield 10, 3) := by decide +kernel
theorem dX8_rises_29 : decode cX8_rises 29 = .ok (.getfield 70, 3) := by decide +kernel
theorem dX8_rises_32 : decode cX8_rises 32 = .ok (.iload_n 1, 1) := by decide +kernel
theorem dX8_rises_33 : decode cX8_rises 33 = .ok (.invokevirtual 176, 3) := by decide +kernel
theorem dX8_rises_36 : decode cX8_rises 36 = .ok (.iload_n 2, 1) := by decide +kernel
theorem dX8_rises_37 : decode cX8_rises 37 = .ok (.ifCond .ne 13, 3) := by decide +kernel
theorem dX8_rises_40 : decode cX8_rises 40 = .ok (.aload_n 0, 1) := by decide +kernel
theorem dX8_rises_41 : decode cX8_rises 41 = .ok (.getfield 40, 3) := by decide +kernel
theorem dX8_rises_44 : decode cX8_rises 44 = .ok (.getfield 180, 3) := by decide +kernel
theorem dX8_rises_47 : decode cX8_rises 47 = .ok (.goto 10, 3) := by decide +kernel
theorem dX8_rises_50 : decode cX8_rises 50 = .ok (.aload_n 0, 1) := by decide +kernel
theorem dX8_rises_51 : decode cX8_rises 51 = .ok (.getfield 40, 3) := by decide +kernel
theorem dX8_rises_54 : decode cX8_rises 54 = .ok (.getfield 183, 3) := by decide +kernel
theorem dX8_rises_57 : decode cX8_rises 57 = .ok (.ireturn, 1) := by decide +kernel
theorem dX8_like_0 : decode cX8_like 0 = .ok (.iload_n 1, 1) := by decide +kernel
theorem dX8_like_1 : decode cX8_like 1 = .ok (.invokestatic 63, 3) := by decide +kernel
theorem dX8_like_4 : decode cX8_like 4 = .ok (.ifCond .eq 13, 3) := by decide +kernel
theorem dX8_like_7 : decode cX8_like 7 = .ok (.iload_n 2, 1) := by decide +kernel
theorem dX8_like_8 : decode cX8_like 8 = .ok (.iconst 0, 1) := by decide +kernel
theorem dX8_like_9 : decode cX8_like 9 = .ok (.bipush 8, 2) := by decide +kernel
theorem dX8_like_11 : decode cX8_like 11 = .ok (.invokestatic 66, 3) := by decide +kernel
theorem dX8_like_14 : decode cX8_like 14 = .ok (.ifCond .ne 6, 3) := by decide +kernel
theorem dX8_like_17 : decode cX8_like 17 = .ok (.bipush (-2), 2) := by decide +kernel
theorem dX8_like_19 : decode cX8_like 19 = .ok (.ireturn, 1) := by decide +kernel
theorem dX8_like_20 : decode cX8_like 20 = .ok (.aload_n 0, 1) := by decide +kernel
theorem dX8_like_21 : decode cX8_like 21 = .ok (.getfield 19, 3) := by decide +kernel
theorem dX8_like_24 : decode cX8_like 24 = .ok (.iload_n 1, 1) := by decide +kernel
theorem dX8_like_25 : decode cX8_like 25 = .ok (.iload_n 2, 1) := by decide +kernel
theorem dX8_like_26 : decode cX8_like 26 = .ok (.iload_n 3, 1) := by decide +kernel
theorem dX8_like_27 : decode cX8_like 27 = .ok (.invokevirtual 185, 3) := by decide +kernel
theorem dX8_like_30 : decode cX8_like 30 = .ok (.ireturn, 1) := by decide +kernel
theorem dX8_forget_0 : decode cX8_forget 0 = .ok (.aload_n 0, 1) := by decide +kernel
theorem dX8_forget_1 : decode cX8_forget 1 = .ok (.getfield 19, 3) := by decide +kernel
theorem dX8_forget_4 : decode cX8_forget 4 = .ok (.invokevirtual 188, 3) := by decide +kernel
theorem dX8_forget_7 : decode cX8_forget 7 = .ok (.ireturn, 1) := by decide +kernel
theorem dX8_own_0 : decode cX8_own 0 = .ok (.iload_n 1, 1) := by decide +kernel
theorem dX8_own_1 : decode cX8_own 1 = .ok (.iconst (-1), 1) := by decide +kernel
theorem dX8_own_2 : decode cX8_own 2 = .ok (.if_icmp .ge 6, 3) := by decide +kernel
theorem dX8_own_5 : decode cX8_own 5 = .ok (.bipush (-6), 2) := by decide +kernel
theorem dX8_own_7 : decode cX8_own 7 = .ok (.ireturn, 1) := by decide +kernel
theorem dX8_own_8 : decode cX8_own 8 = .ok (.iconst 0, 1) := by decide +kernel
theorem dX8_own_9 : decode cX8_own 9 = .ok (.istore_n 2, 1) := by decide +kernel
theorem dX8_own_10 : decode cX8_own 10 = .ok (.iconst 0, 1) := by decide +kernel
theorem dX8_own_11 : decode cX8_own 11 = .ok (.istore_n 3, 1) := by decide +kernel
theorem dX8_own_12 : decode cX8_own 12 = .ok (.iload_n 3, 1) := by decide +kernel
theorem dX8_own_13 : decode cX8_own 13 = .ok (.bipush 40, 2) := by decide +kernel
theorem dX8_own_15 : decode cX8_own 15 = .ok (.if_icmp .ge 38, 3) := by decide +kernel
theorem dX8_own_18 : decode cX8_own 18 = .ok (.aload_n 0, 1) := by decide +kernel
theorem dX8_own_19 : decode cX8_own 19 = .ok (.getfield 19, 3) := by decide +kernel
theorem dX8_own_22 : decode cX8_own 22 = .ok (.aload_n 0, 1) := by decide +kernel
theorem dX8_own_23 : decode cX8_own 23 = .ok (.getfield 10, 3) := by decide +kernel
theorem dX8_own_26 : decode cX8_own 26 = .ok (.getfield 70, 3) := by decide +kernel
theorem dX8_own_29 : decode cX8_own 29 = .ok (.iload_n 3, 1) := by decide +kernel
theorem dX8_own_30 : decode cX8_own 30 = .ok (.iaload, 1) := by decide +kernel
theorem dX8_own_31 : decode cX8_own 31 = .ok (.invokevirtual 189, 3) := by decide +kernel
theorem dX8_own_34 : decode cX8_own 34 = .ok (.ifCond .eq 13, 3) := by decide +kernel
theorem dX8_own_37 : decode cX8_own 37 = .ok (.iload_n 2, 1) := by decide +kernel
theorem dX8_own_38 : decode cX8_own 38 = .ok (.iload_n 1, 1) := by decide +kernel
theorem dX8_own_39 : decode cX8_own 39 = .ok (.if_icmp .ne 5, 3) := by decide +kernel
theorem dX8_own_42 : decode cX8_own 42 = .ok (.iload_n 3, 1) := by decide +kernel
theorem dX8_own_43 : decode cX8_own 43 = .ok (.ireturn, 1) := by decide +kernel
theorem dX8_own_44 : decode cX8_own 44 = .ok (.iinc 2 1, 3) := by decide +kernel
theorem dX8_own_47 : decode cX8_own 47 = .ok (.iinc 3 1, 3) := by decide +kernel
theorem dX8_own_50 : decode cX8_own 50 = .ok (.goto (-38), 3) := by decide +kernel
theorem dX8_own_53 : decode cX8_own 53 = .ok (.iload_n 1, 1) := by decide +kernel
theorem dX8_own_54 : decode cX8_own 54 = .ok (.iconst (-1), 1) := by decide +kernel
theorem dX8_own_55 : decode cX8_own 55 = .ok (.if_icmp .ne 7, 3) := by decide +kernel
theorem dX8_own_58 : decode cX8_own 58 = .ok (.iload_n 2, 1) := by decide +kernel
theorem dX8_own_59 : decode cX8_own 59 = .ok (.goto 5, 3) := by decide +kernel
theorem dX8_own_62 : decode cX8_own 62 = .ok (.bipush (-6), 2) := by decide +kernel
theorem dX8_own_64 : decode cX8_own 64 = .ok (.ireturn, 1) := by decide +kernel
theorem dX8_ask_0 : decode cX8_ask 0 = .ok (.iload_n 1, 1) := by decide +kernel
theorem dX8_ask_1 : decode cX8_ask 1 = .ok (.iconst 0, 1) := by decide +kernel
theorem dX8_ask_2 : decode cX8_ask 2 = .ok (.iconst 1, 1) := by decide +kernel
theorem dX8_ask_3 : decode cX8_ask 3 = .ok (.invokestatic 66, 3) := by decide +kernel
theorem dX8_ask_6 : decode cX8_ask 6 = .ok (.ifCond .ne 6, 3) := by decide +kernel
theorem dX8_ask_9 : decode cX8_ask 9 = .ok (.bipush (-2), 2) := by decide +kernel
theorem dX8_ask_11 : decode cX8_ask 11 = .ok (.ireturn, 1) := by decide +kernel
theorem dX8_ask_12 : decode cX8_ask 12 = .ok (.aload_n 0, 1) := by decide +kernel
theorem dX8_ask_13 : decode cX8_ask 13 = .ok (.getfield 19, 3) := by decide +kernel
theorem dX8_ask_16 : decode cX8_ask 16 = .ok (.aload_n 0, 1) := by decide +kernel
theorem dX8_ask_17 : decode cX8_ask 17 = .ok (.getfield 10, 3) := by decide +kernel
theorem dX8_ask_20 : decode cX8_ask 20 = .ok (.getfield 70, 3) := by decide +kernel
theorem dX8_ask_23 : decode cX8_ask 23 = .ok (.invokevirtual 192, 3) := by decide +kernel
theorem dX8_ask_26 : decode cX8_ask 26 = .ok (.iload_n 1, 1) := by decide +kernel
theorem dX8_ask_27 : decode cX8_ask 27 = .ok (.ifCond .ne 13, 3) := by decide +kernel
theorem dX8_ask_30 : decode cX8_ask 30 = .ok (.aload_n 0, 1) := by decide +kernel
theorem dX8_ask_31 : decode cX8_ask 31 = .ok (.getfield 19, 3) := by decide +kernel
theorem dX8_ask_34 : decode cX8_ask 34 = .ok (.getfield 196, 3) := by decide +kernel
theorem dX8_ask_37 : decode cX8_ask 37 = .ok (.goto 10, 3) := by decide +kernel
theorem dX8_ask_40 : decode cX8_ask 40 = .ok (.aload_n 0, 1) := by decide +kernel
theorem dX8_ask_41 : decode cX8_ask 41 = .ok (.getfield 19, 3) := by decide +kernel
theorem dX8_ask_44 : decode cX8_ask 44 = .ok (.getfield 199, 3) := by decide +kernel
theorem dX8_ask_47 : decode cX8_ask 47 = .ok (.ireturn, 1) := by decide +kernel
theorem dX8_take_0 : decode cX8_take 0 = .ok (.iload_n 1, 1) := by decide +kernel
theorem dX8_take_1 : decode cX8_take 1 = .ok (.iconst 1, 1) := by decide +kernel
theorem dX8_take_2 : decode cX8_take 2 = .ok (.sipush 999, 3) := by decide +kernel
theorem dX8_take_5 : decode cX8_take 5 = .ok (.invokestatic 66, 3) := by decide +kernel
theorem dX8_take_8 : decode cX8_take 8 = .ok (.ifCond .eq 12, 3) := by decide +kernel
theorem dX8_take_11 : decode cX8_take 11 = .ok (.iload_n 2, 1) := by decide +kernel
theorem dX8_take_12 : decode cX8_take 12 = .ok (.iconst 0, 1) := by decide +kernel
theorem dX8_take_13 : decode cX8_take 13 = .ok (.iconst 1, 1) := by decide +kernel
theorem dX8_take_14 : decode cX8_take 14 = .ok (.invokestatic 66, 3) := by decide +kernel
theorem dX8_take_17 : decode cX8_take 17 = .ok (.ifCond .ne 6, 3) := by decide +kernel
theorem dX8_take_20 : decode cX8_take 20 = .ok (.bipush (-2), 2) := by decide +kernel
theorem dX8_take_22 : decode cX8_take 22 = .ok (.ireturn, 1) := by decide +kernel
theorem dX8_take_23 : decode cX8_take 23 = .ok (.iload_n 1, 1) := by decide +kernel
theorem dX8_take_24 : decode cX8_take 24 = .ok (.invokestatic 202, 3) := by decide +kernel
theorem dX8_take_27 : decode cX8_take 27 = .ok (.istore_n 3, 1) := by decide +kernel
theorem dX8_take_28 : decode cX8_take 28 = .ok (.iload_n 2, 1) := by decide +kernel
theorem dX8_take_29 : decode cX8_take 29 = .ok (.ifCond .ne 13, 3) := by decide +kernel
theorem dX8_take_32 : decode cX8_take 32 = .ok (.iload_n 3, 1) := by decide +kernel
theorem dX8_take_33 : decode cX8_take 33 = .ok (.ifCond .ne 7, 3) := by decide +kernel
theorem dX8_take_36 : decode cX8_take 36 = .ok (.iconst 0, 1) := by decide +kernel
theorem dX8_take_37 : decode cX8_take 37 = .ok (.goto 4, 3) := by decide +kernel
theorem dX8_take_40 : decode cX8_take 40 = .ok (.iconst 1, 1) := by decide +kernel
theorem dX8_take_41 : decode cX8_take 41 = .ok (.ireturn, 1) := by decide +kernel
theorem dX8_take_42 : decode cX8_take 42 = .ok (.iload_n 3, 1) := by decide +kernel
theorem dX8_take_43 : decode cX8_take 43 = .ok (.ifCond .ne 8, 3) := by decide +kernel
theorem dX8_take_46 : decode cX8_take 46 = .ok (.bipush (-6), 2) := by decide +kernel
theorem dX8_take_48 : decode cX8_take 48 = .ok (.goto 4, 3) := by decide +kernel
theorem dX8_take_51 : decode cX8_take 51 = .ok (.iload_n 3, 1) := by decide +kernel
theorem dX8_take_52 : decode cX8_take 52 = .ok (.ireturn, 1) := by decide +kernel
theorem dX8_pass_0 : decode cX8_pass 0 = .ok (.iload_n 1, 1) := by decide +kernel
theorem dX8_pass_1 : decode cX8_pass 1 = .ok (.iconst 1, 1) := by decide +kernel
theorem dX8_pass_2 : decode cX8_pass 2 = .ok (.bipush 20, 2) := by decide +kernel
theorem dX8_pass_4 : decode cX8_pass 4 = .ok (.invokestatic 66, 3) := by decide +kernel
theorem dX8_pass_7 : decode cX8_pass 7 = .ok (.ifCond .eq 23, 3) := by decide +kernel
theorem dX8_pass_10 : decode cX8_pass 10 = .ok (.iload_n 2, 1) := by decide +kernel
theorem dX8_pass_11 : decode cX8_pass 11 = .ok (.iconst 0, 1) := by decide +kernel
theorem dX8_pass_12 : decode cX8_pass 12 = .ok (.iload_n 1, 1) := by decide +kernel
theorem dX8_pass_13 : decode cX8_pass 13 = .ok (.iconst 1, 1) := by decide +kernel
theorem dX8_pass_14 : decode cX8_pass 14 = .ok (.isub, 1) := by decide +kernel
theorem dX8_pass_15 : decode cX8_pass 15 = .ok (.invokestatic 66, 3) := by decide +kernel
theorem dX8_pass_18 : decode cX8_pass 18 = .ok (.ifCond .eq 12, 3) := by decide +kernel
theorem dX8_pass_21 : decode cX8_pass 21 = .ok (.iload_n 3, 1) := by decide +kernel
theorem dX8_pass_22 : decode cX8_pass 22 = .ok (.iconst 0, 1) := by decide +kernel
theorem dX8_pass_23 : decode cX8_pass 23 = .ok (.iconst 1, 1) := by decide +kernel
theorem dX8_pass_24 : decode cX8_pass 24 = .ok (.invokestatic 66, 3) := by decide +kernel
theorem dX8_pass_27 : decode cX8_pass 27 = .ok (.ifCond .ne 7, 3) := by decide +kernel
theorem dX8_pass_30 : decode cX8_pass 30 = .ok (.ldc2_w 149, 3) := by decide +kernel
theorem dX8_pass_33 : decode cX8_pass 33 = .ok (.lreturn, 1) := by decide +kernel
theorem dX8_pass_34 : decode cX8_pass 34 = .ok (.iload_n 1, 1) := by decide +kernel
theorem dX8_pass_35 : decode cX8_pass 35 = .ok (.iload_n 2, 1) := by decide +kernel
theorem dX8_pass_36 : decode cX8_pass 36 = .ok (.invokestatic 207, 3) := by decide +kernel
theorem dX8_pass_39 : decode cX8_pass 39 = .ok (.iload_n 1, 1) := by decide +kernel
theorem dX8_pass_40 : decode cX8_pass 40 = .ok (.invokestatic 210, 3) := by decide +kernel
theorem dX8_pass_43 : decode cX8_pass 43 = .ok (.iload_n 3, 1) := by decide +kernel
theorem dX8_pass_44 : decode cX8_pass 44 = .ok (.invokestatic 159, 3) := by decide +kernel
theorem dX8_pass_47 : decode cX8_pass 47 = .ok (.lreturn, 1) := by decide +kernel
theorem dX8_passes_0 : decode cX8_passes 0 = .ok (.iload_n 1, 1) := by decide +kernel
theorem dX8_passes_1 : decode cX8_passes 1 = .ok (.iconst 1, 1) := by decide +kernel
theorem dX8_passes_2 : decode cX8_passes 2 = .ok (.bipush 20, 2) := by decide +kernel
theorem dX8_passes_4 : decode cX8_passes 4 = .ok (.invokestatic 66, 3) := by decide +kernel
theorem dX8_passes_7 : decode cX8_passes 7 = .ok (.ifCond .ne 6, 3) := by decide +kernel
theorem dX8_passes_10 : decode cX8_passes 10 = .ok (.bipush (-2), 2) := by decide +kernel
theorem dX8_passes_12 : decode cX8_passes 12 = .ok (.ireturn, 1) := by decide +kernel
theorem dX8_passes_13 : decode cX8_passes 13 = .ok (.iload_n 1, 1) := by decide +kernel
theorem dX8_passes_14 : decode cX8_passes 14 = .ok (.invokestatic 214, 3) := by decide +kernel
theorem dX8_passes_17 : decode cX8_passes 17 = .ok (.ireturn, 1) := by decide +kernel
theorem dX8_hour_0 : decode cX8_hour 0 = .ok (.iload_n 1, 1) := by decide +kernel
theorem dX8_hour_1 : decode cX8_hour 1 = .ok (.iconst 0, 1) := by decide +kernel
theorem dX8_hour_2 : decode cX8_hour 2 = .ok (.sipush 9999, 3) := by decide +kernel
theorem dX8_hour_5 : decode cX8_hour 5 = .ok (.invokestatic 66, 3) := by decide +kernel
theorem dX8_hour_8 : decode cX8_hour 8 = .ok (.ifCond .eq 22, 3) := by decide +kernel
theorem dX8_hour_11 : decode cX8_hour 11 = .ok (.iload_n 2, 1) := by decide +kernel
theorem dX8_hour_12 : decode cX8_hour 12 = .ok (.iconst 1, 1) := by decide +kernel
theorem dX8_hour_13 : decode cX8_hour 13 = .ok (.bipush 99, 2) := by decide +kernel
theorem dX8_hour_15 : decode cX8_hour 15 = .ok (.invokestatic 66, 3) := by decide +kernel
theorem dX8_hour_18 : decode cX8_hour 18 = .ok (.ifCond .eq 12, 3) := by decide +kernel
theorem dX8_hour_21 : decode cX8_hour 21 = .ok (.iload_n 3, 1) := by decide +kernel
theorem dX8_hour_22 : decode cX8_hour 22 = .ok (.iconst 0, 1) := by decide +kernel
theorem dX8_hour_23 : decode cX8_hour 23 = .ok (.iconst 2, 1) := by decide +kernel
theorem dX8_hour_24 : decode cX8_hour 24 = .ok (.invokestatic 66, 3) := by decide +kernel
theorem dX8_hour_27 : decode cX8_hour 27 = .ok (.ifCond .ne 6, 3) := by decide +kernel
theorem dX8_hour_30 : decode cX8_hour 30 = .ok (.bipush (-2), 2) := by decide +kernel
theorem dX8_hour_32 : decode cX8_hour 32 = .ok (.ireturn, 1) := by decide +kernel
theorem dX8_hour_33 : decode cX8_hour 33 = .ok (.aload_n 0, 1) := by decide +kernel
theorem dX8_hour_34 : decode cX8_hour 34 = .ok (.getfield 33, 3) := by decide +kernel
theorem dX8_hour_37 : decode cX8_hour 37 = .ok (.aload_n 0, 1) := by decide +kernel
theorem dX8_hour_38 : decode cX8_hour 38 = .ok (.getfield 10, 3) := by decide +kernel
theorem dX8_hour_41 : decode cX8_hour 41 = .ok (.iload_n 1, 1) := by decide +kernel
theorem dX8_hour_42 : decode cX8_hour 42 = .ok (.iload_n 2, 1) := by decide +kernel
theorem dX8_hour_43 : decode cX8_hour 43 = .ok (.invokevirtual 217, 3) := by decide +kernel
theorem dX8_hour_46 : decode cX8_hour 46 = .ok (.iload_n 3, 1) := by decide +kernel
theorem dX8_hour_47 : decode cX8_hour 47 = .ok (.ifCond .ne 16, 3) := by decide +kernel
theorem dX8_hour_50 : decode cX8_hour 50 = .ok (.aload_n 0, 1) := by decide +kernel
theorem dX8_hour_51 : decode cX8_hour 51 = .ok (.getfield 33, 3) := by decide +kernel
theorem dX8_hour_54 : decode cX8_hour 54 = .ok (.getfield 116, 3) := by decide +kernel
theorem dX8_hour_57 : decode cX8_hour 57 = .ok (.getfield 80, 3) := by decide +kernel
theorem dX8_hour_60 : decode cX8_hour 60 = .ok (.iconst 0, 1) := by decide +kernel
theorem dX8_hour_61 : decode cX8_hour 61 = .ok (.iaload, 1) := by decide +kernel
theorem dX8_hour_62 : decode cX8_hour 62 = .ok (.ireturn, 1) := by decide +kernel
theorem dX8_hour_63 : decode cX8_hour 63 = .ok (.iload_n 3, 1) := by decide +kernel
theorem dX8_hour_64 : decode cX8_hour 64 = .ok (.iconst 1, 1) := by decide +kernel
theorem dX8_hour_65 : decode cX8_hour 65 = .ok (.if_icmp .ne 16, 3) := by decide +kernel
theorem dX8_hour_68 : decode cX8_hour 68 = .ok (.aload_n 0, 1) := by decide +kernel
theorem dX8_hour_69 : decode cX8_hour 69 = .ok (.getfield 33, 3) := by decide +kernel
theorem dX8_hour_72 : decode cX8_hour 72 = .ok (.getfield 116, 3) := by decide +kernel
theorem dX8_hour_75 : decode cX8_hour 75 = .ok (.invokevirtual 125, 3) := by decide +kernel
theorem dX8_hour_78 : decode cX8_hour 78 = .ok (.goto 13, 3) := by decide +kernel
theorem dX8_hour_81 : decode cX8_hour 81 = .ok (.aload_n 0, 1) := by decide +kernel
theorem dX8_hour_82 : decode cX8_hour 82 = .ok (.getfield 33, 3) := by decide +kernel
theorem dX8_hour_85 : decode cX8_hour 85 = .ok (.getfield 116, 3) := by decide +kernel
theorem dX8_hour_88 : decode cX8_hour 88 = .ok (.invokevirtual 119, 3) := by decide +kernel
theorem dX8_hour_91 : decode cX8_hour 91 = .ok (.ireturn, 1) := by decide +kernel
theorem dX8_image_0 : decode cX8_image 0 = .ok (.iload_n 1, 1) := by decide +kernel
theorem dX8_image_1 : decode cX8_image 1 = .ok (.iconst 0, 1) := by decide +kernel
theorem dX8_image_2 : decode cX8_image 2 = .ok (.iconst 1, 1) := by decide +kernel
theorem dX8_image_3 : decode cX8_image 3 = .ok (.invokestatic 66, 3) := by decide +kernel
theorem dX8_image_6 : decode cX8_image 6 = .ok (.ifCond .ne 6, 3) := by decide +kernel
theorem dX8_image_9 : decode cX8_image 9 = .ok (.bipush (-2), 2) := by decide +kernel
theorem dX8_image_11 : decode cX8_image 11 = .ok (.ireturn, 1) := by decide +kernel
theorem dX8_image_12 : decode cX8_image 12 = .ok (.aload_n 0, 1) := by decide +kernel
theorem dX8_image_13 : decode cX8_image 13 = .ok (.getfield 44, 3) := by decide +kernel
theorem dX8_image_16 : decode cX8_image 16 = .ok (.iload_n 1, 1) := by decide +kernel
theorem dX8_image_17 : decode cX8_image 17 = .ok (.aaload, 1) := by decide +kernel
theorem dX8_image_18 : decode cX8_image 18 = .ok (.aload_n 0, 1) := by decide +kernel
theorem dX8_image_19 : decode cX8_image 19 = .ok (.getfield 10, 3) := by decide +kernel
theorem dX8_image_22 : decode cX8_image 22 = .ok (.invokevirtual 137, 3) := by decide +kernel
theorem dX8_image_25 : decode cX8_image 25 = .ok (.aload_n 0, 1) := by decide +kernel
theorem dX8_image_26 : decode cX8_image 26 = .ok (.getfield 48, 3) := by decide +kernel
theorem dX8_image_29 : decode cX8_image 29 = .ok (.iload_n 1, 1) := by decide +kernel
theorem dX8_image_30 : decode cX8_image 30 = .ok (.aaload, 1) := by decide +kernel
theorem dX8_image_31 : decode cX8_image 31 = .ok (.aload_n 0, 1) := by decide +kernel
theorem dX8_image_32 : decode cX8_image 32 = .ok (.getfield 19, 3) := by decide +kernel
theorem dX8_image_35 : decode cX8_image 35 = .ok (.invokevirtual 221, 3) := by decide +kernel
theorem dX8_image_38 : decode cX8_image 38 = .ok (.aload_n 0, 1) := by decide +kernel
theorem dX8_image_39 : decode cX8_image 39 = .ok (.getfield 52, 3) := by decide +kernel
theorem dX8_image_42 : decode cX8_image 42 = .ok (.iload_n 1, 1) := by decide +kernel
theorem dX8_image_43 : decode cX8_image 43 = .ok (.iconst 1, 1) := by decide +kernel
theorem dX8_image_44 : decode cX8_image 44 = .ok (.bastore, 1) := by decide +kernel
theorem dX8_image_45 : decode cX8_image 45 = .ok (.iconst 1, 1) := by decide +kernel
theorem dX8_image_46 : decode cX8_image 46 = .ok (.ireturn, 1) := by decide +kernel
theorem dX8_restore_0 : decode cX8_restore 0 = .ok (.iload_n 1, 1) := by decide +kernel
theorem dX8_restore_1 : decode cX8_restore 1 = .ok (.iconst 0, 1) := by decide +kernel
theorem dX8_restore_2 : decode cX8_restore 2 = .ok (.iconst 1, 1) := by decide +kernel
theorem dX8_restore_3 : decode cX8_restore 3 = .ok (.invokestatic 66, 3) := by decide +kernel
theorem dX8_restore_6 : decode cX8_restore 6 = .ok (.ifCond .ne 6, 3) := by decide +kernel
theorem dX8_restore_9 : decode cX8_restore 9 = .ok (.bipush (-2), 2) := by decide +kernel
theorem dX8_restore_11 : decode cX8_restore 11 = .ok (.ireturn, 1) := by decide +kernel
theorem dX8_restore_12 : decode cX8_restore 12 = .ok (.aload_n 0, 1) := by decide +kernel
theorem dX8_restore_13 : decode cX8_restore 13 = .ok (.getfield 52, 3) := by decide +kernel
theorem dX8_restore_16 : decode cX8_restore 16 = .ok (.iload_n 1, 1) := by decide +kernel
theorem dX8_restore_17 : decode cX8_restore 17 = .ok (.baload, 1) := by decide +kernel
theorem dX8_restore_18 : decode cX8_restore 18 = .ok (.ifCond .ne 6, 3) := by decide +kernel
theorem dX8_restore_21 : decode cX8_restore 21 = .ok (.bipush (-3), 2) := by decide +kernel
theorem dX8_restore_23 : decode cX8_restore 23 = .ok (.ireturn, 1) := by decide +kernel
theorem dX8_restore_24 : decode cX8_restore 24 = .ok (.aload_n 0, 1) := by decide +kernel
theorem dX8_restore_25 : decode cX8_restore 25 = .ok (.getfield 10, 3) := by decide +kernel
theorem dX8_restore_28 : decode cX8_restore 28 = .ok (.aload_n 0, 1) := by decide +kernel
theorem dX8_restore_29 : decode cX8_restore 29 = .ok (.getfield 44, 3) := by decide +kernel
theorem dX8_restore_32 : decode cX8_restore 32 = .ok (.iload_n 1, 1) := by decide +kernel
theorem dX8_restore_33 : decode cX8_restore 33 = .ok (.aaload, 1) := by decide +kernel
theorem dX8_restore_34 : decode cX8_restore 34 = .ok (.invokevirtual 137, 3) := by decide +kernel
theorem dX8_restore_37 : decode cX8_restore 37 = .ok (.aload_n 0, 1) := by decide +kernel
theorem dX8_restore_38 : decode cX8_restore 38 = .ok (.getfield 19, 3) := by decide +kernel
theorem dX8_restore_41 : decode cX8_restore 41 = .ok (.aload_n 0, 1) := by decide +kernel
theorem dX8_restore_42 : decode cX8_restore 42 = .ok (.getfield 48, 3) := by decide +kernel
theorem dX8_restore_45 : decode cX8_restore 45 = .ok (.iload_n 1, 1) := by decide +kernel
theorem dX8_restore_46 : decode cX8_restore 46 = .ok (.aaload, 1) := by decide +kernel
theorem dX8_restore_47 : decode cX8_restore 47 = .ok (.invokevirtual 221, 3) := by decide +kernel
theorem dX8_restore_50 : decode cX8_restore 50 = .ok (.iconst 1, 1) := by decide +kernel
theorem dX8_restore_51 : decode cX8_restore 51 = .ok (.ireturn, 1) := by decide +kernel
theorem dX8_told_0 : decode cX8_told 0 = .ok (.iload_n 1, 1) := by decide +kernel
theorem dX8_told_1 : decode cX8_told 1 = .ok (.bipush 100, 2) := by decide +kernel
theorem dX8_told_3 : decode cX8_told 3 = .ok (.sipush 399, 3) := by decide +kernel
theorem dX8_told_6 : decode cX8_told 6 = .ok (.invokestatic 66, 3) := by decide +kernel
theorem dX8_told_9 : decode cX8_told 9 = .ok (.ifCond .eq 16, 3) := by decide +kernel
theorem dX8_told_12 : decode cX8_told 12 = .ok (.aload_n 0, 1) := by decide +kernel
theorem dX8_told_13 : decode cX8_told 13 = .ok (.iload_n 1, 1) := by decide +kernel
theorem dX8_told_14 : decode cX8_told 14 = .ok (.bipush 100, 2) := by decide +kernel
theorem dX8_told_16 : decode cX8_told 16 = .ok (.idiv, 1) := by decide +kernel
theorem dX8_told_17 : decode cX8_told 17 = .ok (.iload_n 1, 1) := by decide +kernel
theorem dX8_told_18 : decode cX8_told 18 = .ok (.bipush 100, 2) := by decide +kernel
theorem dX8_told_20 : decode cX8_told 20 = .ok (.irem, 1) := by decide +kernel
theorem dX8_told_21 : decode cX8_told 21 = .ok (.invokevirtual 224, 3) := by decide +kernel
theorem dX8_told_24 : decode cX8_told 24 = .ok (.ireturn, 1) := by decide +kernel
theorem dX8_told_25 : decode cX8_told 25 = .ok (.iload_n 1, 1) := by decide +kernel
theorem dX8_told_26 : decode cX8_told 26 = .ok (.bipush 10, 2) := by decide +kernel
theorem dX8_told_28 : decode cX8_told 28 = .ok (.bipush 49, 2) := by decide +kernel
theorem dX8_told_30 : decode cX8_told 30 = .ok (.invokestatic 66, 3) := by decide +kernel
theorem dX8_told_33 : decode cX8_told 33 = .ok (.ifCond .eq 16, 3) := by decide +kernel
theorem dX8_told_36 : decode cX8_told 36 = .ok (.aload_n 0, 1) := by decide +kernel
theorem dX8_told_37 : decode cX8_told 37 = .ok (.iload_n 1, 1) := by decide +kernel
theorem dX8_told_38 : decode cX8_told 38 = .ok (.bipush 10, 2) := by decide +kernel
theorem dX8_told_40 : decode cX8_told 40 = .ok (.idiv, 1) := by decide +kernel
theorem dX8_told_41 : decode cX8_told 41 = .ok (.iload_n 1, 1) := by decide +kernel
theorem dX8_told_42 : decode cX8_told 42 = .ok (.bipush 10, 2) := by decide +kernel
theorem dX8_told_44 : decode cX8_told 44 = .ok (.irem, 1) := by decide +kernel
theorem dX8_told_45 : decode cX8_told 45 = .ok (.invokevirtual 228, 3) := by decide +kernel
theorem dX8_told_48 : decode cX8_told 48 = .ok (.ireturn, 1) := by decide +kernel
theorem dX8_told_49 : decode cX8_told 49 = .ok (.iload_n 1, 1) := by decide +kernel
theorem dX8_told_50 : decode cX8_told 50 = .ok (.tableswitch 74 0 4 #[34, 42, 50, 58, 66], 34) := by decide +kernel
theorem dX8_told_84 : decode cX8_told 84 = .ok (.aload_n 0, 1) := by decide +kernel
theorem dX8_told_85 : decode cX8_told 85 = .ok (.getfield 26, 3) := by decide +kernel
theorem dX8_told_88 : decode cX8_told 88 = .ok (.getfield 231, 3) := by decide +kernel
theorem dX8_told_91 : decode cX8_told 91 = .ok (.ireturn, 1) := by decide +kernel
theorem dX8_told_92 : decode cX8_told 92 = .ok (.aload_n 0, 1) := by decide +kernel
theorem dX8_told_93 : decode cX8_told 93 = .ok (.getfield 10, 3) := by decide +kernel
theorem dX8_told_96 : decode cX8_told 96 = .ok (.invokevirtual 119, 3) := by decide +kernel
theorem dX8_told_99 : decode cX8_told 99 = .ok (.ireturn, 1) := by decide +kernel
theorem dX8_told_100 : decode cX8_told 100 = .ok (.aload_n 0, 1) := by decide +kernel
theorem dX8_told_101 : decode cX8_told 101 = .ok (.getfield 10, 3) := by decide +kernel
theorem dX8_told_104 : decode cX8_told 104 = .ok (.invokevirtual 125, 3) := by decide +kernel
theorem dX8_told_107 : decode cX8_told 107 = .ok (.ireturn, 1) := by decide +kernel
theorem dX8_told_108 : decode cX8_told 108 = .ok (.aload_n 0, 1) := by decide +kernel
theorem dX8_told_109 : decode cX8_told 109 = .ok (.getfield 10, 3) := by decide +kernel
theorem dX8_told_112 : decode cX8_told 112 = .ok (.getfield 128, 3) := by decide +kernel
theorem dX8_told_115 : decode cX8_told 115 = .ok (.ireturn, 1) := by decide +kernel
theorem dX8_told_116 : decode cX8_told 116 = .ok (.aload_n 0, 1) := by decide +kernel
theorem dX8_told_117 : decode cX8_told 117 = .ok (.getfield 19, 3) := by decide +kernel
theorem dX8_told_120 : decode cX8_told 120 = .ok (.getfield 234, 3) := by decide +kernel
theorem dX8_told_123 : decode cX8_told 123 = .ok (.ireturn, 1) := by decide +kernel
theorem dX8_told_124 : decode cX8_told 124 = .ok (.bipush (-2), 2) := by decide +kernel
theorem dX8_told_126 : decode cX8_told 126 = .ok (.ireturn, 1) := by decide +kernel
theorem dX8_toldOfPlace_0 : decode cX8_toldOfPlace 0 = .ok (.iload_n 2, 1) := by decide +kernel
theorem dX8_toldOfPlace_1 : decode cX8_toldOfPlace 1 = .ok (.invokestatic 56, 3) := by decide +kernel
theorem dX8_toldOfPlace_4 : decode cX8_toldOfPlace 4 = .ok (.ifCond .ne 6, 3) := by decide +kernel
theorem dX8_toldOfPlace_7 : decode cX8_toldOfPlace 7 = .ok (.bipush (-2), 2) := by decide +kernel
theorem dX8_toldOfPlace_9 : decode cX8_toldOfPlace 9 = .ok (.ireturn, 1) := by decide +kernel
theorem dX8_toldOfPlace_10 : decode cX8_toldOfPlace 10 = .ok (.iload_n 1, 1) := by decide +kernel
theorem dX8_toldOfPlace_11 : decode cX8_toldOfPlace 11 = .ok (.lookupswitch 45 #[(1, 25), (2, 35)], 25) := by decide +kernel
theorem dX8_toldOfPlace_36 : decode cX8_toldOfPlace 36 = .ok (.aload_n 0, 1) := by decide +kernel
theorem dX8_toldOfPlace_37 : decode cX8_toldOfPlace 37 = .ok (.getfield 10, 3) := by decide +kernel
theorem dX8_toldOfPlace_40 : decode cX8_toldOfPlace 40 = .ok (.getfield 70, 3) := by decide +kernel
theorem dX8_toldOfPlace_43 : decode cX8_toldOfPlace 43 = .ok (.iload_n 2, 1) := by decide +kernel
theorem dX8_toldOfPlace_44 : decode cX8_toldOfPlace 44 = .ok (.iaload, 1) := by decide +kernel
theorem dX8_toldOfPlace_45 : decode cX8_toldOfPlace 45 = .ok (.ireturn, 1) := by decide +kernel
theorem dX8_toldOfPlace_46 : decode cX8_toldOfPlace 46 = .ok (.aload_n 0, 1) := by decide +kernel
theorem dX8_toldOfPlace_47 : decode cX8_toldOfPlace 47 = .ok (.getfield 10, 3) := by decide +kernel
theorem dX8_toldOfPlace_50 : decode cX8_toldOfPlace 50 = .ok (.getfield 74, 3) := by decide +kernel
theorem dX8_toldOfPlace_53 : decode cX8_toldOfPlace 53 = .ok (.iload_n 2, 1) := by decide +kernel
theorem dX8_toldOfPlace_54 : decode cX8_toldOfPlace 54 = .ok (.iaload, 1) := by decide +kernel
theorem dX8_toldOfPlace_55 : decode cX8_toldOfPlace 55 = .ok (.ireturn, 1) := by decide +kernel
theorem dX8_toldOfPlace_56 : decode cX8_toldOfPlace 56 = .ok (.aload_n 0, 1) := by decide +kernel
theorem dX8_toldOfPlace_57 : decode cX8_toldOfPlace 57 = .ok (.getfield 10, 3) := by decide +kernel
theorem dX8_toldOfPlace_60 : decode cX8_toldOfPlace 60 = .ok (.getfield 77, 3) := by decide +kernel
theorem dX8_toldOfPlace_63 : decode cX8_toldOfPlace 63 = .ok (.iload_n 2, 1) := by decide +kernel
theorem dX8_toldOfPlace_64 : decode cX8_toldOfPlace 64 = .ok (.iaload, 1) := by decide +kernel
theorem dX8_toldOfPlace_65 : decode cX8_toldOfPlace 65 = .ok (.ireturn, 1) := by decide +kernel
theorem dX8_toldOfHeir_0 : decode cX8_toldOfHeir 0 = .ok (.iload_n 2, 1) := by decide +kernel
theorem dX8_toldOfHeir_1 : decode cX8_toldOfHeir 1 = .ok (.invokestatic 60, 3) := by decide +kernel
theorem dX8_toldOfHeir_4 : decode cX8_toldOfHeir 4 = .ok (.ifCond .ne 6, 3) := by decide +kernel
theorem dX8_toldOfHeir_7 : decode cX8_toldOfHeir 7 = .ok (.bipush (-2), 2) := by decide +kernel
theorem dX8_toldOfHeir_9 : decode cX8_toldOfHeir 9 = .ok (.ireturn, 1) := by decide +kernel
theorem dX8_toldOfHeir_10 : decode cX8_toldOfHeir 10 = .ok (.iload_n 1, 1) := by decide +kernel
theorem dX8_toldOfHeir_11 : decode cX8_toldOfHeir 11 = .ok (.tableswitch 55 1 3 #[25, 35, 45], 25) := by decide +kernel
theorem dX8_toldOfHeir_36 : decode cX8_toldOfHeir 36 = .ok (.aload_n 0, 1) := by decide +kernel
theorem dX8_toldOfHeir_37 : decode cX8_toldOfHeir 37 = .ok (.getfield 10, 3) := by decide +kernel
theorem dX8_toldOfHeir_40 : decode cX8_toldOfHeir 40 = .ok (.getfield 80, 3) := by decide +kernel
theorem dX8_toldOfHeir_43 : decode cX8_toldOfHeir 43 = .ok (.iload_n 2, 1) := by decide +kernel
theorem dX8_toldOfHeir_44 : decode cX8_toldOfHeir 44 = .ok (.iaload, 1) := by decide +kernel
theorem dX8_toldOfHeir_45 : decode cX8_toldOfHeir 45 = .ok (.ireturn, 1) := by decide +kernel
theorem dX8_toldOfHeir_46 : decode cX8_toldOfHeir 46 = .ok (.aload_n 0, 1) := by decide +kernel
theorem dX8_toldOfHeir_47 : decode cX8_toldOfHeir 47 = .ok (.getfield 10, 3) := by decide +kernel
theorem dX8_toldOfHeir_50 : decode cX8_toldOfHeir 50 = .ok (.getfield 83, 3) := by decide +kernel
theorem dX8_toldOfHeir_53 : decode cX8_toldOfHeir 53 = .ok (.iload_n 2, 1) := by decide +kernel
theorem dX8_toldOfHeir_54 : decode cX8_toldOfHeir 54 = .ok (.iaload, 1) := by decide +kernel
theorem dX8_toldOfHeir_55 : decode cX8_toldOfHeir 55 = .ok (.ireturn, 1) := by decide +kernel
theorem dX8_toldOfHeir_56 : decode cX8_toldOfHeir 56 = .ok (.aload_n 0, 1) := by decide +kernel
theorem dX8_toldOfHeir_57 : decode cX8_toldOfHeir 57 = .ok (.getfield 10, 3) := by decide +kernel
theorem dX8_toldOfHeir_60 : decode cX8_toldOfHeir 60 = .ok (.getfield 86, 3) := by decide +kernel
theorem dX8_toldOfHeir_63 : decode cX8_toldOfHeir 63 = .ok (.iload_n 2, 1) := by decide +kernel
theorem dX8_toldOfHeir_64 : decode cX8_toldOfHeir 64 = .ok (.iaload, 1) := by decide +kernel
theorem dX8_toldOfHeir_65 : decode cX8_toldOfHeir 65 = .ok (.ireturn, 1) := by decide +kernel
theorem dX8_toldOfHeir_66 : decode cX8_toldOfHeir 66 = .ok (.aload_n 0, 1) := by decide +kernel
theorem dX8_toldOfHeir_67 : decode cX8_toldOfHeir 67 = .ok (.getfield 10, 3) := by decide +kernel
theorem dX8_toldOfHeir_70 : decode cX8_toldOfHeir 70 = .ok (.getfield 89, 3) := by decide +kernel
theorem dX8_toldOfHeir_73 : decode cX8_toldOfHeir 73 = .ok (.iload_n 2, 1) := by decide +kernel
theorem dX8_toldOfHeir_74 : decode cX8_toldOfHeir 74 = .ok (.iaload, 1) := by decide +kernel
theorem dX8_toldOfHeir_75 : decode cX8_toldOfHeir 75 = .ok (.ireturn, 1) := by decide +kernel
theorem dX8_followText_0 : decode cX8_followText 0 = .ok (.aload_n 0, 1) := by decide +kernel
theorem dX8_followText_1 : decode cX8_followText 1 = .ok (.getfield 26, 3) := by decide +kernel
theorem dX8_followText_4 : decode cX8_followText 4 = .ok (.invokevirtual 100, 3) := by decide +kernel
theorem dX8_followText_7 : decode cX8_followText 7 = .ok (.bipush (-6), 2) := by decide +kernel
theorem dX8_followText_9 : decode cX8_followText 9 = .ok (.if_icmp .eq 6, 3) := by decide +kernel
theorem dX8_followText_12 : decode cX8_followText 12 = .ok (.bipush (-5), 2) := by decide +kernel
theorem dX8_followText_14 : decode cX8_followText 14 = .ok (.ireturn, 1) := by decide +kernel
theorem dX8_followText_15 : decode cX8_followText 15 = .ok (.aload_n 0, 1) := by decide +kernel
theorem dX8_followText_16 : decode cX8_followText 16 = .ok (.getfield 33, 3) := by decide +kernel
theorem dX8_followText_19 : decode cX8_followText 19 = .ok (.aload_n 0, 1) := by decide +kernel
theorem dX8_followText_20 : decode cX8_followText 20 = .ok (.getfield 10, 3) := by decide +kernel
theorem dX8_followText_23 : decode cX8_followText 23 = .ok (.aload_n 0, 1) := by decide +kernel
theorem dX8_followText_24 : decode cX8_followText 24 = .ok (.getfield 26, 3) := by decide +kernel
theorem dX8_followText_27 : decode cX8_followText 27 = .ok (.invokevirtual 235, 3) := by decide +kernel
theorem dX8_followText_30 : decode cX8_followText 30 = .ok (.aload_n 0, 1) := by decide +kernel
theorem dX8_followText_31 : decode cX8_followText 31 = .ok (.getfield 33, 3) := by decide +kernel
theorem dX8_followText_34 : decode cX8_followText 34 = .ok (.getfield 106, 3) := by decide +kernel
theorem dX8_followText_37 : decode cX8_followText 37 = .ok (.bipush (-6), 2) := by decide +kernel
theorem dX8_followText_39 : decode cX8_followText 39 = .ok (.if_icmp .ne 7, 3) := by decide +kernel
theorem dX8_followText_42 : decode cX8_followText 42 = .ok (.iconst 0, 1) := by decide +kernel
theorem dX8_followText_43 : decode cX8_followText 43 = .ok (.goto 5, 3) := by decide +kernel
theorem dX8_followText_46 : decode cX8_followText 46 = .ok (.bipush (-3), 2) := by decide +kernel
theorem dX8_followText_48 : decode cX8_followText 48 = .ok (.ireturn, 1) := by decide +kernel
theorem dX8_isWithin_0 : decode cX8_isWithin 0 = .ok (.iload_n 0, 1) := by decide +kernel
theorem dX8_isWithin_1 : decode cX8_isWithin 1 = .ok (.iload_n 1, 1) := by decide +kernel
theorem dX8_isWithin_2 : decode cX8_isWithin 2 = .ok (.if_icmp .lt 12, 3) := by decide +kernel
theorem dX8_isWithin_5 : decode cX8_isWithin 5 = .ok (.iload_n 0, 1) := by decide +kernel
theorem dX8_isWithin_6 : decode cX8_isWithin 6 = .ok (.iload_n 2, 1) := by decide +kernel
theorem dX8_isWithin_7 : decode cX8_isWithin 7 = .ok (.if_icmp .gt 7, 3) := by decide +kernel
theorem dX8_isWithin_10 : decode cX8_isWithin 10 = .ok (.iconst 1, 1) := by decide +kernel
theorem dX8_isWithin_11 : decode cX8_isWithin 11 = .ok (.goto 4, 3) := by decide +kernel
theorem dX8_isWithin_14 : decode cX8_isWithin 14 = .ok (.iconst 0, 1) := by decide +kernel
theorem dX8_isWithin_15 : decode cX8_isWithin 15 = .ok (.ireturn, 1) := by decide +kernel
theorem dX8_isPlace_0 : decode cX8_isPlace 0 = .ok (.iload_n 0, 1) := by decide +kernel
theorem dX8_isPlace_1 : decode cX8_isPlace 1 = .ok (.iconst 0, 1) := by decide +kernel
theorem dX8_isPlace_2 : decode cX8_isPlace 2 = .ok (.bipush 39, 2) := by decide +kernel
theorem dX8_isPlace_4 : decode cX8_isPlace 4 = .ok (.invokestatic 66, 3) := by decide +kernel
theorem dX8_isPlace_7 : decode cX8_isPlace 7 = .ok (.ireturn, 1) := by decide +kernel
theorem dX8_isHeir_0 : decode cX8_isHeir 0 = .ok (.iload_n 0, 1) := by decide +kernel
theorem dX8_isHeir_1 : decode cX8_isHeir 1 = .ok (.iconst 0, 1) := by decide +kernel
theorem dX8_isHeir_2 : decode cX8_isHeir 2 = .ok (.iconst 5, 1) := by decide +kernel
theorem dX8_isHeir_3 : decode cX8_isHeir 3 = .ok (.invokestatic 66, 3) := by decide +kernel
theorem dX8_isHeir_6 : decode cX8_isHeir 6 = .ok (.ireturn, 1) := by decide +kernel
theorem dX8_isBeat_0 : decode cX8_isBeat 0 = .ok (.iload_n 0, 1) := by decide +kernel
theorem dX8_isBeat_1 : decode cX8_isBeat 1 = .ok (.iconst 1, 1) := by decide +kernel
theorem dX8_isBeat_2 : decode cX8_isBeat 2 = .ok (.bipush 9, 2) := by decide +kernel
theorem dX8_isBeat_4 : decode cX8_isBeat 4 = .ok (.invokestatic 66, 3) := by decide +kernel
theorem dX8_isBeat_7 : decode cX8_isBeat 7 = .ok (.ireturn, 1) := by decide +kernel
theorem dX8_lowestTerm_0 : decode cX8_lowestTerm 0 = .ok (.lload_n 0, 1) := by decide +kernel
theorem dX8_lowestTerm_1 : decode cX8_lowestTerm 1 = .ok (.lload_n 2, 1) := by decide +kernel
theorem dX8_lowestTerm_2 : decode cX8_lowestTerm 2 = .ok (.invokestatic 239, 3) := by decide +kernel
theorem dX8_lowestTerm_5 : decode cX8_lowestTerm 5 = .ok (.lstore 5, 2) := by decide +kernel
theorem dX8_lowestTerm_7 : decode cX8_lowestTerm 7 = .ok (.iload 4, 2) := by decide +kernel
theorem dX8_lowestTerm_9 : decode cX8_lowestTerm 9 = .ok (.ifCond .ne 7, 3) := by decide +kernel
theorem dX8_lowestTerm_12 : decode cX8_lowestTerm 12 = .ok (.lload_n 0, 1) := by decide +kernel
theorem dX8_lowestTerm_13 : decode cX8_lowestTerm 13 = .ok (.goto 4, 3) := by decide +kernel
theorem dX8_lowestTerm_16 : decode cX8_lowestTerm 16 = .ok (.lload_n 2, 1) := by decide +kernel
theorem dX8_lowestTerm_17 : decode cX8_lowestTerm 17 = .ok (.lstore 7, 2) := by decide +kernel
theorem dX8_lowestTerm_19 : decode cX8_lowestTerm 19 = .ok (.lload 5, 2) := by decide +kernel
theorem dX8_lowestTerm_21 : decode cX8_lowestTerm 21 = .ok (.lconst 0, 1) := by decide +kernel
theorem dX8_lowestTerm_22 : decode cX8_lowestTerm 22 = .ok (.lcmp, 1) := by decide +kernel
theorem dX8_lowestTerm_23 : decode cX8_lowestTerm 23 = .ok (.ifCond .le 11, 3) := by decide +kernel
theorem dX8_lowestTerm_26 : decode cX8_lowestTerm 26 = .ok (.lload 7, 2) := by decide +kernel
theorem dX8_lowestTerm_28 : decode cX8_lowestTerm 28 = .ok (.lload 5, 2) := by decide +kernel
theorem dX8_lowestTerm_30 : decode cX8_lowestTerm 30 = .ok (.ldiv, 1) := by decide +kernel
theorem dX8_lowestTerm_31 : decode cX8_lowestTerm 31 = .ok (.goto 5, 3) := by decide +kernel
theorem dX8_lowestTerm_34 : decode cX8_lowestTerm 34 = .ok (.lload 7, 2) := by decide +kernel
theorem dX8_lowestTerm_36 : decode cX8_lowestTerm 36 = .ok (.lreturn, 1) := by decide +kernel
theorem dX8_commonDivisor_0 : decode cX8_commonDivisor 0 = .ok (.lload_n 0, 1) := by decide +kernel
theorem dX8_commonDivisor_1 : decode cX8_commonDivisor 1 = .ok (.lstore 4, 2) := by decide +kernel
theorem dX8_commonDivisor_3 : decode cX8_commonDivisor 3 = .ok (.lload_n 2, 1) := by decide +kernel
theorem dX8_commonDivisor_4 : decode cX8_commonDivisor 4 = .ok (.lstore 6, 2) := by decide +kernel
theorem dX8_commonDivisor_6 : decode cX8_commonDivisor 6 = .ok (.iconst 0, 1) := by decide +kernel
theorem dX8_commonDivisor_7 : decode cX8_commonDivisor 7 = .ok (.istore 8, 2) := by decide +kernel
theorem dX8_commonDivisor_9 : decode cX8_commonDivisor 9 = .ok (.iload 8, 2) := by decide +kernel
theorem dX8_commonDivisor_11 : decode cX8_commonDivisor 11 = .ok (.sipush 128, 3) := by decide +kernel
theorem dX8_commonDivisor_14 : decode cX8_commonDivisor 14 = .ok (.if_icmp .ge 31, 3) := by decide +kernel
theorem dX8_commonDivisor_17 : decode cX8_commonDivisor 17 = .ok (.lload 6, 2) := by decide +kernel
theorem dX8_commonDivisor_19 : decode cX8_commonDivisor 19 = .ok (.lconst 0, 1) := by decide +kernel
theorem dX8_commonDivisor_20 : decode cX8_commonDivisor 20 = .ok (.lcmp, 1) := by decide +kernel
theorem dX8_commonDivisor_21 : decode cX8_commonDivisor 21 = .ok (.ifCond .eq 24, 3) := by decide +kernel
theorem dX8_commonDivisor_24 : decode cX8_commonDivisor 24 = .ok (.lload 4, 2) := by decide +kernel
theorem dX8_commonDivisor_26 : decode cX8_commonDivisor 26 = .ok (.lload 6, 2) := by decide +kernel
theorem dX8_commonDivisor_28 : decode cX8_commonDivisor 28 = .ok (.lrem, 1) := by decide +kernel
theorem dX8_commonDivisor_29 : decode cX8_commonDivisor 29 = .ok (.lstore 9, 2) := by decide +kernel
theorem dX8_commonDivisor_31 : decode cX8_commonDivisor 31 = .ok (.lload 6, 2) := by decide +kernel
theorem dX8_commonDivisor_33 : decode cX8_commonDivisor 33 = .ok (.lstore 4, 2) := by decide +kernel
theorem dX8_commonDivisor_35 : decode cX8_commonDivisor 35 = .ok (.lload 9, 2) := by decide +kernel
theorem dX8_commonDivisor_37 : decode cX8_commonDivisor 37 = .ok (.lstore 6, 2) := by decide +kernel
theorem dX8_commonDivisor_39 : decode cX8_commonDivisor 39 = .ok (.iinc 8 1, 3) := by decide +kernel
theorem dX8_commonDivisor_42 : decode cX8_commonDivisor 42 = .ok (.goto (-33), 3) := by decide +kernel
theorem dX8_commonDivisor_45 : decode cX8_commonDivisor 45 = .ok (.lload 4, 2) := by decide +kernel
theorem dX8_commonDivisor_47 : decode cX8_commonDivisor 47 = .ok (.lreturn, 1) := by decide +kernel
theorem dX8_firstTaking_0 : decode cX8_firstTaking 0 = .ok (.iconst 1, 1) := by decide +kernel
theorem dX8_firstTaking_1 : decode cX8_firstTaking 1 = .ok (.istore_n 1, 1) := by decide +kernel
theorem dX8_firstTaking_2 : decode cX8_firstTaking 2 = .ok (.iconst 1, 1) := by decide +kernel
theorem dX8_firstTaking_3 : decode cX8_firstTaking 3 = .ok (.istore_n 2, 1) := by decide +kernel
theorem dX8_firstTaking_4 : decode cX8_firstTaking 4 = .ok (.iload_n 2, 1) := by decide +kernel
theorem dX8_firstTaking_5 : decode cX8_firstTaking 5 = .ok (.iload_n 0, 1) := by decide +kernel
theorem dX8_firstTaking_6 : decode cX8_firstTaking 6 = .ok (.if_icmp .gt 21, 3) := by decide +kernel
theorem dX8_firstTaking_9 : decode cX8_firstTaking 9 = .ok (.iload_n 2, 1) := by decide +kernel
theorem dX8_firstTaking_10 : decode cX8_firstTaking 10 = .ok (.sipush 999, 3) := by decide +kernel
theorem dX8_firstTaking_13 : decode cX8_firstTaking 13 = .ok (.if_icmp .gt 14, 3) := by decide +kernel
theorem dX8_firstTaking_16 : decode cX8_firstTaking 16 = .ok (.iload_n 2, 1) := by decide +kernel
theorem dX8_firstTaking_17 : decode cX8_firstTaking 17 = .ok (.istore_n 1, 1) := by decide +kernel
theorem dX8_firstTaking_18 : decode cX8_firstTaking 18 = .ok (.iconst 2, 1) := by decide +kernel
theorem dX8_firstTaking_19 : decode cX8_firstTaking 19 = .ok (.iload_n 2, 1) := by decide +kernel
theorem dX8_firstTaking_20 : decode cX8_firstTaking 20 = .ok (.imul, 1) := by decide +kernel
theorem dX8_firstTaking_21 : decode cX8_firstTaking 21 = .ok (.iconst 1, 1) := by decide +kernel
theorem dX8_firstTaking_22 : decode cX8_firstTaking 22 = .ok (.iadd, 1) := by decide +kernel
theorem dX8_firstTaking_23 : decode cX8_firstTaking 23 = .ok (.istore_n 2, 1) := by decide +kernel
theorem dX8_firstTaking_24 : decode cX8_firstTaking 24 = .ok (.goto (-20), 3) := by decide +kernel
theorem dX8_firstTaking_27 : decode cX8_firstTaking 27 = .ok (.iload_n 0, 1) := by decide +kernel
theorem dX8_firstTaking_28 : decode cX8_firstTaking 28 = .ok (.iload_n 1, 1) := by decide +kernel
theorem dX8_firstTaking_29 : decode cX8_firstTaking 29 = .ok (.isub, 1) := by decide +kernel
theorem dX8_firstTaking_30 : decode cX8_firstTaking 30 = .ok (.ireturn, 1) := by decide +kernel
theorem dX9_init_0 : decode cX9_init 0 = .ok (.aload_n 0, 1) := by decide +kernel
theorem dX9_init_1 : decode cX9_init 1 = .ok (.invokespecial 1, 3) := by decide +kernel
theorem dX9_init_4 : decode cX9_init 4 = .ok (.aload_n 0, 1) := by decide +kernel
theorem dX9_init_5 : decode cX9_init 5 = .ok (.bipush 40, 2) := by decide +kernel
theorem dX9_init_7 : decode cX9_init 7 = .ok (.newarray .int, 2) := by decide +kernel
theorem dX9_init_9 : decode cX9_init 9 = .ok (.putfield 7, 3) := by decide +kernel
theorem dX9_init_12 : decode cX9_init 12 = .ok (.aload_n 0, 1) := by decide +kernel
theorem dX9_init_13 : decode cX9_init 13 = .ok (.bipush 40, 2) := by decide +kernel
theorem dX9_init_15 : decode cX9_init 15 = .ok (.newarray .int, 2) := by decide +kernel
theorem dX9_init_17 : decode cX9_init 17 = .ok (.putfield 13, 3) := by decide +kernel
theorem dX9_init_20 : decode cX9_init 20 = .ok (.aload_n 0, 1) := by decide +kernel
theorem dX9_init_21 : decode cX9_init 21 = .ok (.bipush 40, 2) := by decide +kernel
theorem dX9_init_23 : decode cX9_init 23 = .ok (.newarray .int, 2) := by decide +kernel
theorem dX9_init_25 : decode cX9_init 25 = .ok (.putfield 16, 3) := by decide +kernel
theorem dX9_init_28 : decode cX9_init 28 = .ok (.aload_n 0, 1) := by decide +kernel
theorem dX9_init_29 : decode cX9_init 29 = .ok (.bipush 6, 2) := by decide +kernel
theorem dX9_init_31 : decode cX9_init 31 = .ok (.newarray .int, 2) := by decide +kernel
theorem dX9_init_33 : decode cX9_init 33 = .ok (.putfield 19, 3) := by decide +kernel
theorem dX9_init_36 : decode cX9_init 36 = .ok (.aload_n 0, 1) := by decide +kernel
theorem dX9_init_37 : decode cX9_init 37 = .ok (.bipush 6, 2) := by decide +kernel
theorem dX9_init_39 : decode cX9_init 39 = .ok (.newarray .int, 2) := by decide +kernel
theorem dX9_init_41 : decode cX9_init 41 = .ok (.putfield 22, 3) := by decide +kernel
theorem dX9_init_44 : decode cX9_init 44 = .ok (.aload_n 0, 1) := by decide +kernel
theorem dX9_init_45 : decode cX9_init 45 = .ok (.bipush 6, 2) := by decide +kernel
theorem dX9_init_47 : decode cX9_init 47 = .ok (.newarray .int, 2) := by decide +kernel
theorem dX9_init_49 : decode cX9_init 49 = .ok (.putfield 25, 3) := by decide +kernel
theorem dX9_init_52 : decode cX9_init 52 = .ok (.aload_n 0, 1) := by decide +kernel
theorem dX9_init_53 : decode cX9_init 53 = .ok (.bipush 6, 2) := by decide +kernel
theorem dX9_init_55 : decode cX9_init 55 = .ok (.newarray .int, 2) := by decide +kernel
theorem dX9_init_57 : decode cX9_init 57 = .ok (.putfield 28, 3) := by decide +kernel
theorem dX9_init_60 : decode cX9_init 60 = .ok (.aload_n 0, 1) := by decide +kernel
theorem dX9_init_61 : decode cX9_init 61 = .ok (.bipush 8, 2) := by decide +kernel
theorem dX9_init_63 : decode cX9_init 63 = .ok (.newarray .int, 2) := by decide +kernel
theorem dX9_init_65 : decode cX9_init 65 = .ok (.putfield 31, 3) := by decide +kernel
theorem dX9_init_68 : decode cX9_init 68 = .ok (.aload_n 0, 1) := by decide +kernel
theorem dX9_init_69 : decode cX9_init 69 = .ok (.bipush 8, 2) := by decide +kernel
theorem dX9_init_71 : decode cX9_init 71 = .ok (.newarray .int, 2) := by decide +kernel
theorem dX9_init_73 : decode cX9_init 73 = .ok (.putfield 34, 3) := by decide +kernel
theorem dX9_init_76 : decode cX9_init 76 = .ok (.aload_n 0, 1) := by decide +kernel
theorem dX9_init_77 : decode cX9_init 77 = .ok (.bipush 8, 2) := by decide +kernel
theorem dX9_init_79 : decode cX9_init 79 = .ok (.newarray .int, 2) := by decide +kernel
theorem dX9_init_81 : decode cX9_init 81 = .ok (.putfield 37, 3) := by decide +kernel
theorem dX9_init_84 : decode cX9_init 84 = .ok (.aload_n 0, 1) := by decide +kernel
theorem dX9_init_85 : decode cX9_init 85 = .ok (.bipush 60, 2) := by decide +kernel
theorem dX9_init_87 : decode cX9_init 87 = .ok (.newarray .int, 2) := by decide +kernel
theorem dX9_init_89 : decode cX9_init 89 = .ok (.putfield 40, 3) := by decide +kernel
theorem dX9_init_92 : decode cX9_init 92 = .ok (.aload_n 0, 1) := by decide +kernel
theorem dX9_init_93 : decode cX9_init 93 = .ok (.bipush 60, 2) := by decide +kernel
theorem dX9_init_95 : decode cX9_init 95 = .ok (.newarray .int, 2) := by decide +kernel
theorem dX9_init_97 : decode cX9_init 97 = .ok (.putfield 43, 3) := by decide +kernel
theorem dX9_init_100 : decode cX9_init 100 = .ok (.aload_n 0, 1) := by decide +kernel
theorem dX9_init_101 : decode cX9_init 101 = .ok (.bipush 60, 2) := by decide +kernel
theorem dX9_init_103 : decode cX9_init 103 = .ok (.newarray .int, 2) := by decide +kernel
theorem dX9_init_105 : decode cX9_init 105 = .ok (.putfield 46, 3) := by decide +kernel
theorem dX9_init_108 : decode cX9_init 108 = .ok (.aload_n 0, 1) := by decide +kernel
theorem dX9_init_109 : decode cX9_init 109 = .ok (.bipush 60, 2) := by decide +kernel
theorem dX9_init_111 : decode cX9_init 111 = .ok (.newarray .int, 2) := by decide +kernel
theorem dX9_init_113 : decode cX9_init 113 = .ok (.putfield 49, 3) := by decide +kernel
theorem dX9_init_116 : decode cX9_init 116 = .ok (.aload_n 0, 1) := by decide +kernel
theorem dX9_init_117 : decode cX9_init 117 = .ok (.sipush 139, 3) := by decide +kernel
theorem dX9_init_120 : decode cX9_init 120 = .ok (.newarray .int, 2) := by decide +kernel
theorem dX9_init_122 : decode cX9_init 122 = .ok (.putfield 52, 3) := by decide +kernel
theorem dX9_init_125 : decode cX9_init 125 = .ok (.aload_n 0, 1) := by decide +kernel
theorem dX9_init_126 : decode cX9_init 126 = .ok (.bipush 9, 2) := by decide +kernel
theorem dX9_init_128 : decode cX9_init 128 = .ok (.newarray .int, 2) := by decide +kernel
theorem dX9_init_130 : decode cX9_init 130 = .ok (.putfield 55, 3) := by decide +kernel
theorem dX9_init_133 : decode cX9_init 133 = .ok (.aload_n 0, 1) := by decide +kernel
theorem dX9_init_134 : decode cX9_init 134 = .ok (.bipush 9, 2) := by decide +kernel
theorem dX9_init_136 : decode cX9_init 136 = .ok (.newarray .int, 2) := by decide +kernel
theorem dX9_init_138 : decode cX9_init 138 = .ok (.putfield 58, 3) := by decide +kernel
theorem dX9_init_141 : decode cX9_init 141 = .ok (.aload_n 0, 1) := by decide +kernel
theorem dX9_init_142 : decode cX9_init 142 = .ok (.bipush 40, 2) := by decide +kernel
theorem dX9_init_144 : decode cX9_init 144 = .ok (.newarray .int, 2) := by decide +kernel
theorem dX9_init_146 : decode cX9_init 146 = .ok (.putfield 61, 3) := by decide +kernel
theorem dX9_init_149 : decode cX9_init 149 = .ok (.aload_n 0, 1) := by decide +kernel
theorem dX9_init_150 : decode cX9_init 150 = .ok (.sipush 1000, 3) := by decide +kernel
theorem dX9_init_153 : decode cX9_init 153 = .ok (.newarray .boolean, 2) := by decide +kernel
theorem dX9_init_155 : decode cX9_init 155 = .ok (.putfield 64, 3) := by decide +kernel
theorem dX9_init_158 : decode cX9_init 158 = .ok (.aload_n 0, 1) := by decide +kernel
theorem dX9_init_159 : decode cX9_init 159 = .ok (.sipush 340, 3) := by decide +kernel
theorem dX9_init_162 : decode cX9_init 162 = .ok (.newarray .int, 2) := by decide +kernel
theorem dX9_init_164 : decode cX9_init 164 = .ok (.putfield 68, 3) := by decide +kernel
theorem dX9_init_167 : decode cX9_init 167 = .ok (.aload_n 0, 1) := by decide +kernel
theorem dX9_init_168 : decode cX9_init 168 = .ok (.iconst 2, 1) := by decide +kernel
theorem dX9_init_169 : decode cX9_init 169 = .ok (.newarray .boolean, 2) := by decide +kernel
theorem dX9_init_171 : decode cX9_init 171 = .ok (.putfield 71, 3) := by decide +kernel
theorem dX9_init_174 : decode cX9_init 174 = .ok (.iconst 0, 1) := by decide +kernel
theorem dX9_init_175 : decode cX9_init 175 = .ok (.istore_n 1, 1) := by decide +kernel
theorem dX9_init_176 : decode cX9_init 176 = .ok (.iload_n 1, 1) := by decide +kernel
theorem dX9_init_177 : decode cX9_init 177 = .ok (.bipush 40, 2) := by decide +kernel
theorem dX9_init_179 : decode cX9_init 179 = .ok (.if_icmp .ge 29, 3) := by decide +kernel
theorem dX9_init_182 : decode cX9_init 182 = .ok (.aload_n 0, 1) := by decide +kernel
theorem dX9_init_183 : decode cX9_init 183 = .ok (.getfield 7, 3) := by decide +kernel
theorem dX9_init_186 : decode cX9_init 186 = .ok (.iload_n 1, 1) := by decide +kernel
theorem dX9_init_187 : decode cX9_init 187 = .ok (.iload_n 1, 1) := by decide +kernel
theorem dX9_init_188 : decode cX9_init 188 = .ok (.bipush 9, 2) := by decide +kernel
theorem dX9_init_190 : decode cX9_init 190 = .ok (.irem, 1) := by decide +kernel
theorem dX9_init_191 : decode cX9_init 191 = .ok (.iconst 1, 1) := by decide +kernel
theorem dX9_init_192 : decode cX9_init 192 = .ok (.iadd, 1) := by decide +kernel
theorem dX9_init_193 : decode cX9_init 193 = .ok (.iastore, 1) := by decide +kernel
theorem dX9_init_194 : decode cX9_init 194 = .ok (.aload_n 0, 1) := by decide +kernel
theorem dX9_init_195 : decode cX9_init 195 = .ok (.getfield 16, 3) := by decide +kernel
theorem dX9_init_198 : decode cX9_init 198 = .ok (.iload_n 1, 1) := by decide +kernel
theorem dX9_init_199 : decode cX9_init 199 = .ok (.bipush (-6), 2) := by decide +kernel
theorem dX9_init_201 : decode cX9_init 201 = .ok (.iastore, 1) := by decide +kernel
theorem dX9_init_202 : decode cX9_init 202 = .ok (.iinc 1 1, 3) := by decide +kernel
theorem dX9_init_205 : decode cX9_init 205 = .ok (.goto (-29), 3) := by decide +kernel
theorem dX9_init_208 : decode cX9_init 208 = .ok (.iconst 0, 1) := by decide +kernel
theorem dX9_init_209 : decode cX9_init 209 = .ok (.istore_n 1, 1) := by decide +kernel
theorem dX9_init_210 : decode cX9_init 210 = .ok (.iload_n 1, 1) := by decide +kernel
theorem dX9_init_211 : decode cX9_init 211 = .ok (.bipush 6, 2) := by decide +kernel
theorem dX9_init_213 : decode cX9_init 213 = .ok (.if_icmp .ge 24, 3) := by decide +kernel
theorem dX9_init_216 : decode cX9_init 216 = .ok (.aload_n 0, 1) := by decide +kernel
theorem dX9_init_217 : decode cX9_init 217 = .ok (.getfield 22, 3) := by decide +kernel
theorem dX9_init_220 : decode cX9_init 220 = .ok (.iload_n 1, 1) := by decide +kernel
theorem dX9_init_221 : decode cX9_init 221 = .ok (.iconst 5, 1) := by decide +kernel
theorem dX9_init_222 : decode cX9_init 222 = .ok (.iastore, 1) := by decide +kernel
theorem dX9_init_223 : decode cX9_init 223 = .ok (.aload_n 0, 1) := by decide +kernel
theorem dX9_init_224 : decode cX9_init 224 = .ok (.getfield 28, 3) := by decide +kernel
theorem dX9_init_227 : decode cX9_init 227 = .ok (.iload_n 1, 1) := by decide +kernel
theorem dX9_init_228 : decode cX9_init 228 = .ok (.bipush (-6), 2) := by decide +kernel
theorem dX9_init_230 : decode cX9_init 230 = .ok (.iastore, 1) := by decide +kernel
theorem dX9_init_231 : decode cX9_init 231 = .ok (.iinc 1 1, 3) := by decide +kernel
theorem dX9_init_234 : decode cX9_init 234 = .ok (.goto (-24), 3) := by decide +kernel
theorem dX9_init_237 : decode cX9_init 237 = .ok (.return_, 1) := by decide +kernel
theorem dX9_in_0 : decode cX9_in 0 = .ok (.lload_n 0, 1) := by decide +kernel
theorem dX9_in_1 : decode cX9_in 1 = .ok (.lload_n 2, 1) := by decide +kernel
theorem dX9_in_2 : decode cX9_in 2 = .ok (.lcmp, 1) := by decide +kernel
theorem dX9_in_3 : decode cX9_in 3 = .ok (.ifCond .lt 14, 3) := by decide +kernel
theorem dX9_in_6 : decode cX9_in 6 = .ok (.lload_n 0, 1) := by decide +kernel
theorem dX9_in_7 : decode cX9_in 7 = .ok (.lload 4, 2) := by decide +kernel
theorem dX9_in_9 : decode cX9_in 9 = .ok (.lcmp, 1) := by decide +kernel
theorem dX9_in_10 : decode cX9_in 10 = .ok (.ifCond .gt 7, 3) := by decide +kernel
theorem dX9_in_13 : decode cX9_in 13 = .ok (.iconst 1, 1) := by decide +kernel
theorem dX9_in_14 : decode cX9_in 14 = .ok (.goto 4, 3) := by decide +kernel
theorem dX9_in_17 : decode cX9_in 17 = .ok (.iconst 0, 1) := by decide +kernel
theorem dX9_in_18 : decode cX9_in 18 = .ok (.ireturn, 1) := by decide +kernel
theorem dX9_isPlace_0 : decode cX9_isPlace 0 = .ok (.iload_n 0, 1) := by decide +kernel
theorem dX9_isPlace_1 : decode cX9_isPlace 1 = .ok (.i2l, 1) := by decide +kernel
theorem dX9_isPlace_2 : decode cX9_isPlace 2 = .ok (.lconst 0, 1) := by decide +kernel
theorem dX9_isPlace_3 : decode cX9_isPlace 3 = .ok (.ldc2_w 74, 3) := by decide +kernel
theorem dX9_isPlace_6 : decode cX9_isPlace 6 = .ok (.invokestatic 76, 3) := by decide +kernel
theorem dX9_isPlace_9 : decode cX9_isPlace 9 = .ok (.ireturn, 1) := by decide +kernel
theorem dX9_isHeir_0 : decode cX9_isHeir 0 = .ok (.iload_n 0, 1) := by decide +kernel
theorem dX9_isHeir_1 : decode cX9_isHeir 1 = .ok (.i2l, 1) := by decide +kernel
theorem dX9_isHeir_2 : decode cX9_isHeir 2 = .ok (.lconst 0, 1) := by decide +kernel
theorem dX9_isHeir_3 : decode cX9_isHeir 3 = .ok (.ldc2_w 80, 3) := by decide +kernel
theorem dX9_isHeir_6 : decode cX9_isHeir 6 = .ok (.invokestatic 76, 3) := by decide +kernel
theorem dX9_isHeir_9 : decode cX9_isHeir 9 = .ok (.ireturn, 1) := by decide +kernel
theorem dX9_less_0 : decode cX9_less 0 = .ok (.iload_n 0, 1) := by decide +kernel
theorem dX9_less_1 : decode cX9_less 1 = .ok (.iload_n 1, 1) := by decide +kernel
theorem dX9_less_2 : decode cX9_less 2 = .ok (.if_icmp .ge 7, 3) := by decide +kernel
theorem dX9_less_5 : decode cX9_less 5 = .ok (.iload_n 0, 1) := by decide +kernel
theorem dX9_less_6 : decode cX9_less 6 = .ok (.goto 4, 3) := by decide +kernel
theorem dX9_less_9 : decode cX9_less 9 = .ok (.iload_n 1, 1) := by decide +kernel
theorem dX9_less_10 : decode cX9_less 10 = .ok (.ireturn, 1) := by decide +kernel
theorem dX9_cradle_0 : decode cX9_cradle 0 = .ok (.iload_n 1, 1) := by decide +kernel
theorem dX9_cradle_1 : decode cX9_cradle 1 = .ok (.invokestatic 82, 3) := by decide +kernel
theorem dX9_cradle_4 : decode cX9_cradle 4 = .ok (.ifCond .eq 18, 3) := by decide +kernel
theorem dX9_cradle_7 : decode cX9_cradle 7 = .ok (.iload 4, 2) := by decide +kernel
theorem dX9_cradle_9 : decode cX9_cradle 9 = .ok (.i2l, 1) := by decide +kernel
theorem dX9_cradle_10 : decode cX9_cradle 10 = .ok (.ldc2_w 86, 3) := by decide +kernel
theorem dX9_cradle_13 : decode cX9_cradle 13 = .ok (.ldc2_w 80, 3) := by decide +kernel
theorem dX9_cradle_16 : decode cX9_cradle 16 = .ok (.invokestatic 76, 3) := by decide +kernel
theorem dX9_cradle_19 : decode cX9_cradle 19 = .ok (.ifCond .ne 5, 3) := by decide +kernel
theorem dX9_cradle_22 : decode cX9_cradle 22 = .ok (.iconst (-1), 1) := by decide +kernel
theorem dX9_cradle_23 : decode cX9_cradle 23 = .ok (.ireturn, 1) := by decide +kernel
theorem dX9_cradle_24 : decode cX9_cradle 24 = .ok (.iload_n 2, 1) := by decide +kernel
theorem dX9_cradle_25 : decode cX9_cradle 25 = .ok (.i2l, 1) := by decide +kernel
theorem dX9_cradle_26 : decode cX9_cradle 26 = .ok (.lconst 1, 1) := by decide +kernel
theorem dX9_cradle_27 : decode cX9_cradle 27 = .ok (.ldc2_w 88, 3) := by decide +kernel
theorem dX9_cradle_30 : decode cX9_cradle 30 = .ok (.invokestatic 76, 3) := by decide +kernel
theorem dX9_cradle_33 : decode cX9_cradle 33 = .ok (.ifCond .eq 13, 3) := by decide +kernel
theorem dX9_cradle_36 : decode cX9_cradle 36 = .ok (.iload_n 3, 1) := by decide +kernel
theorem dX9_cradle_37 : decode cX9_cradle 37 = .ok (.i2l, 1) := by decide +kernel
theorem dX9_cradle_38 : decode cX9_cradle 38 = .ok (.lconst 0, 1) := by decide +kernel
theorem dX9_cradle_39 : decode cX9_cradle 39 = .ok (.lconst 1, 1) := by decide +kernel
theorem dX9_cradle_40 : decode cX9_cradle 40 = .ok (.invokestatic 76, 3) := by decide +kernel
theorem dX9_cradle_43 : decode cX9_cradle 43 = .ok (.ifCond .ne 6, 3) := by decide +kernel
theorem dX9_cradle_46 : decode cX9_cradle 46 = .ok (.bipush (-2), 2) := by decide +kernel
theorem dX9_cradle_48 : decode cX9_cradle 48 = .ok (.ireturn, 1) := by decide +kernel
theorem dX9_cradle_49 : decode cX9_cradle 49 = .ok (.aload_n 0, 1) := by decide +kernel
theorem dX9_cradle_50 : decode cX9_cradle 50 = .ok (.getfield 7, 3) := by decide +kernel
theorem dX9_cradle_53 : decode cX9_cradle 53 = .ok (.iload_n 1, 1) := by decide +kernel
theorem dX9_cradle_54 : decode cX9_cradle 54 = .ok (.iaload, 1) := by decide +kernel
theorem dX9_cradle_55 : decode cX9_cradle 55 = .ok (.istore 5, 2) := by decide +kernel
theorem dX9_cradle_57 : decode cX9_cradle 57 = .ok (.aload_n 0, 1) := by decide +kernel
theorem dX9_cradle_58 : decode cX9_cradle 58 = .ok (.getfield 7, 3) := by decide +kernel
theorem dX9_cradle_61 : decode cX9_cradle 61 = .ok (.iload_n 1, 1) := by decide +kernel
theorem dX9_cradle_62 : decode cX9_cradle 62 = .ok (.iload_n 2, 1) := by decide +kernel
theorem dX9_cradle_63 : decode cX9_cradle 63 = .ok (.iastore, 1) := by decide +kernel
theorem dX9_cradle_64 : decode cX9_cradle 64 = .ok (.aload_n 0, 1) := by decide +kernel
theorem dX9_cradle_65 : decode cX9_cradle 65 = .ok (.getfield 13, 3) := by decide +kernel
theorem dX9_cradle_68 : decode cX9_cradle 68 = .ok (.iload_n 1, 1) := by decide +kernel
theorem dX9_cradle_69 : decode cX9_cradle 69 = .ok (.iload_n 3, 1) := by decide +kernel
theorem dX9_cradle_70 : decode cX9_cradle 70 = .ok (.iastore, 1) := by decide +kernel
theorem dX9_cradle_71 : decode cX9_cradle 71 = .ok (.aload_n 0, 1) := by decide +kernel
theorem dX9_cradle_72 : decode cX9_cradle 72 = .ok (.getfield 16, 3) := by decide +kernel
theorem dX9_cradle_75 : decode cX9_cradle 75 = .ok (.iload_n 1, 1) := by decide +kernel
theorem dX9_cradle_76 : decode cX9_cradle 76 = .ok (.iload 4, 2) := by decide +kernel
theorem dX9_cradle_78 : decode cX9_cradle 78 = .ok (.ifCond .ge 8, 3) := by decide +kernel
theorem dX9_cradle_81 : decode cX9_cradle 81 = .ok (.bipush (-6), 2) := by decide +kernel
theorem dX9_cradle_83 : decode cX9_cradle 83 = .ok (.goto 5, 3) := by decide +kernel
theorem dX9_cradle_86 : decode cX9_cradle 86 = .ok (.iload 4, 2) := by decide +kernel
theorem dX9_cradle_88 : decode cX9_cradle 88 = .ok (.iastore, 1) := by decide +kernel
theorem dX9_cradle_89 : decode cX9_cradle 89 = .ok (.iload 5, 2) := by decide +kernel
theorem dX9_cradle_91 : decode cX9_cradle 91 = .ok (.ireturn, 1) := by decide +kernel
theorem dX9_heir_0 : decode cX9_heir 0 = .ok (.iload_n 1, 1) := by decide +kernel
theorem dX9_heir_1 : decode cX9_heir 1 = .ok (.invokestatic 90, 3) := by decide +kernel
theorem dX9_heir_4 : decode cX9_heir 4 = .ok (.ifCond .eq 10, 3) := by decide +kernel
theorem dX9_heir_7 : decode cX9_heir 7 = .ok (.iload_n 2, 1) := by decide +kernel
theorem dX9_heir_8 : decode cX9_heir 8 = .ok (.invokestatic 82, 3) := by decide +kernel
theorem dX9_heir_11 : decode cX9_heir 11 = .ok (.ifCond .ne 5, 3) := by decide +kernel
theorem dX9_heir_14 : decode cX9_heir 14 = .ok (.iconst (-1), 1) := by decide +kernel
theorem dX9_heir_15 : decode cX9_heir 15 = .ok (.ireturn, 1) := by decide +kernel
theorem dX9_heir_16 : decode cX9_heir 16 = .ok (.iload_n 3, 1) := by decide +kernel
theorem dX9_heir_17 : decode cX9_heir 17 = .ok (.i2l, 1) := by decide +kernel
theorem dX9_heir_18 : decode cX9_heir 18 = .ok (.lconst 1, 1) := by decide +kernel
theorem dX9_heir_19 : decode cX9_heir 19 = .ok (.ldc2_w 88, 3) := by decide +kernel
theorem dX9_heir_22 : decode cX9_heir 22 = .ok (.invokestatic 76, 3) := by decide +kernel
theorem dX9_heir_25 : decode cX9_heir 25 = .ok (.ifCond .ne 6, 3) := by decide +kernel
theorem dX9_heir_28 : decode cX9_heir 28 = .ok (.bipush (-2), 2) := by decide +kernel
theorem dX9_heir_30 : decode cX9_heir 30 = .ok (.ireturn, 1) := by decide +kernel
theorem dX9_heir_31 : decode cX9_heir 31 = .ok (.aload_n 0, 1) := by decide +kernel
theorem dX9_heir_32 : decode cX9_heir 32 = .ok (.getfield 19, 3) := by decide +kernel
theorem dX9_heir_35 : decode cX9_heir 35 = .ok (.iload_n 1, 1) := by decide +kernel
theorem dX9_heir_36 : decode cX9_heir 36 = .ok (.iaload, 1) := by decide +kernel
theorem dX9_heir_37 : decode cX9_heir 37 = .ok (.istore 4, 2) := by decide +kernel
theorem dX9_heir_39 : decode cX9_heir 39 = .ok (.aload_n 0, 1) := by decide +kernel
theorem dX9_heir_40 : decode cX9_heir 40 = .ok (.getfield 19, 3) := by decide +kernel
theorem dX9_heir_43 : decode cX9_heir 43 = .ok (.iload_n 1, 1) := by decide +kernel
theorem dX9_heir_44 : decode cX9_heir 44 = .ok (.iload_n 2, 1) := by decide +kernel
theorem dX9_heir_45 : decode cX9_heir 45 = .ok (.iastore, 1) := by decide +kernel
theorem dX9_heir_46 : decode cX9_heir 46 = .ok (.aload_n 0, 1) := by decide +kernel
theorem dX9_heir_47 : decode cX9_heir 47 = .ok (.getfield 22, 3) := by decide +kernel
theorem dX9_heir_50 : decode cX9_heir 50 = .ok (.iload_n 1, 1) := by decide +kernel
theorem dX9_heir_51 : decode cX9_heir 51 = .ok (.iload_n 3, 1) := by decide +kernel
theorem dX9_heir_52 : decode cX9_heir 52 = .ok (.iastore, 1) := by decide +kernel
theorem dX9_heir_53 : decode cX9_heir 53 = .ok (.aload_n 0, 1) := by decide +kernel
theorem dX9_heir_54 : decode cX9_heir 54 = .ok (.getfield 25, 3) := by decide +kernel
theorem dX9_heir_57 : decode cX9_heir 57 = .ok (.iload_n 1, 1) := by decide +kernel
theorem dX9_heir_58 : decode cX9_heir 58 = .ok (.iconst 0, 1) := by decide +kernel
theorem dX9_heir_59 : decode cX9_heir 59 = .ok (.iastore, 1) := by decide +kernel
theorem dX9_heir_60 : decode cX9_heir 60 = .ok (.aload_n 0, 1) := by decide +kernel
theorem dX9_heir_61 : decode cX9_heir 61 = .ok (.getfield 28, 3) := by decide +kernel
theorem dX9_heir_64 : decode cX9_heir 64 = .ok (.iload_n 1, 1) := by decide +kernel
theorem dX9_heir_65 : decode cX9_heir 65 = .ok (.bipush (-6), 2) := by decide +kernel
theorem dX9_heir_67 : decode cX9_heir 67 = .ok (.iastore, 1) := by decide +kernel
theorem dX9_heir_68 : decode cX9_heir 68 = .ok (.iload 4, 2) := by decide +kernel
theorem dX9_heir_70 : decode cX9_heir 70 = .ok (.ireturn, 1) := by decide +kernel
theorem dX9_say_0 : decode cX9_say 0 = .ok (.iload_n 1, 1) := by decide +kernel
theorem dX9_say_1 : decode cX9_say 1 = .ok (.i2l, 1) := by decide +kernel
theorem dX9_say_2 : decode cX9_say 2 = .ok (.ldc2_w 93, 3) := by decide +kernel
theorem dX9_say_5 : decode cX9_say 5 = .ok (.ldc2_w 95, 3) := by decide +kernel
theorem dX9_say_8 : decode cX9_say 8 = .ok (.invokestatic 76, 3) := by decide +kernel
theorem dX9_say_11 : decode cX9_say 11 = .ok (.ifCond .ne 6, 3) := by decide +kernel
theorem dX9_say_14 : decode cX9_say 14 = .ok (.bipush (-2), 2) := by decide +kernel
theorem dX9_say_16 : decode cX9_say 16 = .ok (.ireturn, 1) := by decide +kernel
theorem dX9_say_17 : decode cX9_say 17 = .ok (.aload_n 0, 1) := by decide +kernel
theorem dX9_say_18 : decode cX9_say 18 = .ok (.getfield 97, 3) := by decide +kernel
theorem dX9_say_21 : decode cX9_say 21 = .ok (.bipush 60, 2) := by decide +kernel
theorem dX9_say_23 : decode cX9_say 23 = .ok (.if_icmp .ne 6, 3) := by decide +kernel
theorem dX9_say_26 : decode cX9_say 26 = .ok (.bipush (-4), 2) := by decide +kernel
theorem dX9_say_28 : decode cX9_say 28 = .ok (.ireturn, 1) := by decide +kernel
theorem dX9_say_29 : decode cX9_say 29 = .ok (.aload_n 0, 1) := by decide +kernel
theorem dX9_say_30 : decode cX9_say 30 = .ok (.getfield 40, 3) := by decide +kernel
theorem dX9_say_33 : decode cX9_say 33 = .ok (.aload_n 0, 1) := by decide +kernel
theorem dX9_say_34 : decode cX9_say 34 = .ok (.getfield 97, 3) := by decide +kernel
theorem dX9_say_37 : decode cX9_say 37 = .ok (.iload_n 1, 1) := by decide +kernel
theorem dX9_say_38 : decode cX9_say 38 = .ok (.iastore, 1) := by decide +kernel
theorem dX9_say_39 : decode cX9_say 39 = .ok (.aload_n 0, 1) := by decide +kernel
theorem dX9_say_40 : decode cX9_say 40 = .ok (.dup, 1) := by decide +kernel
theorem dX9_say_41 : decode cX9_say 41 = .ok (.getfield 97, 3) := by decide +kernel
theorem dX9_say_44 : decode cX9_say 44 = .ok (.iconst 1, 1) := by decide +kernel
theorem dX9_say_45 : decode cX9_say 45 = .ok (.iadd, 1) := by decide +kernel
theorem dX9_say_46 : decode cX9_say 46 = .ok (.putfield 97, 3) := by decide +kernel
theorem dX9_say_49 : decode cX9_say 49 = .ok (.aload_n 0, 1) := by decide +kernel
theorem dX9_say_50 : decode cX9_say 50 = .ok (.getfield 97, 3) := by decide +kernel
theorem dX9_say_53 : decode cX9_say 53 = .ok (.ireturn, 1) := by decide +kernel
theorem dX9_wipe_0 : decode cX9_wipe 0 = .ok (.aload_n 0, 1) := by decide +kernel
theorem dX9_wipe_1 : decode cX9_wipe 1 = .ok (.getfield 97, 3) := by decide +kernel
theorem dX9_wipe_4 : decode cX9_wipe 4 = .ok (.istore_n 1, 1) := by decide +kernel
theorem dX9_wipe_5 : decode cX9_wipe 5 = .ok (.aload_n 0, 1) := by decide +kernel
theorem dX9_wipe_6 : decode cX9_wipe 6 = .ok (.iconst 0, 1) := by decide +kernel
theorem dX9_wipe_7 : decode cX9_wipe 7 = .ok (.putfield 97, 3) := by decide +kernel
theorem dX9_wipe_10 : decode cX9_wipe 10 = .ok (.iload_n 1, 1) := by decide +kernel
theorem dX9_wipe_11 : decode cX9_wipe 11 = .ok (.ireturn, 1) := by decide +kernel
theorem dX9_close_0 : decode cX9_close 0 = .ok (.aload_n 0, 1) := by decide +kernel
theorem dX9_close_1 : decode cX9_close 1 = .ok (.getfield 43, 3) := by decide +kernel
theorem dX9_close_4 : decode cX9_close 4 = .ok (.aload_n 0, 1) := by decide +kernel
theorem dX9_close_5 : decode cX9_close 5 = .ok (.getfield 101, 3) := by decide +kernel
theorem dX9_close_8 : decode cX9_close 8 = .ok (.iload_n 1, 1) := by decide +kernel
theorem dX9_close_9 : decode cX9_close 9 = .ok (.iastore, 1) := by decide +kernel
theorem dX9_close_10 : decode cX9_close 10 = .ok (.aload_n 0, 1) := by decide +kernel
theorem dX9_close_11 : decode cX9_close 11 = .ok (.dup, 1) := by decide +kernel
theorem dX9_close_12 : decode cX9_close 12 = .ok (.getfield 101, 3) := by decide +kernel
theorem dX9_close_15 : decode cX9_close 15 = .ok (.iconst 1, 1) := by decide +kernel
theorem dX9_close_16 : decode cX9_close 16 = .ok (.iadd, 1) := by decide +kernel
theorem dX9_close_17 : decode cX9_close 17 = .ok (.putfield 101, 3) := by decide +kernel
theorem dX9_close_20 : decode cX9_close 20 = .ok (.iconst 0, 1) := by decide +kernel
theorem dX9_close_21 : decode cX9_close 21 = .ok (.ireturn, 1) := by decide +kernel
theorem dX9_begin_0 : decode cX9_begin 0 = .ok (.iload_n 1, 1) := by decide +kernel
theorem dX9_begin_1 : decode cX9_begin 1 = .ok (.i2l, 1) := by decide +kernel
theorem dX9_begin_2 : decode cX9_begin 2 = .ok (.ldc2_w 104, 3) := by decide +kernel
theorem dX9_begin_5 : decode cX9_begin 5 = .ok (.ldc2_w 106, 3) := by decide +kernel
theorem dX9_begin_8 : decode cX9_begin 8 = .ok (.invokestatic 76, 3) := by decide +kernel
theorem dX9_begin_11 : decode cX9_begin 11 = .ok (.istore_n 2, 1) := by decide +kernel
theorem dX9_begin_12 : decode cX9_begin 12 = .ok (.aload_n 0, 1) := by decide +kernel
theorem dX9_begin_13 : decode cX9_begin 13 = .ok (.getfield 46, 3) := by decide +kernel
theorem dX9_begin_16 : decode cX9_begin 16 = .ok (.aload_n 0, 1) := by decide +kernel
theorem dX9_begin_17 : decode cX9_begin 17 = .ok (.getfield 101, 3) := by decide +kernel
theorem dX9_begin_20 : decode cX9_begin 20 = .ok (.iload_n 2, 1) := by decide +kernel
theorem dX9_begin_21 : decode cX9_begin 21 = .ok (.ifCond .eq 10, 3) := by decide +kernel
theorem dX9_begin_24 : decode cX9_begin 24 = .ok (.iload_n 1, 1) := by decide +kernel
theorem dX9_begin_25 : decode cX9_begin 25 = .ok (.bipush 65, 2) := by decide +kernel
theorem dX9_begin_27 : decode cX9_begin 27 = .ok (.isub, 1) := by decide +kernel
theorem dX9_begin_28 : decode cX9_begin 28 = .ok (.goto 4, 3) := by decide +kernel
theorem dX9_begin_31 : decode cX9_begin 31 = .ok (.iconst 0, 1) := by decide +kernel
theorem dX9_begin_32 : decode cX9_begin 32 = .ok (.iastore, 1) := by decide +kernel
theorem dX9_begin_33 : decode cX9_begin 33 = .ok (.aload_n 0, 1) := by decide +kernel
theorem dX9_begin_34 : decode cX9_begin 34 = .ok (.getfield 49, 3) := by decide +kernel
theorem dX9_begin_37 : decode cX9_begin 37 = .ok (.aload_n 0, 1) := by decide +kernel
theorem dX9_begin_38 : decode cX9_begin 38 = .ok (.getfield 101, 3) := by decide +kernel
theorem dX9_begin_41 : decode cX9_begin 41 = .ok (.iconst 0, 1) := by decide +kernel
theorem dX9_begin_42 : decode cX9_begin 42 = .ok (.iastore, 1) := by decide +kernel
theorem dX9_begin_43 : decode cX9_begin 43 = .ok (.iload_n 2, 1) := by decide +kernel
theorem dX9_begin_44 : decode cX9_begin 44 = .ok (.ifCond .eq 7, 3) := by decide +kernel
theorem dX9_begin_47 : decode cX9_begin 47 = .ok (.iconst 1, 1) := by decide +kernel
theorem dX9_begin_48 : decode cX9_begin 48 = .ok (.goto 20, 3) := by decide +kernel
theorem dX9_begin_51 : decode cX9_begin 51 = .ok (.iload_n 1, 1) := by decide +kernel
theorem dX9_begin_52 : decode cX9_begin 52 = .ok (.bipush 46, 2) := by decide +kernel
theorem dX9_begin_54 : decode cX9_begin 54 = .ok (.if_icmp .ne 12, 3) := by decide +kernel
theorem dX9_begin_57 : decode cX9_begin 57 = .ok (.aload_n 0, 1) := by decide +kernel
theorem dX9_begin_58 : decode cX9_begin 58 = .ok (.bipush 7, 2) := by decide +kernel
theorem dX9_begin_60 : decode cX9_begin 60 = .ok (.invokevirtual 108, 3) := by decide +kernel
theorem dX9_begin_63 : decode cX9_begin 63 = .ok (.goto 5, 3) := by decide +kernel
theorem dX9_begin_66 : decode cX9_begin 66 = .ok (.bipush (-6), 2) := by decide +kernel
theorem dX9_begin_68 : decode cX9_begin 68 = .ok (.ireturn, 1) := by decide +kernel
theorem dX9_count_0 : decode cX9_count 0 = .ok (.aload_n 0, 1) := by decide +kernel
theorem dX9_count_1 : decode cX9_count 1 = .ok (.getfield 49, 3) := by decide +kernel
theorem dX9_count_4 : decode cX9_count 4 = .ok (.aload_n 0, 1) := by decide +kernel
theorem dX9_count_5 : decode cX9_count 5 = .ok (.getfield 101, 3) := by decide +kernel
theorem dX9_count_8 : decode cX9_count 8 = .ok (.iload_n 2, 1) := by decide +kernel
theorem dX9_count_9 : decode cX9_count 9 = .ok (.bipush 48, 2) := by decide +kernel
theorem dX9_count_11 : decode cX9_count 11 = .ok (.isub, 1) := by decide +kernel
theorem dX9_count_12 : decode cX9_count 12 = .ok (.iastore, 1) := by decide +kernel
theorem dX9_count_13 : decode cX9_count 13 = .ok (.iload_n 2, 1) := by decide +kernel
theorem dX9_count_14 : decode cX9_count 14 = .ok (.i2l, 1) := by decide +kernel
theorem dX9_count_15 : decode cX9_count 15 = .ok (.ldc2_w 112, 3) := by decide +kernel
theorem dX9_count_18 : decode cX9_count 18 = .ok (.ldc2_w 114, 3) := by decide +kernel
theorem dX9_count_21 : decode cX9_count 21 = .ok (.invokestatic 76, 3) := by decide +kernel
theorem dX9_count_24 : decode cX9_count 24 = .ok (.ifCond .eq 11, 3) := by decide +kernel
theorem dX9_count_27 : decode cX9_count 27 = .ok (.aload_n 0, 1) := by decide +kernel
theorem dX9_count_28 : decode cX9_count 28 = .ok (.iload_n 1, 1) := by decide +kernel
theorem dX9_count_29 : decode cX9_count 29 = .ok (.invokevirtual 108, 3) := by decide +kernel
theorem dX9_count_32 : decode cX9_count 32 = .ok (.goto 5, 3) := by decide +kernel
theorem dX9_count_35 : decode cX9_count 35 = .ok (.bipush (-6), 2) := by decide +kernel
theorem dX9_count_37 : decode cX9_count 37 = .ok (.ireturn, 1) := by decide +kernel
theorem dX9_deed_0 : decode cX9_deed 0 = .ok (.iload_n 1, 1) := by decide +kernel
theorem dX9_deed_1 : decode cX9_deed 1 = .ok (.lookupswitch 88 #[(33, 81), (42, 69), (60, 61), (62, 59), (63, 63), (126, 75)], 59) := by decide +kernel
theorem dX9_deed_60 : decode cX9_deed 60 = .ok (.iconst 2, 1) := by decide +kernel
theorem dX9_deed_61 : decode cX9_deed 61 = .ok (.ireturn, 1) := by decide +kernel
theorem dX9_deed_62 : decode cX9_deed 62 = .ok (.iconst 3, 1) := by decide +kernel
theorem dX9_deed_63 : decode cX9_deed 63 = .ok (.ireturn, 1) := by decide +kernel
theorem dX9_deed_64 : decode cX9_deed 64 = .ok (.aload_n 0, 1) := by decide +kernel
theorem dX9_deed_65 : decode cX9_deed 65 = .ok (.iconst 2, 1) := by decide +kernel
theorem dX9_deed_66 : decode cX9_deed 66 = .ok (.invokevirtual 108, 3) := by decide +kernel
theorem dX9_deed_69 : decode cX9_deed 69 = .ok (.ireturn, 1) := by decide +kernel
theorem dX9_deed_70 : decode cX9_deed 70 = .ok (.aload_n 0, 1) := by decide +kernel
theorem dX9_deed_71 : decode cX9_deed 71 = .ok (.iconst 3, 1) := by decide +kernel
theorem dX9_deed_72 : decode cX9_deed 72 = .ok (.invokevirtual 108, 3) := by decide +kernel
theorem dX9_deed_75 : decode cX9_deed 75 = .ok (.ireturn, 1) := by decide +kernel
theorem dX9_deed_76 : decode cX9_deed 76 = .ok (.aload_n 0, 1) := by decide +kernel
theorem dX9_deed_77 : decode cX9_deed 77 = .ok (.iconst 5, 1) := by decide +kernel
theorem dX9_deed_78 : decode cX9_deed 78 = .ok (.invokevirtual 108, 3) := by decide +kernel
theorem dX9_deed_81 : decode cX9_deed 81 = .ok (.ireturn, 1) := by decide +kernel
theorem dX9_deed_82 : decode cX9_deed 82 = .ok (.aload_n 0, 1) := by decide +kernel
theorem dX9_deed_83 : decode cX9_deed 83 = .ok (.bipush 6, 2) := by decide +kernel
theorem dX9_deed_85 : decode cX9_deed 85 = .ok (.invokevirtual 108, 3) := by decide +kernel
theorem dX9_deed_88 : decode cX9_deed 88 = .ok (.ireturn, 1) := by decide +kernel
theorem dX9_deed_89 : decode cX9_deed 89 = .ok (.aload_n 0, 1) := by decide +kernel
theorem dX9_deed_90 : decode cX9_deed 90 = .ok (.iconst 4, 1) := by decide +kernel
theorem dX9_deed_91 : decode cX9_deed 91 = .ok (.iload_n 1, 1) := by decide +kernel
theorem dX9_deed_92 : decode cX9_deed 92 = .ok (.invokevirtual 116, 3) := by decide +kernel
theorem dX9_deed_95 : decode cX9_deed 95 = .ok (.ireturn, 1) := by decide +kernel
theorem dX9_readOn_0 : decode cX9_readOn 0 = .ok (.iload_n 1, 1) := by decide +kernel
theorem dX9_readOn_1 : decode cX9_readOn 1 = .ok (.lookupswitch 39 #[(0, 27), (1, 33)], 27) := by decide +kernel
theorem dX9_readOn_28 : decode cX9_readOn 28 = .ok (.aload_n 0, 1) := by decide +kernel
theorem dX9_readOn_29 : decode cX9_readOn 29 = .ok (.iload_n 2, 1) := by decide +kernel
theorem dX9_readOn_30 : decode cX9_readOn 30 = .ok (.invokevirtual 120, 3) := by decide +kernel
theorem dX9_readOn_33 : decode cX9_readOn 33 = .ok (.ireturn, 1) := by decide +kernel
theorem dX9_readOn_34 : decode cX9_readOn 34 = .ok (.aload_n 0, 1) := by decide +kernel
theorem dX9_readOn_35 : decode cX9_readOn 35 = .ok (.iload_n 2, 1) := by decide +kernel
theorem dX9_readOn_36 : decode cX9_readOn 36 = .ok (.invokevirtual 123, 3) := by decide +kernel
theorem dX9_readOn_39 : decode cX9_readOn 39 = .ok (.ireturn, 1) := by decide +kernel
theorem dX9_readOn_40 : decode cX9_readOn 40 = .ok (.aload_n 0, 1) := by decide +kernel
theorem dX9_readOn_41 : decode cX9_readOn 41 = .ok (.iload_n 1, 1) := by decide +kernel
theorem dX9_readOn_42 : decode cX9_readOn 42 = .ok (.iconst 2, 1) := by decide +kernel
theorem dX9_readOn_43 : decode cX9_readOn 43 = .ok (.if_icmp .ne 7, 3) := by decide +kernel
theorem dX9_readOn_46 : decode cX9_readOn 46 = .ok (.iconst 0, 1) := by decide +kernel
theorem dX9_readOn_47 : decode cX9_readOn 47 = .ok (.goto 4, 3) := by decide +kernel
theorem dX9_readOn_50 : decode cX9_readOn 50 = .ok (.iconst 1, 1) := by decide +kernel
theorem dX9_readOn_51 : decode cX9_readOn 51 = .ok (.iload_n 2, 1) := by decide +kernel
theorem dX9_readOn_52 : decode cX9_readOn 52 = .ok (.invokevirtual 116, 3) := by decide +kernel
theorem dX9_readOn_55 : decode cX9_readOn 55 = .ok (.ireturn, 1) := by decide +kernel
theorem dX9_fault_0 : decode cX9_fault 0 = .ok (.aload_n 0, 1) := by decide +kernel
theorem dX9_fault_1 : decode cX9_fault 1 = .ok (.iconst 0, 1) := by decide +kernel
theorem dX9_fault_2 : decode cX9_fault 2 = .ok (.putfield 101, 3) := by decide +kernel
theorem dX9_fault_5 : decode cX9_fault 5 = .ok (.iconst 0, 1) := by decide +kernel
theorem dX9_fault_6 : decode cX9_fault 6 = .ok (.istore_n 1, 1) := by decide +kernel
theorem dX9_fault_7 : decode cX9_fault 7 = .ok (.iconst 0, 1) := by decide +kernel
theorem dX9_fault_8 : decode cX9_fault 8 = .ok (.istore_n 2, 1) := by decide +kernel
theorem dX9_fault_9 : decode cX9_fault 9 = .ok (.iload_n 2, 1) := by decide +kernel
theorem dX9_fault_10 : decode cX9_fault 10 = .ok (.aload_n 0, 1) := by decide +kernel
theorem dX9_fault_11 : decode cX9_fault 11 = .ok (.getfield 97, 3) := by decide +kernel
theorem dX9_fault_14 : decode cX9_fault 14 = .ok (.if_icmp .ge 27, 3) := by decide +kernel
theorem dX9_fault_17 : decode cX9_fault 17 = .ok (.aload_n 0, 1) := by decide +kernel
theorem dX9_fault_18 : decode cX9_fault 18 = .ok (.iload_n 1, 1) := by decide +kernel
theorem dX9_fault_19 : decode cX9_fault 19 = .ok (.aload_n 0, 1) := by decide +kernel
theorem dX9_fault_20 : decode cX9_fault 20 = .ok (.getfield 40, 3) := by decide +kernel
theorem dX9_fault_23 : decode cX9_fault 23 = .ok (.iload_n 2, 1) := by decide +kernel
theorem dX9_fault_24 : decode cX9_fault 24 = .ok (.iaload, 1) := by decide +kernel
theorem dX9_fault_25 : decode cX9_fault 25 = .ok (.invokevirtual 126, 3) := by decide +kernel
theorem dX9_fault_28 : decode cX9_fault 28 = .ok (.istore_n 1, 1) := by decide +kernel
theorem dX9_fault_29 : decode cX9_fault 29 = .ok (.iload_n 1, 1) := by decide +kernel
theorem dX9_fault_30 : decode cX9_fault 30 = .ok (.ifCond .ge 5, 3) := by decide +kernel
theorem dX9_fault_33 : decode cX9_fault 33 = .ok (.iload_n 2, 1) := by decide +kernel
theorem dX9_fault_34 : decode cX9_fault 34 = .ok (.ireturn, 1) := by decide +kernel
theorem dX9_fault_35 : decode cX9_fault 35 = .ok (.iinc 2 1, 3) := by decide +kernel
theorem dX9_fault_38 : decode cX9_fault 38 = .ok (.goto (-29), 3) := by decide +kernel
theorem dX9_fault_41 : decode cX9_fault 41 = .ok (.iload_n 1, 1) := by decide +kernel
theorem dX9_fault_42 : decode cX9_fault 42 = .ok (.ifCond .ne 8, 3) := by decide +kernel
theorem dX9_fault_45 : decode cX9_fault 45 = .ok (.bipush (-6), 2) := by decide +kernel
theorem dX9_fault_47 : decode cX9_fault 47 = .ok (.goto 7, 3) := by decide +kernel
theorem dX9_fault_50 : decode cX9_fault 50 = .ok (.aload_n 0, 1) := by decide +kernel
theorem dX9_fault_51 : decode cX9_fault 51 = .ok (.getfield 97, 3) := by decide +kernel
theorem dX9_fault_54 : decode cX9_fault 54 = .ok (.ireturn, 1) := by decide +kernel
theorem dX9_isChosen_0 : decode cX9_isChosen 0 = .ok (.iconst 0, 1) := by decide +kernel
theorem dX9_isChosen_1 : decode cX9_isChosen 1 = .ok (.istore_n 2, 1) := by decide +kernel
theorem dX9_isChosen_2 : decode cX9_isChosen 2 = .ok (.iconst 0, 1) := by decide +kernel
theorem dX9_isChosen_3 : decode cX9_isChosen 3 = .ok (.istore_n 3, 1) := by decide +kernel
theorem dX9_isChosen_4 : decode cX9_isChosen 4 = .ok (.iload_n 3, 1) := by decide +kernel
theorem dX9_isChosen_5 : decode cX9_isChosen 5 = .ok (.bipush 6, 2) := by decide +kernel
theorem dX9_isChosen_7 : decode cX9_isChosen 7 = .ok (.if_icmp .ge 29, 3) := by decide +kernel
theorem dX9_isChosen_10 : decode cX9_isChosen 10 = .ok (.iload_n 2, 1) := by decide +kernel
theorem dX9_isChosen_11 : decode cX9_isChosen 11 = .ok (.ifCond .ne 13, 3) := by decide +kernel
theorem dX9_isChosen_14 : decode cX9_isChosen 14 = .ok (.aload_n 0, 1) := by decide +kernel
theorem dX9_isChosen_15 : decode cX9_isChosen 15 = .ok (.getfield 28, 3) := by decide +kernel
theorem dX9_isChosen_18 : decode cX9_isChosen 18 = .ok (.iload_n 3, 1) := by decide +kernel
theorem dX9_isChosen_19 : decode cX9_isChosen 19 = .ok (.iaload, 1) := by decide +kernel
theorem dX9_isChosen_20 : decode cX9_isChosen 20 = .ok (.iload_n 1, 1) := by decide +kernel
theorem dX9_isChosen_21 : decode cX9_isChosen 21 = .ok (.if_icmp .ne 7, 3) := by decide +kernel
theorem dX9_isChosen_24 : decode cX9_isChosen 24 = .ok (.iconst 1, 1) := by decide +kernel
theorem dX9_isChosen_25 : decode cX9_isChosen 25 = .ok (.goto 4, 3) := by decide +kernel
theorem dX9_isChosen_28 : decode cX9_isChosen 28 = .ok (.iconst 0, 1) := by decide +kernel
theorem dX9_isChosen_29 : decode cX9_isChosen 29 = .ok (.istore_n 2, 1) := by decide +kernel
theorem dX9_isChosen_30 : decode cX9_isChosen 30 = .ok (.iinc 3 1, 3) := by decide +kernel
theorem dX9_isChosen_33 : decode cX9_isChosen 33 = .ok (.goto (-29), 3) := by decide +kernel
theorem dX9_isChosen_36 : decode cX9_isChosen 36 = .ok (.iload_n 2, 1) := by decide +kernel
theorem dX9_isChosen_37 : decode cX9_isChosen 37 = .ok (.ireturn, 1) := by decide +kernel
theorem dX9_whyNot_0 : decode cX9_whyNot 0 = .ok (.iload_n 1, 1) := by decide +kernel
theorem dX9_whyNot_1 : decode cX9_whyNot 1 = .ok (.bipush 7, 2) := by decide +kernel
theorem dX9_whyNot_3 : decode cX9_whyNot 3 = .ok (.if_icmp .ne 18, 3) := by decide +kernel
theorem dX9_whyNot_6 : decode cX9_whyNot 6 = .ok (.aload_n 0, 1) := by decide +kernel
theorem dX9_whyNot_7 : decode cX9_whyNot 7 = .ok (.getfield 129, 3) := by decide +kernel
theorem dX9_whyNot_10 : decode cX9_whyNot 10 = .ok (.bipush 60, 2) := by decide +kernel
theorem dX9_whyNot_12 : decode cX9_whyNot 12 = .ok (.if_icmp .ne 7, 3) := by decide +kernel
theorem dX9_whyNot_15 : decode cX9_whyNot 15 = .ok (.iconst 5, 1) := by decide +kernel
theorem dX9_whyNot_16 : decode cX9_whyNot 16 = .ok (.goto 4, 3) := by decide +kernel
theorem dX9_whyNot_19 : decode cX9_whyNot 19 = .ok (.iconst 0, 1) := by decide +kernel
theorem dX9_whyNot_20 : decode cX9_whyNot 20 = .ok (.ireturn, 1) := by decide +kernel
theorem dX9_whyNot_21 : decode cX9_whyNot 21 = .ok (.aload_n 0, 1) := by decide +kernel
theorem dX9_whyNot_22 : decode cX9_whyNot 22 = .ok (.getfield 28, 3) := by decide +kernel
theorem dX9_whyNot_25 : decode cX9_whyNot 25 = .ok (.iload_n 2, 1) := by decide +kernel
theorem dX9_whyNot_26 : decode cX9_whyNot 26 = .ok (.iaload, 1) := by decide +kernel
theorem dX9_whyNot_27 : decode cX9_whyNot 27 = .ok (.ifCond .lt 5, 3) := by decide +kernel
theorem dX9_whyNot_30 : decode cX9_whyNot 30 = .ok (.iconst 1, 1) := by decide +kernel
theorem dX9_whyNot_31 : decode cX9_whyNot 31 = .ok (.ireturn, 1) := by decide +kernel
theorem dX9_whyNot_32 : decode cX9_whyNot 32 = .ok (.iload_n 1, 1) := by decide +kernel
theorem dX9_whyNot_33 : decode cX9_whyNot 33 = .ok (.tableswitch 143 0 6 #[43, 63, 143, 143, 83, 104, 124], 43) := by decide +kernel
theorem dX9_whyNot_76 : decode cX9_whyNot 76 = .ok (.aload_n 0, 1) := by decide +kernel
theorem dX9_whyNot_77 : decode cX9_whyNot 77 = .ok (.getfield 19, 3) := by decide +kernel
theorem dX9_whyNot_80 : decode cX9_whyNot 80 = .ok (.iload_n 2, 1) := by decide +kernel
theorem dX9_whyNot_81 : decode cX9_whyNot 81 = .ok (.iaload, 1) := by decide +kernel
theorem dX9_whyNot_82 : decode cX9_whyNot 82 = .ok (.iload_n 3, 1) := by decide +kernel
theorem dX9_whyNot_83 : decode cX9_whyNot 83 = .ok (.iadd, 1) := by decide +kernel
theorem dX9_whyNot_84 : decode cX9_whyNot 84 = .ok (.invokestatic 82, 3) := by decide +kernel
theorem dX9_whyNot_87 : decode cX9_whyNot 87 = .ok (.ifCond .eq 7, 3) := by decide +kernel
theorem dX9_whyNot_90 : decode cX9_whyNot 90 = .ok (.iconst 0, 1) := by decide +kernel
theorem dX9_whyNot_91 : decode cX9_whyNot 91 = .ok (.goto 4, 3) := by decide +kernel
theorem dX9_whyNot_94 : decode cX9_whyNot 94 = .ok (.iconst 2, 1) := by decide +kernel
theorem dX9_whyNot_95 : decode cX9_whyNot 95 = .ok (.ireturn, 1) := by decide +kernel
theorem dX9_whyNot_96 : decode cX9_whyNot 96 = .ok (.aload_n 0, 1) := by decide +kernel
theorem dX9_whyNot_97 : decode cX9_whyNot 97 = .ok (.getfield 19, 3) := by decide +kernel
theorem dX9_whyNot_100 : decode cX9_whyNot 100 = .ok (.iload_n 2, 1) := by decide +kernel
theorem dX9_whyNot_101 : decode cX9_whyNot 101 = .ok (.iaload, 1) := by decide +kernel
theorem dX9_whyNot_102 : decode cX9_whyNot 102 = .ok (.iload_n 3, 1) := by decide +kernel
theorem dX9_whyNot_103 : decode cX9_whyNot 103 = .ok (.isub, 1) := by decide +kernel
theorem dX9_whyNot_104 : decode cX9_whyNot 104 = .ok (.invokestatic 82, 3) := by decide +kernel
theorem dX9_whyNot_107 : decode cX9_whyNot 107 = .ok (.ifCond .eq 7, 3) := by decide +kernel
theorem dX9_whyNot_110 : decode cX9_whyNot 110 = .ok (.iconst 0, 1) := by decide +kernel
theorem dX9_whyNot_111 : decode cX9_whyNot 111 = .ok (.goto 4, 3) := by decide +kernel
theorem dX9_whyNot_114 : decode cX9_whyNot 114 = .ok (.iconst 2, 1) := by decide +kernel
theorem dX9_whyNot_115 : decode cX9_whyNot 115 = .ok (.ireturn, 1) := by decide +kernel
theorem dX9_whyNot_116 : decode cX9_whyNot 116 = .ok (.aload_n 0, 1) := by decide +kernel
theorem dX9_whyNot_117 : decode cX9_whyNot 117 = .ok (.getfield 7, 3) := by decide +kernel
theorem dX9_whyNot_120 : decode cX9_whyNot 120 = .ok (.aload_n 0, 1) := by decide +kernel
theorem dX9_whyNot_121 : decode cX9_whyNot 121 = .ok (.getfield 19, 3) := by decide +kernel
theorem dX9_whyNot_124 : decode cX9_whyNot 124 = .ok (.iload_n 2, 1) := by decide +kernel
theorem dX9_whyNot_125 : decode cX9_whyNot 125 = .ok (.iaload, 1) := by decide +kernel
theorem dX9_whyNot_126 : decode cX9_whyNot 126 = .ok (.iaload, 1) := by decide +kernel
theorem dX9_whyNot_127 : decode cX9_whyNot 127 = .ok (.iload_n 3, 1) := by decide +kernel
theorem dX9_whyNot_128 : decode cX9_whyNot 128 = .ok (.if_icmp .ne 7, 3) := by decide +kernel
theorem dX9_whyNot_131 : decode cX9_whyNot 131 = .ok (.iconst 3, 1) := by decide +kernel
theorem dX9_whyNot_132 : decode cX9_whyNot 132 = .ok (.goto 4, 3) := by decide +kernel
theorem dX9_whyNot_135 : decode cX9_whyNot 135 = .ok (.iconst 0, 1) := by decide +kernel
theorem dX9_whyNot_136 : decode cX9_whyNot 136 = .ok (.ireturn, 1) := by decide +kernel
theorem dX9_whyNot_137 : decode cX9_whyNot 137 = .ok (.aload_n 0, 1) := by decide +kernel
theorem dX9_whyNot_138 : decode cX9_whyNot 138 = .ok (.getfield 19, 3) := by decide +kernel
theorem dX9_whyNot_141 : decode cX9_whyNot 141 = .ok (.iload_n 2, 1) := by decide +kernel
theorem dX9_whyNot_142 : decode cX9_whyNot 142 = .ok (.iaload, 1) := by decide +kernel
theorem dX9_whyNot_143 : decode cX9_whyNot 143 = .ok (.iconst 1, 1) := by decide +kernel
theorem dX9_whyNot_144 : decode cX9_whyNot 144 = .ok (.iadd, 1) := by decide +kernel
theorem dX9_whyNot_145 : decode cX9_whyNot 145 = .ok (.invokestatic 82, 3) := by decide +kernel
theorem dX9_whyNot_148 : decode cX9_whyNot 148 = .ok (.ifCond .eq 7, 3) := by decide +kernel
theorem dX9_whyNot_151 : decode cX9_whyNot 151 = .ok (.iconst 0, 1) := by decide +kernel
end
section
theorem dX9_whyNot_152 : decode cX9_whyNot 152 = .ok (.goto 4, 3) := by decide +kernel
theorem dX9_whyNot_155 : decode cX9_whyNot 155 = .ok (.iconst 2, 1) := by decide +kernel
theorem dX9_whyNot_156 : decode cX9_whyNot 156 = .ok (.ireturn, 1) := by decide +kernel
theorem dX9_whyNot_157 : decode cX9_whyNot 157 = .ok (.aload_n 0, 1) := by decide +kernel
theorem dX9_whyNot_158 : decode cX9_whyNot 158 = .ok (.aload_n 0, 1) := by decide +kernel
theorem dX9_whyNot_159 : decode cX9_whyNot 159 = .ok (.getfield 19, 3) := by decide +kernel
theorem dX9_whyNot_162 : decode cX9_whyNot 162 = .ok (.iload_n 2, 1) := by decide +kernel
theorem dX9_whyNot_163 : decode cX9_whyNot 163 = .ok (.iaload, 1) := by decide +kernel
theorem dX9_whyNot_164 : decode cX9_whyNot 164 = .ok (.invokevirtual 132, 3) := by decide +kernel
theorem dX9_whyNot_167 : decode cX9_whyNot 167 = .ok (.ifCond .eq 7, 3) := by decide +kernel
theorem dX9_whyNot_170 : decode cX9_whyNot 170 = .ok (.iconst 4, 1) := by decide +kernel
theorem dX9_whyNot_171 : decode cX9_whyNot 171 = .ok (.goto 4, 3) := by decide +kernel
theorem dX9_whyNot_174 : decode cX9_whyNot 174 = .ok (.iconst 0, 1) := by decide +kernel
theorem dX9_whyNot_175 : decode cX9_whyNot 175 = .ok (.ireturn, 1) := by decide +kernel
theorem dX9_whyNot_176 : decode cX9_whyNot 176 = .ok (.iconst 0, 1) := by decide +kernel
theorem dX9_whyNot_177 : decode cX9_whyNot 177 = .ok (.ireturn, 1) := by decide +kernel
theorem dX9_listen_0 : decode cX9_listen 0 = .ok (.aload_n 0, 1) := by decide +kernel
theorem dX9_listen_1 : decode cX9_listen 1 = .ok (.getfield 7, 3) := by decide +kernel
theorem dX9_listen_4 : decode cX9_listen 4 = .ok (.aload_n 0, 1) := by decide +kernel
theorem dX9_listen_5 : decode cX9_listen 5 = .ok (.getfield 19, 3) := by decide +kernel
theorem dX9_listen_8 : decode cX9_listen 8 = .ok (.iload_n 1, 1) := by decide +kernel
theorem dX9_listen_9 : decode cX9_listen 9 = .ok (.iaload, 1) := by decide +kernel
theorem dX9_listen_10 : decode cX9_listen 10 = .ok (.iaload, 1) := by decide +kernel
theorem dX9_listen_11 : decode cX9_listen 11 = .ok (.aload_n 0, 1) := by decide +kernel
theorem dX9_listen_12 : decode cX9_listen 12 = .ok (.getfield 22, 3) := by decide +kernel
theorem dX9_listen_15 : decode cX9_listen 15 = .ok (.iload_n 1, 1) := by decide +kernel
theorem dX9_listen_16 : decode cX9_listen 16 = .ok (.iaload, 1) := by decide +kernel
theorem dX9_listen_17 : decode cX9_listen 17 = .ok (.if_icmp .ne 32, 3) := by decide +kernel
theorem dX9_listen_20 : decode cX9_listen 20 = .ok (.aload_n 0, 1) := by decide +kernel
theorem dX9_listen_21 : decode cX9_listen 21 = .ok (.dup, 1) := by decide +kernel
theorem dX9_listen_22 : decode cX9_listen 22 = .ok (.getfield 135, 3) := by decide +kernel
theorem dX9_listen_25 : decode cX9_listen 25 = .ok (.iconst 1, 1) := by decide +kernel
theorem dX9_listen_26 : decode cX9_listen 26 = .ok (.iadd, 1) := by decide +kernel
theorem dX9_listen_27 : decode cX9_listen 27 = .ok (.putfield 135, 3) := by decide +kernel
theorem dX9_listen_30 : decode cX9_listen 30 = .ok (.aload_n 0, 1) := by decide +kernel
theorem dX9_listen_31 : decode cX9_listen 31 = .ok (.getfield 25, 3) := by decide +kernel
theorem dX9_listen_34 : decode cX9_listen 34 = .ok (.iload_n 1, 1) := by decide +kernel
theorem dX9_listen_35 : decode cX9_listen 35 = .ok (.bipush 99, 2) := by decide +kernel
theorem dX9_listen_37 : decode cX9_listen 37 = .ok (.aload_n 0, 1) := by decide +kernel
theorem dX9_listen_38 : decode cX9_listen 38 = .ok (.getfield 25, 3) := by decide +kernel
theorem dX9_listen_41 : decode cX9_listen 41 = .ok (.iload_n 1, 1) := by decide +kernel
theorem dX9_listen_42 : decode cX9_listen 42 = .ok (.iaload, 1) := by decide +kernel
theorem dX9_listen_43 : decode cX9_listen 43 = .ok (.iconst 1, 1) := by decide +kernel
theorem dX9_listen_44 : decode cX9_listen 44 = .ok (.iadd, 1) := by decide +kernel
theorem dX9_listen_45 : decode cX9_listen 45 = .ok (.invokestatic 138, 3) := by decide +kernel
theorem dX9_listen_48 : decode cX9_listen 48 = .ok (.iastore, 1) := by decide +kernel
theorem dX9_listen_49 : decode cX9_listen 49 = .ok (.return_, 1) := by decide +kernel
theorem dX9_swap_0 : decode cX9_swap 0 = .ok (.aload_n 0, 1) := by decide +kernel
theorem dX9_swap_1 : decode cX9_swap 1 = .ok (.getfield 7, 3) := by decide +kernel
theorem dX9_swap_4 : decode cX9_swap 4 = .ok (.iload_n 1, 1) := by decide +kernel
theorem dX9_swap_5 : decode cX9_swap 5 = .ok (.iaload, 1) := by decide +kernel
theorem dX9_swap_6 : decode cX9_swap 6 = .ok (.istore_n 2, 1) := by decide +kernel
theorem dX9_swap_7 : decode cX9_swap 7 = .ok (.aload_n 0, 1) := by decide +kernel
theorem dX9_swap_8 : decode cX9_swap 8 = .ok (.getfield 13, 3) := by decide +kernel
theorem dX9_swap_11 : decode cX9_swap 11 = .ok (.iload_n 1, 1) := by decide +kernel
theorem dX9_swap_12 : decode cX9_swap 12 = .ok (.iaload, 1) := by decide +kernel
theorem dX9_swap_13 : decode cX9_swap 13 = .ok (.istore_n 3, 1) := by decide +kernel
theorem dX9_swap_14 : decode cX9_swap 14 = .ok (.aload_n 0, 1) := by decide +kernel
theorem dX9_swap_15 : decode cX9_swap 15 = .ok (.getfield 16, 3) := by decide +kernel
theorem dX9_swap_18 : decode cX9_swap 18 = .ok (.iload_n 1, 1) := by decide +kernel
theorem dX9_swap_19 : decode cX9_swap 19 = .ok (.iaload, 1) := by decide +kernel
theorem dX9_swap_20 : decode cX9_swap 20 = .ok (.istore 4, 2) := by decide +kernel
theorem dX9_swap_22 : decode cX9_swap 22 = .ok (.aload_n 0, 1) := by decide +kernel
theorem dX9_swap_23 : decode cX9_swap 23 = .ok (.getfield 7, 3) := by decide +kernel
theorem dX9_swap_26 : decode cX9_swap 26 = .ok (.iload_n 1, 1) := by decide +kernel
theorem dX9_swap_27 : decode cX9_swap 27 = .ok (.aload_n 0, 1) := by decide +kernel
theorem dX9_swap_28 : decode cX9_swap 28 = .ok (.getfield 7, 3) := by decide +kernel
theorem dX9_swap_31 : decode cX9_swap 31 = .ok (.iload_n 1, 1) := by decide +kernel
theorem dX9_swap_32 : decode cX9_swap 32 = .ok (.iconst 1, 1) := by decide +kernel
theorem dX9_swap_33 : decode cX9_swap 33 = .ok (.iadd, 1) := by decide +kernel
theorem dX9_swap_34 : decode cX9_swap 34 = .ok (.iaload, 1) := by decide +kernel
theorem dX9_swap_35 : decode cX9_swap 35 = .ok (.iastore, 1) := by decide +kernel
theorem dX9_swap_36 : decode cX9_swap 36 = .ok (.aload_n 0, 1) := by decide +kernel
theorem dX9_swap_37 : decode cX9_swap 37 = .ok (.getfield 13, 3) := by decide +kernel
theorem dX9_swap_40 : decode cX9_swap 40 = .ok (.iload_n 1, 1) := by decide +kernel
theorem dX9_swap_41 : decode cX9_swap 41 = .ok (.aload_n 0, 1) := by decide +kernel
theorem dX9_swap_42 : decode cX9_swap 42 = .ok (.getfield 13, 3) := by decide +kernel
theorem dX9_swap_45 : decode cX9_swap 45 = .ok (.iload_n 1, 1) := by decide +kernel
theorem dX9_swap_46 : decode cX9_swap 46 = .ok (.iconst 1, 1) := by decide +kernel
theorem dX9_swap_47 : decode cX9_swap 47 = .ok (.iadd, 1) := by decide +kernel
theorem dX9_swap_48 : decode cX9_swap 48 = .ok (.iaload, 1) := by decide +kernel
theorem dX9_swap_49 : decode cX9_swap 49 = .ok (.iastore, 1) := by decide +kernel
theorem dX9_swap_50 : decode cX9_swap 50 = .ok (.aload_n 0, 1) := by decide +kernel
theorem dX9_swap_51 : decode cX9_swap 51 = .ok (.getfield 16, 3) := by decide +kernel
theorem dX9_swap_54 : decode cX9_swap 54 = .ok (.iload_n 1, 1) := by decide +kernel
theorem dX9_swap_55 : decode cX9_swap 55 = .ok (.aload_n 0, 1) := by decide +kernel
theorem dX9_swap_56 : decode cX9_swap 56 = .ok (.getfield 16, 3) := by decide +kernel
theorem dX9_swap_59 : decode cX9_swap 59 = .ok (.iload_n 1, 1) := by decide +kernel
theorem dX9_swap_60 : decode cX9_swap 60 = .ok (.iconst 1, 1) := by decide +kernel
theorem dX9_swap_61 : decode cX9_swap 61 = .ok (.iadd, 1) := by decide +kernel
theorem dX9_swap_62 : decode cX9_swap 62 = .ok (.iaload, 1) := by decide +kernel
theorem dX9_swap_63 : decode cX9_swap 63 = .ok (.iastore, 1) := by decide +kernel
theorem dX9_swap_64 : decode cX9_swap 64 = .ok (.aload_n 0, 1) := by decide +kernel
theorem dX9_swap_65 : decode cX9_swap 65 = .ok (.getfield 7, 3) := by decide +kernel
theorem dX9_swap_68 : decode cX9_swap 68 = .ok (.iload_n 1, 1) := by decide +kernel
theorem dX9_swap_69 : decode cX9_swap 69 = .ok (.iconst 1, 1) := by decide +kernel
theorem dX9_swap_70 : decode cX9_swap 70 = .ok (.iadd, 1) := by decide +kernel
theorem dX9_swap_71 : decode cX9_swap 71 = .ok (.iload_n 2, 1) := by decide +kernel
theorem dX9_swap_72 : decode cX9_swap 72 = .ok (.iastore, 1) := by decide +kernel
theorem dX9_swap_73 : decode cX9_swap 73 = .ok (.aload_n 0, 1) := by decide +kernel
theorem dX9_swap_74 : decode cX9_swap 74 = .ok (.getfield 13, 3) := by decide +kernel
theorem dX9_swap_77 : decode cX9_swap 77 = .ok (.iload_n 1, 1) := by decide +kernel
theorem dX9_swap_78 : decode cX9_swap 78 = .ok (.iconst 1, 1) := by decide +kernel
theorem dX9_swap_79 : decode cX9_swap 79 = .ok (.iadd, 1) := by decide +kernel
theorem dX9_swap_80 : decode cX9_swap 80 = .ok (.iload_n 3, 1) := by decide +kernel
theorem dX9_swap_81 : decode cX9_swap 81 = .ok (.iastore, 1) := by decide +kernel
theorem dX9_swap_82 : decode cX9_swap 82 = .ok (.aload_n 0, 1) := by decide +kernel
theorem dX9_swap_83 : decode cX9_swap 83 = .ok (.getfield 16, 3) := by decide +kernel
theorem dX9_swap_86 : decode cX9_swap 86 = .ok (.iload_n 1, 1) := by decide +kernel
theorem dX9_swap_87 : decode cX9_swap 87 = .ok (.iconst 1, 1) := by decide +kernel
theorem dX9_swap_88 : decode cX9_swap 88 = .ok (.iadd, 1) := by decide +kernel
theorem dX9_swap_89 : decode cX9_swap 89 = .ok (.iload 4, 2) := by decide +kernel
theorem dX9_swap_91 : decode cX9_swap 91 = .ok (.iastore, 1) := by decide +kernel
theorem dX9_swap_92 : decode cX9_swap 92 = .ok (.return_, 1) := by decide +kernel
theorem dX9_choose_0 : decode cX9_choose 0 = .ok (.aload_n 0, 1) := by decide +kernel
theorem dX9_choose_1 : decode cX9_choose 1 = .ok (.getfield 28, 3) := by decide +kernel
theorem dX9_choose_4 : decode cX9_choose 4 = .ok (.iload_n 1, 1) := by decide +kernel
theorem dX9_choose_5 : decode cX9_choose 5 = .ok (.aload_n 0, 1) := by decide +kernel
theorem dX9_choose_6 : decode cX9_choose 6 = .ok (.getfield 19, 3) := by decide +kernel
theorem dX9_choose_9 : decode cX9_choose 9 = .ok (.iload_n 1, 1) := by decide +kernel
theorem dX9_choose_10 : decode cX9_choose 10 = .ok (.iaload, 1) := by decide +kernel
theorem dX9_choose_11 : decode cX9_choose 11 = .ok (.iastore, 1) := by decide +kernel
theorem dX9_choose_12 : decode cX9_choose 12 = .ok (.aload_n 0, 1) := by decide +kernel
theorem dX9_choose_13 : decode cX9_choose 13 = .ok (.aload_n 0, 1) := by decide +kernel
theorem dX9_choose_14 : decode cX9_choose 14 = .ok (.getfield 16, 3) := by decide +kernel
theorem dX9_choose_17 : decode cX9_choose 17 = .ok (.aload_n 0, 1) := by decide +kernel
theorem dX9_choose_18 : decode cX9_choose 18 = .ok (.getfield 19, 3) := by decide +kernel
theorem dX9_choose_21 : decode cX9_choose 21 = .ok (.iload_n 1, 1) := by decide +kernel
theorem dX9_choose_22 : decode cX9_choose 22 = .ok (.iaload, 1) := by decide +kernel
theorem dX9_choose_23 : decode cX9_choose 23 = .ok (.iaload, 1) := by decide +kernel
theorem dX9_choose_24 : decode cX9_choose 24 = .ok (.iload_n 1, 1) := by decide +kernel
theorem dX9_choose_25 : decode cX9_choose 25 = .ok (.if_icmp .ne 8, 3) := by decide +kernel
theorem dX9_choose_28 : decode cX9_choose 28 = .ok (.bipush (-6), 2) := by decide +kernel
theorem dX9_choose_30 : decode cX9_choose 30 = .ok (.goto 4, 3) := by decide +kernel
theorem dX9_choose_33 : decode cX9_choose 33 = .ok (.iload_n 1, 1) := by decide +kernel
theorem dX9_choose_34 : decode cX9_choose 34 = .ok (.putfield 141, 3) := by decide +kernel
theorem dX9_choose_37 : decode cX9_choose 37 = .ok (.return_, 1) := by decide +kernel
theorem dX9_passMinute_0 : decode cX9_passMinute 0 = .ok (.iconst 0, 1) := by decide +kernel
theorem dX9_passMinute_1 : decode cX9_passMinute 1 = .ok (.istore_n 1, 1) := by decide +kernel
theorem dX9_passMinute_2 : decode cX9_passMinute 2 = .ok (.iload_n 1, 1) := by decide +kernel
theorem dX9_passMinute_3 : decode cX9_passMinute 3 = .ok (.bipush 6, 2) := by decide +kernel
theorem dX9_passMinute_5 : decode cX9_passMinute 5 = .ok (.if_icmp .ge 68, 3) := by decide +kernel
theorem dX9_passMinute_8 : decode cX9_passMinute 8 = .ok (.aload_n 0, 1) := by decide +kernel
theorem dX9_passMinute_9 : decode cX9_passMinute 9 = .ok (.getfield 28, 3) := by decide +kernel
theorem dX9_passMinute_12 : decode cX9_passMinute 12 = .ok (.iload_n 1, 1) := by decide +kernel
theorem dX9_passMinute_13 : decode cX9_passMinute 13 = .ok (.iaload, 1) := by decide +kernel
theorem dX9_passMinute_14 : decode cX9_passMinute 14 = .ok (.ifCond .ge 33, 3) := by decide +kernel
theorem dX9_passMinute_17 : decode cX9_passMinute 17 = .ok (.aload_n 0, 1) := by decide +kernel
theorem dX9_passMinute_18 : decode cX9_passMinute 18 = .ok (.getfield 13, 3) := by decide +kernel
theorem dX9_passMinute_21 : decode cX9_passMinute 21 = .ok (.aload_n 0, 1) := by decide +kernel
theorem dX9_passMinute_22 : decode cX9_passMinute 22 = .ok (.getfield 19, 3) := by decide +kernel
theorem dX9_passMinute_25 : decode cX9_passMinute 25 = .ok (.iload_n 1, 1) := by decide +kernel
theorem dX9_passMinute_26 : decode cX9_passMinute 26 = .ok (.iaload, 1) := by decide +kernel
theorem dX9_passMinute_27 : decode cX9_passMinute 27 = .ok (.iaload, 1) := by decide +kernel
theorem dX9_passMinute_28 : decode cX9_passMinute 28 = .ok (.iconst 1, 1) := by decide +kernel
theorem dX9_passMinute_29 : decode cX9_passMinute 29 = .ok (.if_icmp .ne 18, 3) := by decide +kernel
theorem dX9_passMinute_32 : decode cX9_passMinute 32 = .ok (.aload_n 0, 1) := by decide +kernel
theorem dX9_passMinute_33 : decode cX9_passMinute 33 = .ok (.getfield 19, 3) := by decide +kernel
theorem dX9_passMinute_36 : decode cX9_passMinute 36 = .ok (.iload_n 1, 1) := by decide +kernel
theorem dX9_passMinute_37 : decode cX9_passMinute 37 = .ok (.iaload, 1) := by decide +kernel
theorem dX9_passMinute_38 : decode cX9_passMinute 38 = .ok (.bipush 39, 2) := by decide +kernel
theorem dX9_passMinute_40 : decode cX9_passMinute 40 = .ok (.if_icmp .ge 7, 3) := by decide +kernel
theorem dX9_passMinute_43 : decode cX9_passMinute 43 = .ok (.iconst 1, 1) := by decide +kernel
theorem dX9_passMinute_44 : decode cX9_passMinute 44 = .ok (.goto 4, 3) := by decide +kernel
theorem dX9_passMinute_47 : decode cX9_passMinute 47 = .ok (.iconst 0, 1) := by decide +kernel
theorem dX9_passMinute_48 : decode cX9_passMinute 48 = .ok (.istore_n 2, 1) := by decide +kernel
theorem dX9_passMinute_49 : decode cX9_passMinute 49 = .ok (.aload_n 0, 1) := by decide +kernel
theorem dX9_passMinute_50 : decode cX9_passMinute 50 = .ok (.getfield 19, 3) := by decide +kernel
theorem dX9_passMinute_53 : decode cX9_passMinute 53 = .ok (.iload_n 1, 1) := by decide +kernel
theorem dX9_passMinute_54 : decode cX9_passMinute 54 = .ok (.dup2, 1) := by decide +kernel
theorem dX9_passMinute_55 : decode cX9_passMinute 55 = .ok (.iaload, 1) := by decide +kernel
theorem dX9_passMinute_56 : decode cX9_passMinute 56 = .ok (.iload_n 2, 1) := by decide +kernel
theorem dX9_passMinute_57 : decode cX9_passMinute 57 = .ok (.ifCond .eq 7, 3) := by decide +kernel
theorem dX9_passMinute_60 : decode cX9_passMinute 60 = .ok (.iconst 1, 1) := by decide +kernel
theorem dX9_passMinute_61 : decode cX9_passMinute 61 = .ok (.goto 4, 3) := by decide +kernel
theorem dX9_passMinute_64 : decode cX9_passMinute 64 = .ok (.iconst 0, 1) := by decide +kernel
theorem dX9_passMinute_65 : decode cX9_passMinute 65 = .ok (.iadd, 1) := by decide +kernel
theorem dX9_passMinute_66 : decode cX9_passMinute 66 = .ok (.iastore, 1) := by decide +kernel
theorem dX9_passMinute_67 : decode cX9_passMinute 67 = .ok (.iinc 1 1, 3) := by decide +kernel
theorem dX9_passMinute_70 : decode cX9_passMinute 70 = .ok (.goto (-68), 3) := by decide +kernel
theorem dX9_passMinute_73 : decode cX9_passMinute 73 = .ok (.aload_n 0, 1) := by decide +kernel
theorem dX9_passMinute_74 : decode cX9_passMinute 74 = .ok (.dup, 1) := by decide +kernel
theorem dX9_passMinute_75 : decode cX9_passMinute 75 = .ok (.getfield 129, 3) := by decide +kernel
theorem dX9_passMinute_78 : decode cX9_passMinute 78 = .ok (.iconst 1, 1) := by decide +kernel
theorem dX9_passMinute_79 : decode cX9_passMinute 79 = .ok (.iadd, 1) := by decide +kernel
theorem dX9_passMinute_80 : decode cX9_passMinute 80 = .ok (.putfield 129, 3) := by decide +kernel
theorem dX9_passMinute_83 : decode cX9_passMinute 83 = .ok (.return_, 1) := by decide +kernel
theorem dX9_happen_0 : decode cX9_happen 0 = .ok (.aload_n 0, 1) := by decide +kernel
theorem dX9_happen_1 : decode cX9_happen 1 = .ok (.bipush (-6), 2) := by decide +kernel
theorem dX9_happen_3 : decode cX9_happen 3 = .ok (.putfield 141, 3) := by decide +kernel
theorem dX9_happen_6 : decode cX9_happen 6 = .ok (.iload_n 1, 1) := by decide +kernel
theorem dX9_happen_7 : decode cX9_happen 7 = .ok (.tableswitch 138 0 6 #[41, 54, 67, 75, 102, 117, 130], 41) := by decide +kernel
theorem dX9_happen_48 : decode cX9_happen 48 = .ok (.aload_n 0, 1) := by decide +kernel
theorem dX9_happen_49 : decode cX9_happen 49 = .ok (.getfield 19, 3) := by decide +kernel
theorem dX9_happen_52 : decode cX9_happen 52 = .ok (.iload_n 2, 1) := by decide +kernel
theorem dX9_happen_53 : decode cX9_happen 53 = .ok (.dup2, 1) := by decide +kernel
theorem dX9_happen_54 : decode cX9_happen 54 = .ok (.iaload, 1) := by decide +kernel
theorem dX9_happen_55 : decode cX9_happen 55 = .ok (.iload_n 3, 1) := by decide +kernel
theorem dX9_happen_56 : decode cX9_happen 56 = .ok (.iadd, 1) := by decide +kernel
theorem dX9_happen_57 : decode cX9_happen 57 = .ok (.iastore, 1) := by decide +kernel
theorem dX9_happen_58 : decode cX9_happen 58 = .ok (.goto 91, 3) := by decide +kernel
theorem dX9_happen_61 : decode cX9_happen 61 = .ok (.aload_n 0, 1) := by decide +kernel
theorem dX9_happen_62 : decode cX9_happen 62 = .ok (.getfield 19, 3) := by decide +kernel
theorem dX9_happen_65 : decode cX9_happen 65 = .ok (.iload_n 2, 1) := by decide +kernel
theorem dX9_happen_66 : decode cX9_happen 66 = .ok (.dup2, 1) := by decide +kernel
theorem dX9_happen_67 : decode cX9_happen 67 = .ok (.iaload, 1) := by decide +kernel
theorem dX9_happen_68 : decode cX9_happen 68 = .ok (.iload_n 3, 1) := by decide +kernel
theorem dX9_happen_69 : decode cX9_happen 69 = .ok (.isub, 1) := by decide +kernel
theorem dX9_happen_70 : decode cX9_happen 70 = .ok (.iastore, 1) := by decide +kernel
theorem dX9_happen_71 : decode cX9_happen 71 = .ok (.goto 78, 3) := by decide +kernel
theorem dX9_happen_74 : decode cX9_happen 74 = .ok (.aload_n 0, 1) := by decide +kernel
theorem dX9_happen_75 : decode cX9_happen 75 = .ok (.iload_n 2, 1) := by decide +kernel
theorem dX9_happen_76 : decode cX9_happen 76 = .ok (.invokevirtual 144, 3) := by decide +kernel
theorem dX9_happen_79 : decode cX9_happen 79 = .ok (.goto 70, 3) := by decide +kernel
theorem dX9_happen_82 : decode cX9_happen 82 = .ok (.aload_n 0, 1) := by decide +kernel
theorem dX9_happen_83 : decode cX9_happen 83 = .ok (.getfield 13, 3) := by decide +kernel
theorem dX9_happen_86 : decode cX9_happen 86 = .ok (.aload_n 0, 1) := by decide +kernel
theorem dX9_happen_87 : decode cX9_happen 87 = .ok (.getfield 19, 3) := by decide +kernel
theorem dX9_happen_90 : decode cX9_happen 90 = .ok (.iload_n 2, 1) := by decide +kernel
theorem dX9_happen_91 : decode cX9_happen 91 = .ok (.iaload, 1) := by decide +kernel
theorem dX9_happen_92 : decode cX9_happen 92 = .ok (.iconst 1, 1) := by decide +kernel
theorem dX9_happen_93 : decode cX9_happen 93 = .ok (.aload_n 0, 1) := by decide +kernel
theorem dX9_happen_94 : decode cX9_happen 94 = .ok (.getfield 13, 3) := by decide +kernel
theorem dX9_happen_97 : decode cX9_happen 97 = .ok (.aload_n 0, 1) := by decide +kernel
theorem dX9_happen_98 : decode cX9_happen 98 = .ok (.getfield 19, 3) := by decide +kernel
theorem dX9_happen_101 : decode cX9_happen 101 = .ok (.iload_n 2, 1) := by decide +kernel
theorem dX9_happen_102 : decode cX9_happen 102 = .ok (.iaload, 1) := by decide +kernel
theorem dX9_happen_103 : decode cX9_happen 103 = .ok (.iaload, 1) := by decide +kernel
theorem dX9_happen_104 : decode cX9_happen 104 = .ok (.isub, 1) := by decide +kernel
theorem dX9_happen_105 : decode cX9_happen 105 = .ok (.iastore, 1) := by decide +kernel
theorem dX9_happen_106 : decode cX9_happen 106 = .ok (.goto 43, 3) := by decide +kernel
theorem dX9_happen_109 : decode cX9_happen 109 = .ok (.aload_n 0, 1) := by decide +kernel
theorem dX9_happen_110 : decode cX9_happen 110 = .ok (.getfield 7, 3) := by decide +kernel
theorem dX9_happen_113 : decode cX9_happen 113 = .ok (.aload_n 0, 1) := by decide +kernel
theorem dX9_happen_114 : decode cX9_happen 114 = .ok (.getfield 19, 3) := by decide +kernel
theorem dX9_happen_117 : decode cX9_happen 117 = .ok (.iload_n 2, 1) := by decide +kernel
theorem dX9_happen_118 : decode cX9_happen 118 = .ok (.iaload, 1) := by decide +kernel
theorem dX9_happen_119 : decode cX9_happen 119 = .ok (.iload_n 3, 1) := by decide +kernel
theorem dX9_happen_120 : decode cX9_happen 120 = .ok (.iastore, 1) := by decide +kernel
theorem dX9_happen_121 : decode cX9_happen 121 = .ok (.goto 28, 3) := by decide +kernel
theorem dX9_happen_124 : decode cX9_happen 124 = .ok (.aload_n 0, 1) := by decide +kernel
theorem dX9_happen_125 : decode cX9_happen 125 = .ok (.aload_n 0, 1) := by decide +kernel
theorem dX9_happen_126 : decode cX9_happen 126 = .ok (.getfield 19, 3) := by decide +kernel
theorem dX9_happen_129 : decode cX9_happen 129 = .ok (.iload_n 2, 1) := by decide +kernel
theorem dX9_happen_130 : decode cX9_happen 130 = .ok (.iaload, 1) := by decide +kernel
theorem dX9_happen_131 : decode cX9_happen 131 = .ok (.invokevirtual 148, 3) := by decide +kernel
theorem dX9_happen_134 : decode cX9_happen 134 = .ok (.goto 15, 3) := by decide +kernel
theorem dX9_happen_137 : decode cX9_happen 137 = .ok (.aload_n 0, 1) := by decide +kernel
theorem dX9_happen_138 : decode cX9_happen 138 = .ok (.iload_n 2, 1) := by decide +kernel
theorem dX9_happen_139 : decode cX9_happen 139 = .ok (.invokevirtual 151, 3) := by decide +kernel
theorem dX9_happen_142 : decode cX9_happen 142 = .ok (.goto 7, 3) := by decide +kernel
theorem dX9_happen_145 : decode cX9_happen 145 = .ok (.aload_n 0, 1) := by decide +kernel
theorem dX9_happen_146 : decode cX9_happen 146 = .ok (.invokevirtual 154, 3) := by decide +kernel
theorem dX9_happen_149 : decode cX9_happen 149 = .ok (.return_, 1) := by decide +kernel
theorem dX9_keepNow_0 : decode cX9_keepNow 0 = .ok (.iconst 0, 1) := by decide +kernel
theorem dX9_keepNow_1 : decode cX9_keepNow 1 = .ok (.istore_n 1, 1) := by decide +kernel
theorem dX9_keepNow_2 : decode cX9_keepNow 2 = .ok (.iload_n 1, 1) := by decide +kernel
theorem dX9_keepNow_3 : decode cX9_keepNow 3 = .ok (.bipush 40, 2) := by decide +kernel
theorem dX9_keepNow_5 : decode cX9_keepNow 5 = .ok (.if_icmp .ge 51, 3) := by decide +kernel
theorem dX9_keepNow_8 : decode cX9_keepNow 8 = .ok (.aload_n 0, 1) := by decide +kernel
theorem dX9_keepNow_9 : decode cX9_keepNow 9 = .ok (.getfield 52, 3) := by decide +kernel
theorem dX9_keepNow_12 : decode cX9_keepNow 12 = .ok (.iload_n 1, 1) := by decide +kernel
theorem dX9_keepNow_13 : decode cX9_keepNow 13 = .ok (.aload_n 0, 1) := by decide +kernel
theorem dX9_keepNow_14 : decode cX9_keepNow 14 = .ok (.getfield 7, 3) := by decide +kernel
theorem dX9_keepNow_17 : decode cX9_keepNow 17 = .ok (.iload_n 1, 1) := by decide +kernel
theorem dX9_keepNow_18 : decode cX9_keepNow 18 = .ok (.iaload, 1) := by decide +kernel
theorem dX9_keepNow_19 : decode cX9_keepNow 19 = .ok (.iastore, 1) := by decide +kernel
theorem dX9_keepNow_20 : decode cX9_keepNow 20 = .ok (.aload_n 0, 1) := by decide +kernel
theorem dX9_keepNow_21 : decode cX9_keepNow 21 = .ok (.getfield 52, 3) := by decide +kernel
theorem dX9_keepNow_24 : decode cX9_keepNow 24 = .ok (.bipush 40, 2) := by decide +kernel
theorem dX9_keepNow_26 : decode cX9_keepNow 26 = .ok (.iload_n 1, 1) := by decide +kernel
theorem dX9_keepNow_27 : decode cX9_keepNow 27 = .ok (.iadd, 1) := by decide +kernel
theorem dX9_keepNow_28 : decode cX9_keepNow 28 = .ok (.aload_n 0, 1) := by decide +kernel
theorem dX9_keepNow_29 : decode cX9_keepNow 29 = .ok (.getfield 13, 3) := by decide +kernel
theorem dX9_keepNow_32 : decode cX9_keepNow 32 = .ok (.iload_n 1, 1) := by decide +kernel
theorem dX9_keepNow_33 : decode cX9_keepNow 33 = .ok (.iaload, 1) := by decide +kernel
theorem dX9_keepNow_34 : decode cX9_keepNow 34 = .ok (.iastore, 1) := by decide +kernel
theorem dX9_keepNow_35 : decode cX9_keepNow 35 = .ok (.aload_n 0, 1) := by decide +kernel
theorem dX9_keepNow_36 : decode cX9_keepNow 36 = .ok (.getfield 52, 3) := by decide +kernel
theorem dX9_keepNow_39 : decode cX9_keepNow 39 = .ok (.bipush 80, 2) := by decide +kernel
theorem dX9_keepNow_41 : decode cX9_keepNow 41 = .ok (.iload_n 1, 1) := by decide +kernel
theorem dX9_keepNow_42 : decode cX9_keepNow 42 = .ok (.iadd, 1) := by decide +kernel
theorem dX9_keepNow_43 : decode cX9_keepNow 43 = .ok (.aload_n 0, 1) := by decide +kernel
theorem dX9_keepNow_44 : decode cX9_keepNow 44 = .ok (.getfield 16, 3) := by decide +kernel
theorem dX9_keepNow_47 : decode cX9_keepNow 47 = .ok (.iload_n 1, 1) := by decide +kernel
theorem dX9_keepNow_48 : decode cX9_keepNow 48 = .ok (.iaload, 1) := by decide +kernel
theorem dX9_keepNow_49 : decode cX9_keepNow 49 = .ok (.iastore, 1) := by decide +kernel
theorem dX9_keepNow_50 : decode cX9_keepNow 50 = .ok (.iinc 1 1, 3) := by decide +kernel
theorem dX9_keepNow_53 : decode cX9_keepNow 53 = .ok (.goto (-51), 3) := by decide +kernel
theorem dX9_keepNow_56 : decode cX9_keepNow 56 = .ok (.iconst 0, 1) := by decide +kernel
theorem dX9_keepNow_57 : decode cX9_keepNow 57 = .ok (.istore_n 1, 1) := by decide +kernel
theorem dX9_keepNow_58 : decode cX9_keepNow 58 = .ok (.iload_n 1, 1) := by decide +kernel
theorem dX9_keepNow_59 : decode cX9_keepNow 59 = .ok (.bipush 6, 2) := by decide +kernel
theorem dX9_keepNow_61 : decode cX9_keepNow 61 = .ok (.if_icmp .ge 55, 3) := by decide +kernel
theorem dX9_keepNow_64 : decode cX9_keepNow 64 = .ok (.aload_n 0, 1) := by decide +kernel
theorem dX9_keepNow_65 : decode cX9_keepNow 65 = .ok (.getfield 52, 3) := by decide +kernel
theorem dX9_keepNow_68 : decode cX9_keepNow 68 = .ok (.bipush 120, 2) := by decide +kernel
theorem dX9_keepNow_70 : decode cX9_keepNow 70 = .ok (.iload_n 1, 1) := by decide +kernel
theorem dX9_keepNow_71 : decode cX9_keepNow 71 = .ok (.iadd, 1) := by decide +kernel
theorem dX9_keepNow_72 : decode cX9_keepNow 72 = .ok (.aload_n 0, 1) := by decide +kernel
theorem dX9_keepNow_73 : decode cX9_keepNow 73 = .ok (.getfield 19, 3) := by decide +kernel
theorem dX9_keepNow_76 : decode cX9_keepNow 76 = .ok (.iload_n 1, 1) := by decide +kernel
theorem dX9_keepNow_77 : decode cX9_keepNow 77 = .ok (.iaload, 1) := by decide +kernel
theorem dX9_keepNow_78 : decode cX9_keepNow 78 = .ok (.iastore, 1) := by decide +kernel
theorem dX9_keepNow_79 : decode cX9_keepNow 79 = .ok (.aload_n 0, 1) := by decide +kernel
theorem dX9_keepNow_80 : decode cX9_keepNow 80 = .ok (.getfield 52, 3) := by decide +kernel
theorem dX9_keepNow_83 : decode cX9_keepNow 83 = .ok (.bipush 126, 2) := by decide +kernel
theorem dX9_keepNow_85 : decode cX9_keepNow 85 = .ok (.iload_n 1, 1) := by decide +kernel
theorem dX9_keepNow_86 : decode cX9_keepNow 86 = .ok (.iadd, 1) := by decide +kernel
theorem dX9_keepNow_87 : decode cX9_keepNow 87 = .ok (.aload_n 0, 1) := by decide +kernel
theorem dX9_keepNow_88 : decode cX9_keepNow 88 = .ok (.getfield 25, 3) := by decide +kernel
theorem dX9_keepNow_91 : decode cX9_keepNow 91 = .ok (.iload_n 1, 1) := by decide +kernel
theorem dX9_keepNow_92 : decode cX9_keepNow 92 = .ok (.iaload, 1) := by decide +kernel
theorem dX9_keepNow_93 : decode cX9_keepNow 93 = .ok (.iastore, 1) := by decide +kernel
theorem dX9_keepNow_94 : decode cX9_keepNow 94 = .ok (.aload_n 0, 1) := by decide +kernel
theorem dX9_keepNow_95 : decode cX9_keepNow 95 = .ok (.getfield 52, 3) := by decide +kernel
theorem dX9_keepNow_98 : decode cX9_keepNow 98 = .ok (.sipush 132, 3) := by decide +kernel
theorem dX9_keepNow_101 : decode cX9_keepNow 101 = .ok (.iload_n 1, 1) := by decide +kernel
theorem dX9_keepNow_102 : decode cX9_keepNow 102 = .ok (.iadd, 1) := by decide +kernel
theorem dX9_keepNow_103 : decode cX9_keepNow 103 = .ok (.aload_n 0, 1) := by decide +kernel
theorem dX9_keepNow_104 : decode cX9_keepNow 104 = .ok (.getfield 28, 3) := by decide +kernel
theorem dX9_keepNow_107 : decode cX9_keepNow 107 = .ok (.iload_n 1, 1) := by decide +kernel
theorem dX9_keepNow_108 : decode cX9_keepNow 108 = .ok (.iaload, 1) := by decide +kernel
theorem dX9_keepNow_109 : decode cX9_keepNow 109 = .ok (.iastore, 1) := by decide +kernel
theorem dX9_keepNow_110 : decode cX9_keepNow 110 = .ok (.iinc 1 1, 3) := by decide +kernel
theorem dX9_keepNow_113 : decode cX9_keepNow 113 = .ok (.goto (-55), 3) := by decide +kernel
theorem dX9_keepNow_116 : decode cX9_keepNow 116 = .ok (.aload_n 0, 1) := by decide +kernel
theorem dX9_keepNow_117 : decode cX9_keepNow 117 = .ok (.getfield 52, 3) := by decide +kernel
theorem dX9_keepNow_120 : decode cX9_keepNow 120 = .ok (.sipush 138, 3) := by decide +kernel
theorem dX9_keepNow_123 : decode cX9_keepNow 123 = .ok (.aload_n 0, 1) := by decide +kernel
theorem dX9_keepNow_124 : decode cX9_keepNow 124 = .ok (.getfield 129, 3) := by decide +kernel
theorem dX9_keepNow_127 : decode cX9_keepNow 127 = .ok (.iastore, 1) := by decide +kernel
theorem dX9_keepNow_128 : decode cX9_keepNow 128 = .ok (.return_, 1) := by decide +kernel
theorem dX9_back_0 : decode cX9_back 0 = .ok (.iconst 0, 1) := by decide +kernel
theorem dX9_back_1 : decode cX9_back 1 = .ok (.istore_n 2, 1) := by decide +kernel
theorem dX9_back_2 : decode cX9_back 2 = .ok (.iload_n 2, 1) := by decide +kernel
theorem dX9_back_3 : decode cX9_back 3 = .ok (.bipush 40, 2) := by decide +kernel
theorem dX9_back_5 : decode cX9_back 5 = .ok (.if_icmp .ge 51, 3) := by decide +kernel
theorem dX9_back_8 : decode cX9_back 8 = .ok (.aload_n 0, 1) := by decide +kernel
theorem dX9_back_9 : decode cX9_back 9 = .ok (.getfield 7, 3) := by decide +kernel
theorem dX9_back_12 : decode cX9_back 12 = .ok (.iload_n 2, 1) := by decide +kernel
theorem dX9_back_13 : decode cX9_back 13 = .ok (.aload_n 0, 1) := by decide +kernel
theorem dX9_back_14 : decode cX9_back 14 = .ok (.getfield 52, 3) := by decide +kernel
theorem dX9_back_17 : decode cX9_back 17 = .ok (.iload_n 2, 1) := by decide +kernel
theorem dX9_back_18 : decode cX9_back 18 = .ok (.iaload, 1) := by decide +kernel
theorem dX9_back_19 : decode cX9_back 19 = .ok (.iastore, 1) := by decide +kernel
theorem dX9_back_20 : decode cX9_back 20 = .ok (.aload_n 0, 1) := by decide +kernel
theorem dX9_back_21 : decode cX9_back 21 = .ok (.getfield 13, 3) := by decide +kernel
theorem dX9_back_24 : decode cX9_back 24 = .ok (.iload_n 2, 1) := by decide +kernel
theorem dX9_back_25 : decode cX9_back 25 = .ok (.aload_n 0, 1) := by decide +kernel
theorem dX9_back_26 : decode cX9_back 26 = .ok (.getfield 52, 3) := by decide +kernel
theorem dX9_back_29 : decode cX9_back 29 = .ok (.bipush 40, 2) := by decide +kernel
theorem dX9_back_31 : decode cX9_back 31 = .ok (.iload_n 2, 1) := by decide +kernel
theorem dX9_back_32 : decode cX9_back 32 = .ok (.iadd, 1) := by decide +kernel
theorem dX9_back_33 : decode cX9_back 33 = .ok (.iaload, 1) := by decide +kernel
theorem dX9_back_34 : decode cX9_back 34 = .ok (.iastore, 1) := by decide +kernel
theorem dX9_back_35 : decode cX9_back 35 = .ok (.aload_n 0, 1) := by decide +kernel
theorem dX9_back_36 : decode cX9_back 36 = .ok (.getfield 16, 3) := by decide +kernel
theorem dX9_back_39 : decode cX9_back 39 = .ok (.iload_n 2, 1) := by decide +kernel
theorem dX9_back_40 : decode cX9_back 40 = .ok (.aload_n 0, 1) := by decide +kernel
theorem dX9_back_41 : decode cX9_back 41 = .ok (.getfield 52, 3) := by decide +kernel
theorem dX9_back_44 : decode cX9_back 44 = .ok (.bipush 80, 2) := by decide +kernel
theorem dX9_back_46 : decode cX9_back 46 = .ok (.iload_n 2, 1) := by decide +kernel
theorem dX9_back_47 : decode cX9_back 47 = .ok (.iadd, 1) := by decide +kernel
theorem dX9_back_48 : decode cX9_back 48 = .ok (.iaload, 1) := by decide +kernel
theorem dX9_back_49 : decode cX9_back 49 = .ok (.iastore, 1) := by decide +kernel
theorem dX9_back_50 : decode cX9_back 50 = .ok (.iinc 2 1, 3) := by decide +kernel
theorem dX9_back_53 : decode cX9_back 53 = .ok (.goto (-51), 3) := by decide +kernel
theorem dX9_back_56 : decode cX9_back 56 = .ok (.iconst 0, 1) := by decide +kernel
theorem dX9_back_57 : decode cX9_back 57 = .ok (.istore_n 2, 1) := by decide +kernel
theorem dX9_back_58 : decode cX9_back 58 = .ok (.iload_n 2, 1) := by decide +kernel
theorem dX9_back_59 : decode cX9_back 59 = .ok (.bipush 6, 2) := by decide +kernel
theorem dX9_back_61 : decode cX9_back 61 = .ok (.if_icmp .ge 55, 3) := by decide +kernel
theorem dX9_back_64 : decode cX9_back 64 = .ok (.aload_n 0, 1) := by decide +kernel
theorem dX9_back_65 : decode cX9_back 65 = .ok (.getfield 19, 3) := by decide +kernel
theorem dX9_back_68 : decode cX9_back 68 = .ok (.iload_n 2, 1) := by decide +kernel
theorem dX9_back_69 : decode cX9_back 69 = .ok (.aload_n 0, 1) := by decide +kernel
theorem dX9_back_70 : decode cX9_back 70 = .ok (.getfield 52, 3) := by decide +kernel
theorem dX9_back_73 : decode cX9_back 73 = .ok (.bipush 120, 2) := by decide +kernel
theorem dX9_back_75 : decode cX9_back 75 = .ok (.iload_n 2, 1) := by decide +kernel
theorem dX9_back_76 : decode cX9_back 76 = .ok (.iadd, 1) := by decide +kernel
theorem dX9_back_77 : decode cX9_back 77 = .ok (.iaload, 1) := by decide +kernel
theorem dX9_back_78 : decode cX9_back 78 = .ok (.iastore, 1) := by decide +kernel
theorem dX9_back_79 : decode cX9_back 79 = .ok (.aload_n 0, 1) := by decide +kernel
theorem dX9_back_80 : decode cX9_back 80 = .ok (.getfield 25, 3) := by decide +kernel
theorem dX9_back_83 : decode cX9_back 83 = .ok (.iload_n 2, 1) := by decide +kernel
theorem dX9_back_84 : decode cX9_back 84 = .ok (.aload_n 0, 1) := by decide +kernel
theorem dX9_back_85 : decode cX9_back 85 = .ok (.getfield 52, 3) := by decide +kernel
theorem dX9_back_88 : decode cX9_back 88 = .ok (.bipush 126, 2) := by decide +kernel
theorem dX9_back_90 : decode cX9_back 90 = .ok (.iload_n 2, 1) := by decide +kernel
theorem dX9_back_91 : decode cX9_back 91 = .ok (.iadd, 1) := by decide +kernel
theorem dX9_back_92 : decode cX9_back 92 = .ok (.iaload, 1) := by decide +kernel
theorem dX9_back_93 : decode cX9_back 93 = .ok (.iastore, 1) := by decide +kernel
theorem dX9_back_94 : decode cX9_back 94 = .ok (.aload_n 0, 1) := by decide +kernel
theorem dX9_back_95 : decode cX9_back 95 = .ok (.getfield 28, 3) := by decide +kernel
theorem dX9_back_98 : decode cX9_back 98 = .ok (.iload_n 2, 1) := by decide +kernel
theorem dX9_back_99 : decode cX9_back 99 = .ok (.aload_n 0, 1) := by decide +kernel
theorem dX9_back_100 : decode cX9_back 100 = .ok (.getfield 52, 3) := by decide +kernel
theorem dX9_back_103 : decode cX9_back 103 = .ok (.sipush 132, 3) := by decide +kernel
theorem dX9_back_106 : decode cX9_back 106 = .ok (.iload_n 2, 1) := by decide +kernel
theorem dX9_back_107 : decode cX9_back 107 = .ok (.iadd, 1) := by decide +kernel
theorem dX9_back_108 : decode cX9_back 108 = .ok (.iaload, 1) := by decide +kernel
theorem dX9_back_109 : decode cX9_back 109 = .ok (.iastore, 1) := by decide +kernel
theorem dX9_back_110 : decode cX9_back 110 = .ok (.iinc 2 1, 3) := by decide +kernel
theorem dX9_back_113 : decode cX9_back 113 = .ok (.goto (-55), 3) := by decide +kernel
theorem dX9_back_116 : decode cX9_back 116 = .ok (.aload_n 0, 1) := by decide +kernel
theorem dX9_back_117 : decode cX9_back 117 = .ok (.aload_n 0, 1) := by decide +kernel
theorem dX9_back_118 : decode cX9_back 118 = .ok (.getfield 52, 3) := by decide +kernel
theorem dX9_back_121 : decode cX9_back 121 = .ok (.sipush 138, 3) := by decide +kernel
theorem dX9_back_124 : decode cX9_back 124 = .ok (.iaload, 1) := by decide +kernel
theorem dX9_back_125 : decode cX9_back 125 = .ok (.putfield 129, 3) := by decide +kernel
theorem dX9_back_128 : decode cX9_back 128 = .ok (.iload_n 1, 1) := by decide +kernel
theorem dX9_back_129 : decode cX9_back 129 = .ok (.ireturn, 1) := by decide +kernel
theorem dX9_goOne_0 : decode cX9_goOne 0 = .ok (.aload_n 0, 1) := by decide +kernel
theorem dX9_goOne_1 : decode cX9_goOne 1 = .ok (.aload_n 0, 1) := by decide +kernel
theorem dX9_goOne_2 : decode cX9_goOne 2 = .ok (.getfield 43, 3) := by decide +kernel
theorem dX9_goOne_5 : decode cX9_goOne 5 = .ok (.iload_n 1, 1) := by decide +kernel
theorem dX9_goOne_6 : decode cX9_goOne 6 = .ok (.iaload, 1) := by decide +kernel
theorem dX9_goOne_7 : decode cX9_goOne 7 = .ok (.aload_n 0, 1) := by decide +kernel
theorem dX9_goOne_8 : decode cX9_goOne 8 = .ok (.getfield 46, 3) := by decide +kernel
theorem dX9_goOne_11 : decode cX9_goOne 11 = .ok (.iload_n 1, 1) := by decide +kernel
theorem dX9_goOne_12 : decode cX9_goOne 12 = .ok (.iaload, 1) := by decide +kernel
theorem dX9_goOne_13 : decode cX9_goOne 13 = .ok (.aload_n 0, 1) := by decide +kernel
theorem dX9_goOne_14 : decode cX9_goOne 14 = .ok (.getfield 49, 3) := by decide +kernel
theorem dX9_goOne_17 : decode cX9_goOne 17 = .ok (.iload_n 1, 1) := by decide +kernel
theorem dX9_goOne_18 : decode cX9_goOne 18 = .ok (.iaload, 1) := by decide +kernel
theorem dX9_goOne_19 : decode cX9_goOne 19 = .ok (.invokevirtual 157, 3) := by decide +kernel
theorem dX9_goOne_22 : decode cX9_goOne 22 = .ok (.aload_n 0, 1) := by decide +kernel
theorem dX9_goOne_23 : decode cX9_goOne 23 = .ok (.getfield 141, 3) := by decide +kernel
theorem dX9_goOne_26 : decode cX9_goOne 26 = .ok (.ifCond .lt 23, 3) := by decide +kernel
theorem dX9_goOne_29 : decode cX9_goOne 29 = .ok (.aload_n 0, 1) := by decide +kernel
theorem dX9_goOne_30 : decode cX9_goOne 30 = .ok (.getfield 161, 3) := by decide +kernel
theorem dX9_goOne_33 : decode cX9_goOne 33 = .ok (.ifCond .ge 16, 3) := by decide +kernel
theorem dX9_goOne_36 : decode cX9_goOne 36 = .ok (.aload_n 0, 1) := by decide +kernel
theorem dX9_goOne_37 : decode cX9_goOne 37 = .ok (.iload_n 1, 1) := by decide +kernel
theorem dX9_goOne_38 : decode cX9_goOne 38 = .ok (.putfield 161, 3) := by decide +kernel
theorem dX9_goOne_41 : decode cX9_goOne 41 = .ok (.aload_n 0, 1) := by decide +kernel
theorem dX9_goOne_42 : decode cX9_goOne 42 = .ok (.aload_n 0, 1) := by decide +kernel
theorem dX9_goOne_43 : decode cX9_goOne 43 = .ok (.getfield 141, 3) := by decide +kernel
theorem dX9_goOne_46 : decode cX9_goOne 46 = .ok (.putfield 164, 3) := by decide +kernel
theorem dX9_goOne_49 : decode cX9_goOne 49 = .ok (.return_, 1) := by decide +kernel
theorem dX9_goHours_0 : decode cX9_goHours 0 = .ok (.aload_n 0, 1) := by decide +kernel
theorem dX9_goHours_1 : decode cX9_goHours 1 = .ok (.bipush (-6), 2) := by decide +kernel
theorem dX9_goHours_3 : decode cX9_goHours 3 = .ok (.putfield 167, 3) := by decide +kernel
theorem dX9_goHours_6 : decode cX9_goHours 6 = .ok (.aload_n 0, 1) := by decide +kernel
theorem dX9_goHours_7 : decode cX9_goHours 7 = .ok (.bipush (-6), 2) := by decide +kernel
theorem dX9_goHours_9 : decode cX9_goHours 9 = .ok (.putfield 170, 3) := by decide +kernel
theorem dX9_goHours_12 : decode cX9_goHours 12 = .ok (.aload_n 0, 1) := by decide +kernel
theorem dX9_goHours_13 : decode cX9_goHours 13 = .ok (.bipush (-6), 2) := by decide +kernel
theorem dX9_goHours_15 : decode cX9_goHours 15 = .ok (.putfield 161, 3) := by decide +kernel
theorem dX9_goHours_18 : decode cX9_goHours 18 = .ok (.aload_n 0, 1) := by decide +kernel
theorem dX9_goHours_19 : decode cX9_goHours 19 = .ok (.bipush (-6), 2) := by decide +kernel
theorem dX9_goHours_21 : decode cX9_goHours 21 = .ok (.putfield 164, 3) := by decide +kernel
theorem dX9_goHours_24 : decode cX9_goHours 24 = .ok (.aload_n 0, 1) := by decide +kernel
theorem dX9_goHours_25 : decode cX9_goHours 25 = .ok (.iconst 0, 1) := by decide +kernel
theorem dX9_goHours_26 : decode cX9_goHours 26 = .ok (.putfield 135, 3) := by decide +kernel
theorem dX9_goHours_29 : decode cX9_goHours 29 = .ok (.iconst 0, 1) := by decide +kernel
theorem dX9_goHours_30 : decode cX9_goHours 30 = .ok (.istore_n 1, 1) := by decide +kernel
theorem dX9_goHours_31 : decode cX9_goHours 31 = .ok (.iload_n 1, 1) := by decide +kernel
theorem dX9_goHours_32 : decode cX9_goHours 32 = .ok (.aload_n 0, 1) := by decide +kernel
theorem dX9_goHours_33 : decode cX9_goHours 33 = .ok (.getfield 101, 3) := by decide +kernel
theorem dX9_goHours_36 : decode cX9_goHours 36 = .ok (.if_icmp .ge 76, 3) := by decide +kernel
theorem dX9_goHours_39 : decode cX9_goHours 39 = .ok (.aload_n 0, 1) := by decide +kernel
theorem dX9_goHours_40 : decode cX9_goHours 40 = .ok (.getfield 167, 3) := by decide +kernel
theorem dX9_goHours_43 : decode cX9_goHours 43 = .ok (.ifCond .ge 69, 3) := by decide +kernel
theorem dX9_goHours_46 : decode cX9_goHours 46 = .ok (.aload_n 0, 1) := by decide +kernel
theorem dX9_goHours_47 : decode cX9_goHours 47 = .ok (.aload_n 0, 1) := by decide +kernel
theorem dX9_goHours_48 : decode cX9_goHours 48 = .ok (.getfield 43, 3) := by decide +kernel
theorem dX9_goHours_51 : decode cX9_goHours 51 = .ok (.iload_n 1, 1) := by decide +kernel
theorem dX9_goHours_52 : decode cX9_goHours 52 = .ok (.iaload, 1) := by decide +kernel
theorem dX9_goHours_53 : decode cX9_goHours 53 = .ok (.aload_n 0, 1) := by decide +kernel
theorem dX9_goHours_54 : decode cX9_goHours 54 = .ok (.getfield 46, 3) := by decide +kernel
theorem dX9_goHours_57 : decode cX9_goHours 57 = .ok (.iload_n 1, 1) := by decide +kernel
theorem dX9_goHours_58 : decode cX9_goHours 58 = .ok (.iaload, 1) := by decide +kernel
theorem dX9_goHours_59 : decode cX9_goHours 59 = .ok (.aload_n 0, 1) := by decide +kernel
theorem dX9_goHours_60 : decode cX9_goHours 60 = .ok (.getfield 49, 3) := by decide +kernel
theorem dX9_goHours_63 : decode cX9_goHours 63 = .ok (.iload_n 1, 1) := by decide +kernel
theorem dX9_goHours_64 : decode cX9_goHours 64 = .ok (.iaload, 1) := by decide +kernel
theorem dX9_goHours_65 : decode cX9_goHours 65 = .ok (.invokevirtual 173, 3) := by decide +kernel
theorem dX9_goHours_68 : decode cX9_goHours 68 = .ok (.istore_n 2, 1) := by decide +kernel
theorem dX9_goHours_69 : decode cX9_goHours 69 = .ok (.aload_n 0, 1) := by decide +kernel
theorem dX9_goHours_70 : decode cX9_goHours 70 = .ok (.iload_n 2, 1) := by decide +kernel
theorem dX9_goHours_71 : decode cX9_goHours 71 = .ok (.ifCond .le 7, 3) := by decide +kernel
theorem dX9_goHours_74 : decode cX9_goHours 74 = .ok (.iload_n 1, 1) := by decide +kernel
theorem dX9_goHours_75 : decode cX9_goHours 75 = .ok (.goto 5, 3) := by decide +kernel
theorem dX9_goHours_78 : decode cX9_goHours 78 = .ok (.bipush (-6), 2) := by decide +kernel
theorem dX9_goHours_80 : decode cX9_goHours 80 = .ok (.putfield 167, 3) := by decide +kernel
theorem dX9_goHours_83 : decode cX9_goHours 83 = .ok (.aload_n 0, 1) := by decide +kernel
theorem dX9_goHours_84 : decode cX9_goHours 84 = .ok (.iload_n 2, 1) := by decide +kernel
theorem dX9_goHours_85 : decode cX9_goHours 85 = .ok (.ifCond .le 7, 3) := by decide +kernel
theorem dX9_goHours_88 : decode cX9_goHours 88 = .ok (.iload_n 2, 1) := by decide +kernel
theorem dX9_goHours_89 : decode cX9_goHours 89 = .ok (.goto 5, 3) := by decide +kernel
theorem dX9_goHours_92 : decode cX9_goHours 92 = .ok (.bipush (-6), 2) := by decide +kernel
theorem dX9_goHours_94 : decode cX9_goHours 94 = .ok (.putfield 170, 3) := by decide +kernel
theorem dX9_goHours_97 : decode cX9_goHours 97 = .ok (.iload_n 2, 1) := by decide +kernel
theorem dX9_goHours_98 : decode cX9_goHours 98 = .ok (.ifCond .ne 8, 3) := by decide +kernel
theorem dX9_goHours_101 : decode cX9_goHours 101 = .ok (.aload_n 0, 1) := by decide +kernel
theorem dX9_goHours_102 : decode cX9_goHours 102 = .ok (.iload_n 1, 1) := by decide +kernel
theorem dX9_goHours_103 : decode cX9_goHours 103 = .ok (.invokevirtual 177, 3) := by decide +kernel
theorem dX9_goHours_106 : decode cX9_goHours 106 = .ok (.iinc 1 1, 3) := by decide +kernel
theorem dX9_goHours_109 : decode cX9_goHours 109 = .ok (.goto (-78), 3) := by decide +kernel
theorem dX9_goHours_112 : decode cX9_goHours 112 = .ok (.return_, 1) := by decide +kernel
theorem dX9_refusal_0 : decode cX9_refusal 0 = .ok (.aload_n 0, 1) := by decide +kernel
theorem dX9_refusal_1 : decode cX9_refusal 1 = .ok (.invokevirtual 180, 3) := by decide +kernel
theorem dX9_refusal_4 : decode cX9_refusal 4 = .ok (.aload_n 0, 1) := by decide +kernel
theorem dX9_refusal_5 : decode cX9_refusal 5 = .ok (.invokevirtual 183, 3) := by decide +kernel
theorem dX9_refusal_8 : decode cX9_refusal 8 = .ok (.ifCond .lt 6, 3) := by decide +kernel
theorem dX9_refusal_11 : decode cX9_refusal 11 = .ok (.bipush (-5), 2) := by decide +kernel
theorem dX9_refusal_13 : decode cX9_refusal 13 = .ok (.ireturn, 1) := by decide +kernel
theorem dX9_refusal_14 : decode cX9_refusal 14 = .ok (.aload_n 0, 1) := by decide +kernel
theorem dX9_refusal_15 : decode cX9_refusal 15 = .ok (.invokevirtual 187, 3) := by decide +kernel
theorem dX9_refusal_18 : decode cX9_refusal 18 = .ok (.aload_n 0, 1) := by decide +kernel
theorem dX9_refusal_19 : decode cX9_refusal 19 = .ok (.getfield 167, 3) := by decide +kernel
theorem dX9_refusal_22 : decode cX9_refusal 22 = .ok (.ifCond .lt 8, 3) := by decide +kernel
theorem dX9_refusal_25 : decode cX9_refusal 25 = .ok (.bipush (-3), 2) := by decide +kernel
theorem dX9_refusal_27 : decode cX9_refusal 27 = .ok (.goto 5, 3) := by decide +kernel
theorem dX9_refusal_30 : decode cX9_refusal 30 = .ok (.bipush (-6), 2) := by decide +kernel
theorem dX9_refusal_32 : decode cX9_refusal 32 = .ok (.ireturn, 1) := by decide +kernel
theorem dX9_judge_0 : decode cX9_judge 0 = .ok (.iload_n 1, 1) := by decide +kernel
theorem dX9_judge_1 : decode cX9_judge 1 = .ok (.i2l, 1) := by decide +kernel
theorem dX9_judge_2 : decode cX9_judge 2 = .ok (.lconst 0, 1) := by decide +kernel
theorem dX9_judge_3 : decode cX9_judge 3 = .ok (.ldc2_w 190, 3) := by decide +kernel
theorem dX9_judge_6 : decode cX9_judge 6 = .ok (.invokestatic 76, 3) := by decide +kernel
theorem dX9_judge_9 : decode cX9_judge 9 = .ok (.ifCond .ne 6, 3) := by decide +kernel
theorem dX9_judge_12 : decode cX9_judge 12 = .ok (.bipush (-2), 2) := by decide +kernel
theorem dX9_judge_14 : decode cX9_judge 14 = .ok (.ireturn, 1) := by decide +kernel
theorem dX9_judge_15 : decode cX9_judge 15 = .ok (.aload_n 0, 1) := by decide +kernel
theorem dX9_judge_16 : decode cX9_judge 16 = .ok (.aload_n 0, 1) := by decide +kernel
theorem dX9_judge_17 : decode cX9_judge 17 = .ok (.invokevirtual 192, 3) := by decide +kernel
theorem dX9_judge_20 : decode cX9_judge 20 = .ok (.invokevirtual 195, 3) := by decide +kernel
theorem dX9_judge_23 : decode cX9_judge 23 = .ok (.istore_n 2, 1) := by decide +kernel
theorem dX9_judge_24 : decode cX9_judge 24 = .ok (.iload_n 2, 1) := by decide +kernel
theorem dX9_judge_25 : decode cX9_judge 25 = .ok (.bipush (-5), 2) := by decide +kernel
theorem dX9_judge_27 : decode cX9_judge 27 = .ok (.if_icmp .eq 14, 3) := by decide +kernel
theorem dX9_judge_30 : decode cX9_judge 30 = .ok (.iload_n 1, 1) := by decide +kernel
theorem dX9_judge_31 : decode cX9_judge 31 = .ok (.iconst 1, 1) := by decide +kernel
theorem dX9_judge_32 : decode cX9_judge 32 = .ok (.if_icmp .le 11, 3) := by decide +kernel
theorem dX9_judge_35 : decode cX9_judge 35 = .ok (.iload_n 2, 1) := by decide +kernel
theorem dX9_judge_36 : decode cX9_judge 36 = .ok (.bipush (-3), 2) := by decide +kernel
theorem dX9_judge_38 : decode cX9_judge 38 = .ok (.if_icmp .ne 5, 3) := by decide +kernel
theorem dX9_judge_41 : decode cX9_judge 41 = .ok (.iload_n 2, 1) := by decide +kernel
theorem dX9_judge_42 : decode cX9_judge 42 = .ok (.ireturn, 1) := by decide +kernel
theorem dX9_judge_43 : decode cX9_judge 43 = .ok (.iload_n 1, 1) := by decide +kernel
theorem dX9_judge_44 : decode cX9_judge 44 = .ok (.ifCond .ne 10, 3) := by decide +kernel
theorem dX9_judge_47 : decode cX9_judge 47 = .ok (.aload_n 0, 1) := by decide +kernel
theorem dX9_judge_48 : decode cX9_judge 48 = .ok (.getfield 167, 3) := by decide +kernel
theorem dX9_judge_51 : decode cX9_judge 51 = .ok (.goto 19, 3) := by decide +kernel
theorem dX9_judge_54 : decode cX9_judge 54 = .ok (.iload_n 1, 1) := by decide +kernel
theorem dX9_judge_55 : decode cX9_judge 55 = .ok (.iconst 1, 1) := by decide +kernel
theorem dX9_judge_56 : decode cX9_judge 56 = .ok (.if_icmp .ne 10, 3) := by decide +kernel
theorem dX9_judge_59 : decode cX9_judge 59 = .ok (.aload_n 0, 1) := by decide +kernel
theorem dX9_judge_60 : decode cX9_judge 60 = .ok (.getfield 170, 3) := by decide +kernel
theorem dX9_judge_63 : decode cX9_judge 63 = .ok (.goto 7, 3) := by decide +kernel
theorem dX9_judge_66 : decode cX9_judge 66 = .ok (.aload_n 0, 1) := by decide +kernel
theorem dX9_judge_67 : decode cX9_judge 67 = .ok (.getfield 135, 3) := by decide +kernel
theorem dX9_judge_70 : decode cX9_judge 70 = .ok (.ireturn, 1) := by decide +kernel
theorem dX9_behind_0 : decode cX9_behind 0 = .ok (.iload_n 1, 1) := by decide +kernel
theorem dX9_behind_1 : decode cX9_behind 1 = .ok (.invokestatic 90, 3) := by decide +kernel
theorem dX9_behind_4 : decode cX9_behind 4 = .ok (.ifCond .ne 5, 3) := by decide +kernel
theorem dX9_behind_7 : decode cX9_behind 7 = .ok (.iconst (-1), 1) := by decide +kernel
theorem dX9_behind_8 : decode cX9_behind 8 = .ok (.ireturn, 1) := by decide +kernel
theorem dX9_behind_9 : decode cX9_behind 9 = .ok (.iload_n 2, 1) := by decide +kernel
theorem dX9_behind_10 : decode cX9_behind 10 = .ok (.i2l, 1) := by decide +kernel
theorem dX9_behind_11 : decode cX9_behind 11 = .ok (.lconst 0, 1) := by decide +kernel
theorem dX9_behind_12 : decode cX9_behind 12 = .ok (.ldc2_w 190, 3) := by decide +kernel
theorem dX9_behind_15 : decode cX9_behind 15 = .ok (.invokestatic 76, 3) := by decide +kernel
theorem dX9_behind_18 : decode cX9_behind 18 = .ok (.ifCond .ne 6, 3) := by decide +kernel
theorem dX9_behind_21 : decode cX9_behind 21 = .ok (.bipush (-2), 2) := by decide +kernel
theorem dX9_behind_23 : decode cX9_behind 23 = .ok (.ireturn, 1) := by decide +kernel
theorem dX9_behind_24 : decode cX9_behind 24 = .ok (.aload_n 0, 1) := by decide +kernel
theorem dX9_behind_25 : decode cX9_behind 25 = .ok (.invokevirtual 192, 3) := by decide +kernel
theorem dX9_behind_28 : decode cX9_behind 28 = .ok (.istore_n 3, 1) := by decide +kernel
theorem dX9_behind_29 : decode cX9_behind 29 = .ok (.aload_n 0, 1) := by decide +kernel
theorem dX9_behind_30 : decode cX9_behind 30 = .ok (.iload_n 3, 1) := by decide +kernel
theorem dX9_behind_31 : decode cX9_behind 31 = .ok (.bipush (-6), 2) := by decide +kernel
theorem dX9_behind_33 : decode cX9_behind 33 = .ok (.if_icmp .eq 7, 3) := by decide +kernel
theorem dX9_behind_36 : decode cX9_behind 36 = .ok (.iload_n 3, 1) := by decide +kernel
theorem dX9_behind_37 : decode cX9_behind 37 = .ok (.goto 36, 3) := by decide +kernel
theorem dX9_behind_40 : decode cX9_behind 40 = .ok (.iload_n 2, 1) := by decide +kernel
theorem dX9_behind_41 : decode cX9_behind 41 = .ok (.ifCond .ne 12, 3) := by decide +kernel
theorem dX9_behind_44 : decode cX9_behind 44 = .ok (.aload_n 0, 1) := by decide +kernel
theorem dX9_behind_45 : decode cX9_behind 45 = .ok (.getfield 19, 3) := by decide +kernel
theorem dX9_behind_48 : decode cX9_behind 48 = .ok (.iload_n 1, 1) := by decide +kernel
theorem dX9_behind_49 : decode cX9_behind 49 = .ok (.iaload, 1) := by decide +kernel
theorem dX9_behind_50 : decode cX9_behind 50 = .ok (.goto 23, 3) := by decide +kernel
theorem dX9_behind_53 : decode cX9_behind 53 = .ok (.iload_n 2, 1) := by decide +kernel
theorem dX9_behind_54 : decode cX9_behind 54 = .ok (.iconst 1, 1) := by decide +kernel
theorem dX9_behind_55 : decode cX9_behind 55 = .ok (.if_icmp .ne 12, 3) := by decide +kernel
theorem dX9_behind_58 : decode cX9_behind 58 = .ok (.aload_n 0, 1) := by decide +kernel
theorem dX9_behind_59 : decode cX9_behind 59 = .ok (.getfield 25, 3) := by decide +kernel
theorem dX9_behind_62 : decode cX9_behind 62 = .ok (.iload_n 1, 1) := by decide +kernel
theorem dX9_behind_63 : decode cX9_behind 63 = .ok (.iaload, 1) := by decide +kernel
theorem dX9_behind_64 : decode cX9_behind 64 = .ok (.goto 9, 3) := by decide +kernel
theorem dX9_behind_67 : decode cX9_behind 67 = .ok (.aload_n 0, 1) := by decide +kernel
theorem dX9_behind_68 : decode cX9_behind 68 = .ok (.getfield 28, 3) := by decide +kernel
theorem dX9_behind_71 : decode cX9_behind 71 = .ok (.iload_n 1, 1) := by decide +kernel
theorem dX9_behind_72 : decode cX9_behind 72 = .ok (.iaload, 1) := by decide +kernel
theorem dX9_behind_73 : decode cX9_behind 73 = .ok (.invokevirtual 195, 3) := by decide +kernel
theorem dX9_behind_76 : decode cX9_behind 76 = .ok (.ireturn, 1) := by decide +kernel
theorem dX9_stands_0 : decode cX9_stands 0 = .ok (.iload_n 1, 1) := by decide +kernel
theorem dX9_stands_1 : decode cX9_stands 1 = .ok (.invokestatic 82, 3) := by decide +kernel
theorem dX9_stands_4 : decode cX9_stands 4 = .ok (.ifCond .ne 5, 3) := by decide +kernel
theorem dX9_stands_7 : decode cX9_stands 7 = .ok (.iconst (-1), 1) := by decide +kernel
theorem dX9_stands_8 : decode cX9_stands 8 = .ok (.ireturn, 1) := by decide +kernel
theorem dX9_stands_9 : decode cX9_stands 9 = .ok (.iload_n 2, 1) := by decide +kernel
theorem dX9_stands_10 : decode cX9_stands 10 = .ok (.i2l, 1) := by decide +kernel
theorem dX9_stands_11 : decode cX9_stands 11 = .ok (.lconst 0, 1) := by decide +kernel
theorem dX9_stands_12 : decode cX9_stands 12 = .ok (.ldc2_w 190, 3) := by decide +kernel
theorem dX9_stands_15 : decode cX9_stands 15 = .ok (.invokestatic 76, 3) := by decide +kernel
theorem dX9_stands_18 : decode cX9_stands 18 = .ok (.ifCond .ne 6, 3) := by decide +kernel
theorem dX9_stands_21 : decode cX9_stands 21 = .ok (.bipush (-2), 2) := by decide +kernel
theorem dX9_stands_23 : decode cX9_stands 23 = .ok (.ireturn, 1) := by decide +kernel
theorem dX9_stands_24 : decode cX9_stands 24 = .ok (.aload_n 0, 1) := by decide +kernel
theorem dX9_stands_25 : decode cX9_stands 25 = .ok (.invokevirtual 192, 3) := by decide +kernel
theorem dX9_stands_28 : decode cX9_stands 28 = .ok (.istore_n 3, 1) := by decide +kernel
theorem dX9_stands_29 : decode cX9_stands 29 = .ok (.aload_n 0, 1) := by decide +kernel
theorem dX9_stands_30 : decode cX9_stands 30 = .ok (.iload_n 3, 1) := by decide +kernel
theorem dX9_stands_31 : decode cX9_stands 31 = .ok (.bipush (-6), 2) := by decide +kernel
theorem dX9_stands_33 : decode cX9_stands 33 = .ok (.if_icmp .eq 7, 3) := by decide +kernel
theorem dX9_stands_36 : decode cX9_stands 36 = .ok (.iload_n 3, 1) := by decide +kernel
theorem dX9_stands_37 : decode cX9_stands 37 = .ok (.goto 36, 3) := by decide +kernel
theorem dX9_stands_40 : decode cX9_stands 40 = .ok (.iload_n 2, 1) := by decide +kernel
theorem dX9_stands_41 : decode cX9_stands 41 = .ok (.ifCond .ne 12, 3) := by decide +kernel
theorem dX9_stands_44 : decode cX9_stands 44 = .ok (.aload_n 0, 1) := by decide +kernel
theorem dX9_stands_45 : decode cX9_stands 45 = .ok (.getfield 7, 3) := by decide +kernel
theorem dX9_stands_48 : decode cX9_stands 48 = .ok (.iload_n 1, 1) := by decide +kernel
theorem dX9_stands_49 : decode cX9_stands 49 = .ok (.iaload, 1) := by decide +kernel
theorem dX9_stands_50 : decode cX9_stands 50 = .ok (.goto 23, 3) := by decide +kernel
theorem dX9_stands_53 : decode cX9_stands 53 = .ok (.iload_n 2, 1) := by decide +kernel
theorem dX9_stands_54 : decode cX9_stands 54 = .ok (.iconst 1, 1) := by decide +kernel
theorem dX9_stands_55 : decode cX9_stands 55 = .ok (.if_icmp .ne 12, 3) := by decide +kernel
theorem dX9_stands_58 : decode cX9_stands 58 = .ok (.aload_n 0, 1) := by decide +kernel
theorem dX9_stands_59 : decode cX9_stands 59 = .ok (.getfield 13, 3) := by decide +kernel
theorem dX9_stands_62 : decode cX9_stands 62 = .ok (.iload_n 1, 1) := by decide +kernel
theorem dX9_stands_63 : decode cX9_stands 63 = .ok (.iaload, 1) := by decide +kernel
theorem dX9_stands_64 : decode cX9_stands 64 = .ok (.goto 9, 3) := by decide +kernel
theorem dX9_stands_67 : decode cX9_stands 67 = .ok (.aload_n 0, 1) := by decide +kernel
theorem dX9_stands_68 : decode cX9_stands 68 = .ok (.getfield 16, 3) := by decide +kernel
theorem dX9_stands_71 : decode cX9_stands 71 = .ok (.iload_n 1, 1) := by decide +kernel
theorem dX9_stands_72 : decode cX9_stands 72 = .ok (.iaload, 1) := by decide +kernel
theorem dX9_stands_73 : decode cX9_stands 73 = .ok (.invokevirtual 195, 3) := by decide +kernel
theorem dX9_stands_76 : decode cX9_stands 76 = .ok (.ireturn, 1) := by decide +kernel
theorem dX9_whoChose_0 : decode cX9_whoChose 0 = .ok (.iconst 0, 1) := by decide +kernel
theorem dX9_whoChose_1 : decode cX9_whoChose 1 = .ok (.istore_n 1, 1) := by decide +kernel
theorem dX9_whoChose_2 : decode cX9_whoChose 2 = .ok (.iconst 0, 1) := by decide +kernel
theorem dX9_whoChose_3 : decode cX9_whoChose 3 = .ok (.istore_n 2, 1) := by decide +kernel
theorem dX9_whoChose_4 : decode cX9_whoChose 4 = .ok (.iload_n 2, 1) := by decide +kernel
theorem dX9_whoChose_5 : decode cX9_whoChose 5 = .ok (.bipush 6, 2) := by decide +kernel
theorem dX9_whoChose_7 : decode cX9_whoChose 7 = .ok (.if_icmp .ge 28, 3) := by decide +kernel
theorem dX9_whoChose_10 : decode cX9_whoChose 10 = .ok (.iload_n 1, 1) := by decide +kernel
theorem dX9_whoChose_11 : decode cX9_whoChose 11 = .ok (.aload_n 0, 1) := by decide +kernel
theorem dX9_whoChose_12 : decode cX9_whoChose 12 = .ok (.getfield 28, 3) := by decide +kernel
theorem dX9_whoChose_15 : decode cX9_whoChose 15 = .ok (.iload_n 2, 1) := by decide +kernel
theorem dX9_whoChose_16 : decode cX9_whoChose 16 = .ok (.iaload, 1) := by decide +kernel
theorem dX9_whoChose_17 : decode cX9_whoChose 17 = .ok (.ifCond .ge 7, 3) := by decide +kernel
theorem dX9_whoChose_20 : decode cX9_whoChose 20 = .ok (.iconst 0, 1) := by decide +kernel
theorem dX9_whoChose_21 : decode cX9_whoChose 21 = .ok (.goto 6, 3) := by decide +kernel
theorem dX9_whoChose_24 : decode cX9_whoChose 24 = .ok (.iconst 1, 1) := by decide +kernel
theorem dX9_whoChose_25 : decode cX9_whoChose 25 = .ok (.iload_n 2, 1) := by decide +kernel
theorem dX9_whoChose_26 : decode cX9_whoChose 26 = .ok (.ishl, 1) := by decide +kernel
theorem dX9_whoChose_27 : decode cX9_whoChose 27 = .ok (.ior, 1) := by decide +kernel
theorem dX9_whoChose_28 : decode cX9_whoChose 28 = .ok (.istore_n 1, 1) := by decide +kernel
theorem dX9_whoChose_29 : decode cX9_whoChose 29 = .ok (.iinc 2 1, 3) := by decide +kernel
theorem dX9_whoChose_32 : decode cX9_whoChose 32 = .ok (.goto (-28), 3) := by decide +kernel
theorem dX9_whoChose_35 : decode cX9_whoChose 35 = .ok (.iload_n 1, 1) := by decide +kernel
theorem dX9_whoChose_36 : decode cX9_whoChose 36 = .ok (.ireturn, 1) := by decide +kernel
theorem dX9_whoRight_0 : decode cX9_whoRight 0 = .ok (.iconst 0, 1) := by decide +kernel
theorem dX9_whoRight_1 : decode cX9_whoRight 1 = .ok (.istore_n 1, 1) := by decide +kernel
theorem dX9_whoRight_2 : decode cX9_whoRight 2 = .ok (.iconst 0, 1) := by decide +kernel
theorem dX9_whoRight_3 : decode cX9_whoRight 3 = .ok (.istore_n 2, 1) := by decide +kernel
theorem dX9_whoRight_4 : decode cX9_whoRight 4 = .ok (.iload_n 2, 1) := by decide +kernel
theorem dX9_whoRight_5 : decode cX9_whoRight 5 = .ok (.bipush 6, 2) := by decide +kernel
theorem dX9_whoRight_7 : decode cX9_whoRight 7 = .ok (.if_icmp .ge 53, 3) := by decide +kernel
theorem dX9_whoRight_10 : decode cX9_whoRight 10 = .ok (.aload_n 0, 1) := by decide +kernel
theorem dX9_whoRight_11 : decode cX9_whoRight 11 = .ok (.getfield 28, 3) := by decide +kernel
theorem dX9_whoRight_14 : decode cX9_whoRight 14 = .ok (.iload_n 2, 1) := by decide +kernel
theorem dX9_whoRight_15 : decode cX9_whoRight 15 = .ok (.iaload, 1) := by decide +kernel
theorem dX9_whoRight_16 : decode cX9_whoRight 16 = .ok (.ifCond .lt 22, 3) := by decide +kernel
theorem dX9_whoRight_19 : decode cX9_whoRight 19 = .ok (.aload_n 0, 1) := by decide +kernel
theorem dX9_whoRight_20 : decode cX9_whoRight 20 = .ok (.getfield 16, 3) := by decide +kernel
theorem dX9_whoRight_23 : decode cX9_whoRight 23 = .ok (.aload_n 0, 1) := by decide +kernel
theorem dX9_whoRight_24 : decode cX9_whoRight 24 = .ok (.getfield 28, 3) := by decide +kernel
theorem dX9_whoRight_27 : decode cX9_whoRight 27 = .ok (.iload_n 2, 1) := by decide +kernel
theorem dX9_whoRight_28 : decode cX9_whoRight 28 = .ok (.iaload, 1) := by decide +kernel
theorem dX9_whoRight_29 : decode cX9_whoRight 29 = .ok (.iaload, 1) := by decide +kernel
theorem dX9_whoRight_30 : decode cX9_whoRight 30 = .ok (.iload_n 2, 1) := by decide +kernel
theorem dX9_whoRight_31 : decode cX9_whoRight 31 = .ok (.if_icmp .ne 7, 3) := by decide +kernel
theorem dX9_whoRight_34 : decode cX9_whoRight 34 = .ok (.iconst 1, 1) := by decide +kernel
theorem dX9_whoRight_35 : decode cX9_whoRight 35 = .ok (.goto 4, 3) := by decide +kernel
theorem dX9_whoRight_38 : decode cX9_whoRight 38 = .ok (.iconst 0, 1) := by decide +kernel
theorem dX9_whoRight_39 : decode cX9_whoRight 39 = .ok (.istore_n 3, 1) := by decide +kernel
theorem dX9_whoRight_40 : decode cX9_whoRight 40 = .ok (.iload_n 1, 1) := by decide +kernel
theorem dX9_whoRight_41 : decode cX9_whoRight 41 = .ok (.iload_n 3, 1) := by decide +kernel
theorem dX9_whoRight_42 : decode cX9_whoRight 42 = .ok (.ifCond .eq 9, 3) := by decide +kernel
theorem dX9_whoRight_45 : decode cX9_whoRight 45 = .ok (.iconst 1, 1) := by decide +kernel
theorem dX9_whoRight_46 : decode cX9_whoRight 46 = .ok (.iload_n 2, 1) := by decide +kernel
theorem dX9_whoRight_47 : decode cX9_whoRight 47 = .ok (.ishl, 1) := by decide +kernel
theorem dX9_whoRight_48 : decode cX9_whoRight 48 = .ok (.goto 4, 3) := by decide +kernel
theorem dX9_whoRight_51 : decode cX9_whoRight 51 = .ok (.iconst 0, 1) := by decide +kernel
theorem dX9_whoRight_52 : decode cX9_whoRight 52 = .ok (.ior, 1) := by decide +kernel
theorem dX9_whoRight_53 : decode cX9_whoRight 53 = .ok (.istore_n 1, 1) := by decide +kernel
theorem dX9_whoRight_54 : decode cX9_whoRight 54 = .ok (.iinc 2 1, 3) := by decide +kernel
theorem dX9_whoRight_57 : decode cX9_whoRight 57 = .ok (.goto (-53), 3) := by decide +kernel
theorem dX9_whoRight_60 : decode cX9_whoRight 60 = .ok (.iload_n 1, 1) := by decide +kernel
theorem dX9_whoRight_61 : decode cX9_whoRight 61 = .ok (.ireturn, 1) := by decide +kernel
theorem dX9_nickMany_0 : decode cX9_nickMany 0 = .ok (.iconst 0, 1) := by decide +kernel
theorem dX9_nickMany_1 : decode cX9_nickMany 1 = .ok (.istore_n 1, 1) := by decide +kernel
theorem dX9_nickMany_2 : decode cX9_nickMany 2 = .ok (.iconst 0, 1) := by decide +kernel
theorem dX9_nickMany_3 : decode cX9_nickMany 3 = .ok (.istore_n 2, 1) := by decide +kernel
theorem dX9_nickMany_4 : decode cX9_nickMany 4 = .ok (.iload_n 2, 1) := by decide +kernel
theorem dX9_nickMany_5 : decode cX9_nickMany 5 = .ok (.bipush 40, 2) := by decide +kernel
theorem dX9_nickMany_7 : decode cX9_nickMany 7 = .ok (.if_icmp .ge 18, 3) := by decide +kernel
theorem dX9_nickMany_10 : decode cX9_nickMany 10 = .ok (.iload_n 1, 1) := by decide +kernel
theorem dX9_nickMany_11 : decode cX9_nickMany 11 = .ok (.aload_n 0, 1) := by decide +kernel
theorem dX9_nickMany_12 : decode cX9_nickMany 12 = .ok (.getfield 13, 3) := by decide +kernel
theorem dX9_nickMany_15 : decode cX9_nickMany 15 = .ok (.iload_n 2, 1) := by decide +kernel
theorem dX9_nickMany_16 : decode cX9_nickMany 16 = .ok (.iaload, 1) := by decide +kernel
theorem dX9_nickMany_17 : decode cX9_nickMany 17 = .ok (.iadd, 1) := by decide +kernel
theorem dX9_nickMany_18 : decode cX9_nickMany 18 = .ok (.istore_n 1, 1) := by decide +kernel
theorem dX9_nickMany_19 : decode cX9_nickMany 19 = .ok (.iinc 2 1, 3) := by decide +kernel
theorem dX9_nickMany_22 : decode cX9_nickMany 22 = .ok (.goto (-18), 3) := by decide +kernel
theorem dX9_nickMany_25 : decode cX9_nickMany 25 = .ok (.iload_n 1, 1) := by decide +kernel
theorem dX9_nickMany_26 : decode cX9_nickMany 26 = .ok (.ireturn, 1) := by decide +kernel
theorem dX9_ofHouse_0 : decode cX9_ofHouse 0 = .ok (.iload_n 1, 1) := by decide +kernel
theorem dX9_ofHouse_1 : decode cX9_ofHouse 1 = .ok (.ifCond .ne 10, 3) := by decide +kernel
theorem dX9_ofHouse_4 : decode cX9_ofHouse 4 = .ok (.aload_n 0, 1) := by decide +kernel
theorem dX9_ofHouse_5 : decode cX9_ofHouse 5 = .ok (.invokevirtual 198, 3) := by decide +kernel
theorem dX9_ofHouse_8 : decode cX9_ofHouse 8 = .ok (.goto 31, 3) := by decide +kernel
theorem dX9_ofHouse_11 : decode cX9_ofHouse 11 = .ok (.iload_n 1, 1) := by decide +kernel
theorem dX9_ofHouse_12 : decode cX9_ofHouse 12 = .ok (.iconst 1, 1) := by decide +kernel
theorem dX9_ofHouse_13 : decode cX9_ofHouse 13 = .ok (.if_icmp .ne 10, 3) := by decide +kernel
theorem dX9_ofHouse_16 : decode cX9_ofHouse 16 = .ok (.aload_n 0, 1) := by decide +kernel
theorem dX9_ofHouse_17 : decode cX9_ofHouse 17 = .ok (.invokevirtual 201, 3) := by decide +kernel
theorem dX9_ofHouse_20 : decode cX9_ofHouse 20 = .ok (.goto 19, 3) := by decide +kernel
theorem dX9_ofHouse_23 : decode cX9_ofHouse 23 = .ok (.iload_n 1, 1) := by decide +kernel
theorem dX9_ofHouse_24 : decode cX9_ofHouse 24 = .ok (.iconst 2, 1) := by decide +kernel
theorem dX9_ofHouse_25 : decode cX9_ofHouse 25 = .ok (.if_icmp .ne 10, 3) := by decide +kernel
theorem dX9_ofHouse_28 : decode cX9_ofHouse 28 = .ok (.aload_n 0, 1) := by decide +kernel
theorem dX9_ofHouse_29 : decode cX9_ofHouse 29 = .ok (.invokevirtual 204, 3) := by decide +kernel
theorem dX9_ofHouse_32 : decode cX9_ofHouse 32 = .ok (.goto 7, 3) := by decide +kernel
theorem dX9_ofHouse_35 : decode cX9_ofHouse 35 = .ok (.aload_n 0, 1) := by decide +kernel
theorem dX9_ofHouse_36 : decode cX9_ofHouse 36 = .ok (.getfield 129, 3) := by decide +kernel
theorem dX9_ofHouse_39 : decode cX9_ofHouse 39 = .ok (.ireturn, 1) := by decide +kernel
theorem dX9_house_0 : decode cX9_house 0 = .ok (.iload_n 1, 1) := by decide +kernel
theorem dX9_house_1 : decode cX9_house 1 = .ok (.i2l, 1) := by decide +kernel
theorem dX9_house_2 : decode cX9_house 2 = .ok (.lconst 0, 1) := by decide +kernel
theorem dX9_house_3 : decode cX9_house 3 = .ok (.ldc2_w 207, 3) := by decide +kernel
theorem dX9_house_6 : decode cX9_house 6 = .ok (.invokestatic 76, 3) := by decide +kernel
theorem dX9_house_9 : decode cX9_house 9 = .ok (.ifCond .ne 6, 3) := by decide +kernel
theorem dX9_house_12 : decode cX9_house 12 = .ok (.bipush (-2), 2) := by decide +kernel
theorem dX9_house_14 : decode cX9_house 14 = .ok (.ireturn, 1) := by decide +kernel
theorem dX9_house_15 : decode cX9_house 15 = .ok (.aload_n 0, 1) := by decide +kernel
theorem dX9_house_16 : decode cX9_house 16 = .ok (.invokevirtual 192, 3) := by decide +kernel
theorem dX9_house_19 : decode cX9_house 19 = .ok (.istore_n 2, 1) := by decide +kernel
theorem dX9_house_20 : decode cX9_house 20 = .ok (.aload_n 0, 1) := by decide +kernel
theorem dX9_house_21 : decode cX9_house 21 = .ok (.iload_n 2, 1) := by decide +kernel
theorem dX9_house_22 : decode cX9_house 22 = .ok (.bipush (-6), 2) := by decide +kernel
theorem dX9_house_24 : decode cX9_house 24 = .ok (.if_icmp .eq 7, 3) := by decide +kernel
theorem dX9_house_27 : decode cX9_house 27 = .ok (.iload_n 2, 1) := by decide +kernel
theorem dX9_house_28 : decode cX9_house 28 = .ok (.goto 8, 3) := by decide +kernel
theorem dX9_house_31 : decode cX9_house 31 = .ok (.aload_n 0, 1) := by decide +kernel
theorem dX9_house_32 : decode cX9_house 32 = .ok (.iload_n 1, 1) := by decide +kernel
theorem dX9_house_33 : decode cX9_house 33 = .ok (.invokevirtual 209, 3) := by decide +kernel
theorem dX9_house_36 : decode cX9_house 36 = .ok (.invokevirtual 195, 3) := by decide +kernel
theorem dX9_house_39 : decode cX9_house 39 = .ok (.ireturn, 1) := by decide +kernel
theorem dX9_wrong_0 : decode cX9_wrong 0 = .ok (.iload_n 1, 1) := by decide +kernel
theorem dX9_wrong_1 : decode cX9_wrong 1 = .ok (.i2l, 1) := by decide +kernel
theorem dX9_wrong_2 : decode cX9_wrong 2 = .ok (.lconst 0, 1) := by decide +kernel
theorem dX9_wrong_3 : decode cX9_wrong 3 = .ok (.lconst 1, 1) := by decide +kernel
theorem dX9_wrong_4 : decode cX9_wrong 4 = .ok (.invokestatic 76, 3) := by decide +kernel
theorem dX9_wrong_7 : decode cX9_wrong 7 = .ok (.ifCond .ne 6, 3) := by decide +kernel
theorem dX9_wrong_10 : decode cX9_wrong 10 = .ok (.bipush (-2), 2) := by decide +kernel
theorem dX9_wrong_12 : decode cX9_wrong 12 = .ok (.ireturn, 1) := by decide +kernel
theorem dX9_wrong_13 : decode cX9_wrong 13 = .ok (.aload_n 0, 1) := by decide +kernel
theorem dX9_wrong_14 : decode cX9_wrong 14 = .ok (.aload_n 0, 1) := by decide +kernel
theorem dX9_wrong_15 : decode cX9_wrong 15 = .ok (.invokevirtual 192, 3) := by decide +kernel
theorem dX9_wrong_18 : decode cX9_wrong 18 = .ok (.invokevirtual 195, 3) := by decide +kernel
theorem dX9_wrong_21 : decode cX9_wrong 21 = .ok (.istore_n 2, 1) := by decide +kernel
theorem dX9_wrong_22 : decode cX9_wrong 22 = .ok (.iload_n 2, 1) := by decide +kernel
theorem dX9_wrong_23 : decode cX9_wrong 23 = .ok (.bipush (-6), 2) := by decide +kernel
theorem dX9_wrong_25 : decode cX9_wrong 25 = .ok (.if_icmp .eq 7, 3) := by decide +kernel
theorem dX9_wrong_28 : decode cX9_wrong 28 = .ok (.iload_n 2, 1) := by decide +kernel
theorem dX9_wrong_29 : decode cX9_wrong 29 = .ok (.goto 18, 3) := by decide +kernel
theorem dX9_wrong_32 : decode cX9_wrong 32 = .ok (.iload_n 1, 1) := by decide +kernel
theorem dX9_wrong_33 : decode cX9_wrong 33 = .ok (.ifCond .ne 10, 3) := by decide +kernel
theorem dX9_wrong_36 : decode cX9_wrong 36 = .ok (.aload_n 0, 1) := by decide +kernel
theorem dX9_wrong_37 : decode cX9_wrong 37 = .ok (.getfield 161, 3) := by decide +kernel
theorem dX9_wrong_40 : decode cX9_wrong 40 = .ok (.goto 7, 3) := by decide +kernel
theorem dX9_wrong_43 : decode cX9_wrong 43 = .ok (.aload_n 0, 1) := by decide +kernel
theorem dX9_wrong_44 : decode cX9_wrong 44 = .ok (.getfield 164, 3) := by decide +kernel
theorem dX9_wrong_47 : decode cX9_wrong 47 = .ok (.ireturn, 1) := by decide +kernel
theorem dX9_done_0 : decode cX9_done 0 = .ok (.aload_n 0, 1) := by decide +kernel
theorem dX9_done_1 : decode cX9_done 1 = .ok (.invokevirtual 192, 3) := by decide +kernel
theorem dX9_done_4 : decode cX9_done 4 = .ok (.istore_n 1, 1) := by decide +kernel
theorem dX9_done_5 : decode cX9_done 5 = .ok (.iload_n 1, 1) := by decide +kernel
theorem dX9_done_6 : decode cX9_done 6 = .ok (.bipush (-6), 2) := by decide +kernel
theorem dX9_done_8 : decode cX9_done 8 = .ok (.if_icmp .eq 9, 3) := by decide +kernel
theorem dX9_done_11 : decode cX9_done 11 = .ok (.aload_n 0, 1) := by decide +kernel
theorem dX9_done_12 : decode cX9_done 12 = .ok (.iload_n 1, 1) := by decide +kernel
theorem dX9_done_13 : decode cX9_done 13 = .ok (.invokevirtual 195, 3) := by decide +kernel
theorem dX9_done_16 : decode cX9_done 16 = .ok (.ireturn, 1) := by decide +kernel
theorem dX9_done_17 : decode cX9_done 17 = .ok (.aload_n 0, 1) := by decide +kernel
theorem dX9_done_18 : decode cX9_done 18 = .ok (.iconst 0, 1) := by decide +kernel
theorem dX9_done_19 : decode cX9_done 19 = .ok (.putfield 97, 3) := by decide +kernel
theorem dX9_done_22 : decode cX9_done 22 = .ok (.aload_n 0, 1) := by decide +kernel
theorem dX9_done_23 : decode cX9_done 23 = .ok (.getfield 101, 3) := by decide +kernel
theorem dX9_done_26 : decode cX9_done 26 = .ok (.ireturn, 1) := by decide +kernel
theorem dX9_isRow_0 : decode cX9_isRow 0 = .ok (.iload_n 0, 1) := by decide +kernel
theorem dX9_isRow_1 : decode cX9_isRow 1 = .ok (.istore_n 2, 1) := by decide +kernel
theorem dX9_isRow_2 : decode cX9_isRow 2 = .ok (.iload_n 0, 1) := by decide +kernel
theorem dX9_isRow_3 : decode cX9_isRow 3 = .ok (.ifCond .le 7, 3) := by decide +kernel
theorem dX9_isRow_6 : decode cX9_isRow 6 = .ok (.iconst 1, 1) := by decide +kernel
theorem dX9_isRow_7 : decode cX9_isRow 7 = .ok (.goto 4, 3) := by decide +kernel
theorem dX9_isRow_10 : decode cX9_isRow 10 = .ok (.iconst 0, 1) := by decide +kernel
theorem dX9_isRow_11 : decode cX9_isRow 11 = .ok (.istore_n 3, 1) := by decide +kernel
theorem dX9_isRow_12 : decode cX9_isRow 12 = .ok (.iconst 0, 1) := by decide +kernel
theorem dX9_isRow_13 : decode cX9_isRow 13 = .ok (.istore 4, 2) := by decide +kernel
theorem dX9_isRow_15 : decode cX9_isRow 15 = .ok (.iload 4, 2) := by decide +kernel
theorem dX9_isRow_17 : decode cX9_isRow 17 = .ok (.iload_n 1, 1) := by decide +kernel
theorem dX9_isRow_18 : decode cX9_isRow 18 = .ok (.if_icmp .ge 31, 3) := by decide +kernel
theorem dX9_isRow_21 : decode cX9_isRow 21 = .ok (.iload_n 3, 1) := by decide +kernel
theorem dX9_isRow_22 : decode cX9_isRow 22 = .ok (.ifCond .eq 14, 3) := by decide +kernel
theorem dX9_isRow_25 : decode cX9_isRow 25 = .ok (.iload_n 2, 1) := by decide +kernel
theorem dX9_isRow_26 : decode cX9_isRow 26 = .ok (.bipush 10, 2) := by decide +kernel
theorem dX9_isRow_28 : decode cX9_isRow 28 = .ok (.irem, 1) := by decide +kernel
theorem dX9_isRow_29 : decode cX9_isRow 29 = .ok (.ifCond .le 7, 3) := by decide +kernel
theorem dX9_isRow_32 : decode cX9_isRow 32 = .ok (.iconst 1, 1) := by decide +kernel
theorem dX9_isRow_33 : decode cX9_isRow 33 = .ok (.goto 4, 3) := by decide +kernel
theorem dX9_isRow_36 : decode cX9_isRow 36 = .ok (.iconst 0, 1) := by decide +kernel
theorem dX9_isRow_37 : decode cX9_isRow 37 = .ok (.istore_n 3, 1) := by decide +kernel
theorem dX9_isRow_38 : decode cX9_isRow 38 = .ok (.iload_n 2, 1) := by decide +kernel
theorem dX9_isRow_39 : decode cX9_isRow 39 = .ok (.bipush 10, 2) := by decide +kernel
theorem dX9_isRow_41 : decode cX9_isRow 41 = .ok (.idiv, 1) := by decide +kernel
theorem dX9_isRow_42 : decode cX9_isRow 42 = .ok (.istore_n 2, 1) := by decide +kernel
theorem dX9_isRow_43 : decode cX9_isRow 43 = .ok (.iinc 4 1, 3) := by decide +kernel
theorem dX9_isRow_46 : decode cX9_isRow 46 = .ok (.goto (-31), 3) := by decide +kernel
theorem dX9_isRow_49 : decode cX9_isRow 49 = .ok (.iload_n 3, 1) := by decide +kernel
theorem dX9_isRow_50 : decode cX9_isRow 50 = .ok (.ifCond .eq 11, 3) := by decide +kernel
theorem dX9_isRow_53 : decode cX9_isRow 53 = .ok (.iload_n 2, 1) := by decide +kernel
theorem dX9_isRow_54 : decode cX9_isRow 54 = .ok (.ifCond .ne 7, 3) := by decide +kernel
theorem dX9_isRow_57 : decode cX9_isRow 57 = .ok (.iconst 1, 1) := by decide +kernel
theorem dX9_isRow_58 : decode cX9_isRow 58 = .ok (.goto 4, 3) := by decide +kernel
theorem dX9_isRow_61 : decode cX9_isRow 61 = .ok (.iconst 0, 1) := by decide +kernel
theorem dX9_isRow_62 : decode cX9_isRow 62 = .ok (.ireturn, 1) := by decide +kernel
theorem dX9_readBoth_0 : decode cX9_readBoth 0 = .ok (.iload_n 3, 1) := by decide +kernel
theorem dX9_readBoth_1 : decode cX9_readBoth 1 = .ok (.i2l, 1) := by decide +kernel
theorem dX9_readBoth_2 : decode cX9_readBoth 2 = .ok (.lconst 1, 1) := by decide +kernel
theorem dX9_readBoth_3 : decode cX9_readBoth 3 = .ok (.ldc2_w 88, 3) := by decide +kernel
theorem dX9_readBoth_6 : decode cX9_readBoth 6 = .ok (.invokestatic 76, 3) := by decide +kernel
theorem dX9_readBoth_9 : decode cX9_readBoth 9 = .ok (.ifCond .eq 19, 3) := by decide +kernel
theorem dX9_readBoth_12 : decode cX9_readBoth 12 = .ok (.iload_n 1, 1) := by decide +kernel
theorem dX9_readBoth_13 : decode cX9_readBoth 13 = .ok (.iload_n 3, 1) := by decide +kernel
theorem dX9_readBoth_14 : decode cX9_readBoth 14 = .ok (.invokestatic 212, 3) := by decide +kernel
theorem dX9_readBoth_17 : decode cX9_readBoth 17 = .ok (.ifCond .eq 11, 3) := by decide +kernel
theorem dX9_readBoth_20 : decode cX9_readBoth 20 = .ok (.iload_n 2, 1) := by decide +kernel
theorem dX9_readBoth_21 : decode cX9_readBoth 21 = .ok (.iload_n 3, 1) := by decide +kernel
theorem dX9_readBoth_22 : decode cX9_readBoth 22 = .ok (.invokestatic 212, 3) := by decide +kernel
theorem dX9_readBoth_25 : decode cX9_readBoth 25 = .ok (.ifCond .ne 5, 3) := by decide +kernel
theorem dX9_readBoth_28 : decode cX9_readBoth 28 = .ok (.iconst 0, 1) := by decide +kernel
theorem dX9_readBoth_29 : decode cX9_readBoth 29 = .ok (.ireturn, 1) := by decide +kernel
theorem dX9_readBoth_30 : decode cX9_readBoth 30 = .ok (.iload_n 1, 1) := by decide +kernel
theorem dX9_readBoth_31 : decode cX9_readBoth 31 = .ok (.istore 4, 2) := by decide +kernel
theorem dX9_readBoth_33 : decode cX9_readBoth 33 = .ok (.iload_n 2, 1) := by decide +kernel
theorem dX9_readBoth_34 : decode cX9_readBoth 34 = .ok (.istore 5, 2) := by decide +kernel
theorem dX9_readBoth_36 : decode cX9_readBoth 36 = .ok (.iload_n 3, 1) := by decide +kernel
theorem dX9_readBoth_37 : decode cX9_readBoth 37 = .ok (.iconst 1, 1) := by decide +kernel
theorem dX9_readBoth_38 : decode cX9_readBoth 38 = .ok (.isub, 1) := by decide +kernel
theorem dX9_readBoth_39 : decode cX9_readBoth 39 = .ok (.istore 6, 2) := by decide +kernel
theorem dX9_readBoth_41 : decode cX9_readBoth 41 = .ok (.iload 6, 2) := by decide +kernel
theorem dX9_readBoth_43 : decode cX9_readBoth 43 = .ok (.ifCond .lt 47, 3) := by decide +kernel
theorem dX9_readBoth_46 : decode cX9_readBoth 46 = .ok (.aload_n 0, 1) := by decide +kernel
theorem dX9_readBoth_47 : decode cX9_readBoth 47 = .ok (.getfield 55, 3) := by decide +kernel
theorem dX9_readBoth_50 : decode cX9_readBoth 50 = .ok (.iload 6, 2) := by decide +kernel
theorem dX9_readBoth_52 : decode cX9_readBoth 52 = .ok (.iload 4, 2) := by decide +kernel
theorem dX9_readBoth_54 : decode cX9_readBoth 54 = .ok (.bipush 10, 2) := by decide +kernel
theorem dX9_readBoth_56 : decode cX9_readBoth 56 = .ok (.irem, 1) := by decide +kernel
theorem dX9_readBoth_57 : decode cX9_readBoth 57 = .ok (.iastore, 1) := by decide +kernel
theorem dX9_readBoth_58 : decode cX9_readBoth 58 = .ok (.aload_n 0, 1) := by decide +kernel
theorem dX9_readBoth_59 : decode cX9_readBoth 59 = .ok (.getfield 58, 3) := by decide +kernel
theorem dX9_readBoth_62 : decode cX9_readBoth 62 = .ok (.iload 6, 2) := by decide +kernel
theorem dX9_readBoth_64 : decode cX9_readBoth 64 = .ok (.iload 5, 2) := by decide +kernel
theorem dX9_readBoth_66 : decode cX9_readBoth 66 = .ok (.bipush 10, 2) := by decide +kernel
theorem dX9_readBoth_68 : decode cX9_readBoth 68 = .ok (.irem, 1) := by decide +kernel
theorem dX9_readBoth_69 : decode cX9_readBoth 69 = .ok (.iastore, 1) := by decide +kernel
theorem dX9_readBoth_70 : decode cX9_readBoth 70 = .ok (.iload 4, 2) := by decide +kernel
theorem dX9_readBoth_72 : decode cX9_readBoth 72 = .ok (.bipush 10, 2) := by decide +kernel
theorem dX9_readBoth_74 : decode cX9_readBoth 74 = .ok (.idiv, 1) := by decide +kernel
theorem dX9_readBoth_75 : decode cX9_readBoth 75 = .ok (.istore 4, 2) := by decide +kernel
theorem dX9_readBoth_77 : decode cX9_readBoth 77 = .ok (.iload 5, 2) := by decide +kernel
theorem dX9_readBoth_79 : decode cX9_readBoth 79 = .ok (.bipush 10, 2) := by decide +kernel
theorem dX9_readBoth_81 : decode cX9_readBoth 81 = .ok (.idiv, 1) := by decide +kernel
theorem dX9_readBoth_82 : decode cX9_readBoth 82 = .ok (.istore 5, 2) := by decide +kernel
theorem dX9_readBoth_84 : decode cX9_readBoth 84 = .ok (.iinc 6 (-1), 3) := by decide +kernel
theorem dX9_readBoth_87 : decode cX9_readBoth 87 = .ok (.goto (-46), 3) := by decide +kernel
theorem dX9_readBoth_90 : decode cX9_readBoth 90 = .ok (.iconst 1, 1) := by decide +kernel
theorem dX9_readBoth_91 : decode cX9_readBoth 91 = .ok (.ireturn, 1) := by decide +kernel
theorem dX9_sumOf_0 : decode cX9_sumOf 0 = .ok (.iconst 0, 1) := by decide +kernel
theorem dX9_sumOf_1 : decode cX9_sumOf 1 = .ok (.istore_n 2, 1) := by decide +kernel
theorem dX9_sumOf_2 : decode cX9_sumOf 2 = .ok (.iconst 0, 1) := by decide +kernel
theorem dX9_sumOf_3 : decode cX9_sumOf 3 = .ok (.istore_n 3, 1) := by decide +kernel
theorem dX9_sumOf_4 : decode cX9_sumOf 4 = .ok (.iload_n 3, 1) := by decide +kernel
theorem dX9_sumOf_5 : decode cX9_sumOf 5 = .ok (.iload_n 1, 1) := by decide +kernel
theorem dX9_sumOf_6 : decode cX9_sumOf 6 = .ok (.if_icmp .ge 18, 3) := by decide +kernel
theorem dX9_sumOf_9 : decode cX9_sumOf 9 = .ok (.iload_n 2, 1) := by decide +kernel
theorem dX9_sumOf_10 : decode cX9_sumOf 10 = .ok (.aload_n 0, 1) := by decide +kernel
theorem dX9_sumOf_11 : decode cX9_sumOf 11 = .ok (.getfield 55, 3) := by decide +kernel
theorem dX9_sumOf_14 : decode cX9_sumOf 14 = .ok (.iload_n 3, 1) := by decide +kernel
theorem dX9_sumOf_15 : decode cX9_sumOf 15 = .ok (.iaload, 1) := by decide +kernel
theorem dX9_sumOf_16 : decode cX9_sumOf 16 = .ok (.iadd, 1) := by decide +kernel
theorem dX9_sumOf_17 : decode cX9_sumOf 17 = .ok (.istore_n 2, 1) := by decide +kernel
theorem dX9_sumOf_18 : decode cX9_sumOf 18 = .ok (.iinc 3 1, 3) := by decide +kernel
theorem dX9_sumOf_21 : decode cX9_sumOf 21 = .ok (.goto (-17), 3) := by decide +kernel
theorem dX9_sumOf_24 : decode cX9_sumOf 24 = .ok (.iload_n 2, 1) := by decide +kernel
theorem dX9_sumOf_25 : decode cX9_sumOf 25 = .ok (.ireturn, 1) := by decide +kernel
theorem dX9_nextOf_0 : decode cX9_nextOf 0 = .ok (.bipush (-6), 2) := by decide +kernel
theorem dX9_nextOf_2 : decode cX9_nextOf 2 = .ok (.istore_n 3, 1) := by decide +kernel
theorem dX9_nextOf_3 : decode cX9_nextOf 3 = .ok (.iconst 0, 1) := by decide +kernel
theorem dX9_nextOf_4 : decode cX9_nextOf 4 = .ok (.istore 4, 2) := by decide +kernel
theorem dX9_nextOf_6 : decode cX9_nextOf 6 = .ok (.iload 4, 2) := by decide +kernel
theorem dX9_nextOf_8 : decode cX9_nextOf 8 = .ok (.iload_n 2, 1) := by decide +kernel
theorem dX9_nextOf_9 : decode cX9_nextOf 9 = .ok (.if_icmp .ge 85, 3) := by decide +kernel
theorem dX9_nextOf_12 : decode cX9_nextOf 12 = .ok (.iload_n 1, 1) := by decide +kernel
theorem dX9_nextOf_13 : decode cX9_nextOf 13 = .ok (.iload 4, 2) := by decide +kernel
theorem dX9_nextOf_15 : decode cX9_nextOf 15 = .ok (.ishr, 1) := by decide +kernel
theorem dX9_nextOf_16 : decode cX9_nextOf 16 = .ok (.iconst 1, 1) := by decide +kernel
theorem dX9_nextOf_17 : decode cX9_nextOf 17 = .ok (.iand, 1) := by decide +kernel
theorem dX9_nextOf_18 : decode cX9_nextOf 18 = .ok (.iconst 1, 1) := by decide +kernel
theorem dX9_nextOf_19 : decode cX9_nextOf 19 = .ok (.if_icmp .ne 7, 3) := by decide +kernel
theorem dX9_nextOf_22 : decode cX9_nextOf 22 = .ok (.iconst 1, 1) := by decide +kernel
theorem dX9_nextOf_23 : decode cX9_nextOf 23 = .ok (.goto 4, 3) := by decide +kernel
theorem dX9_nextOf_26 : decode cX9_nextOf 26 = .ok (.iconst 0, 1) := by decide +kernel
theorem dX9_nextOf_27 : decode cX9_nextOf 27 = .ok (.istore 5, 2) := by decide +kernel
theorem dX9_nextOf_29 : decode cX9_nextOf 29 = .ok (.iload 5, 2) := by decide +kernel
theorem dX9_nextOf_31 : decode cX9_nextOf 31 = .ok (.ifCond .eq 42, 3) := by decide +kernel
theorem dX9_nextOf_34 : decode cX9_nextOf 34 = .ok (.iload_n 3, 1) := by decide +kernel
theorem dX9_nextOf_35 : decode cX9_nextOf 35 = .ok (.ifCond .lt 34, 3) := by decide +kernel
theorem dX9_nextOf_38 : decode cX9_nextOf 38 = .ok (.aload_n 0, 1) := by decide +kernel
theorem dX9_nextOf_39 : decode cX9_nextOf 39 = .ok (.getfield 55, 3) := by decide +kernel
theorem dX9_nextOf_42 : decode cX9_nextOf 42 = .ok (.iload 4, 2) := by decide +kernel
theorem dX9_nextOf_44 : decode cX9_nextOf 44 = .ok (.iaload, 1) := by decide +kernel
theorem dX9_nextOf_45 : decode cX9_nextOf 45 = .ok (.aload_n 0, 1) := by decide +kernel
theorem dX9_nextOf_46 : decode cX9_nextOf 46 = .ok (.getfield 58, 3) := by decide +kernel
theorem dX9_nextOf_49 : decode cX9_nextOf 49 = .ok (.iload_n 3, 1) := by decide +kernel
theorem dX9_nextOf_50 : decode cX9_nextOf 50 = .ok (.iaload, 1) := by decide +kernel
theorem dX9_nextOf_51 : decode cX9_nextOf 51 = .ok (.imul, 1) := by decide +kernel
theorem dX9_nextOf_52 : decode cX9_nextOf 52 = .ok (.aload_n 0, 1) := by decide +kernel
theorem dX9_nextOf_53 : decode cX9_nextOf 53 = .ok (.getfield 55, 3) := by decide +kernel
theorem dX9_nextOf_56 : decode cX9_nextOf 56 = .ok (.iload_n 3, 1) := by decide +kernel
theorem dX9_nextOf_57 : decode cX9_nextOf 57 = .ok (.iaload, 1) := by decide +kernel
theorem dX9_nextOf_58 : decode cX9_nextOf 58 = .ok (.aload_n 0, 1) := by decide +kernel
theorem dX9_nextOf_59 : decode cX9_nextOf 59 = .ok (.getfield 58, 3) := by decide +kernel
theorem dX9_nextOf_62 : decode cX9_nextOf 62 = .ok (.iload 4, 2) := by decide +kernel
theorem dX9_nextOf_64 : decode cX9_nextOf 64 = .ok (.iaload, 1) := by decide +kernel
theorem dX9_nextOf_65 : decode cX9_nextOf 65 = .ok (.imul, 1) := by decide +kernel
theorem dX9_nextOf_66 : decode cX9_nextOf 66 = .ok (.if_icmp .le 7, 3) := by decide +kernel
theorem dX9_nextOf_69 : decode cX9_nextOf 69 = .ok (.iconst 1, 1) := by decide +kernel
theorem dX9_nextOf_70 : decode cX9_nextOf 70 = .ok (.goto 4, 3) := by decide +kernel
theorem dX9_nextOf_73 : decode cX9_nextOf 73 = .ok (.iconst 0, 1) := by decide +kernel
theorem dX9_nextOf_74 : decode cX9_nextOf 74 = .ok (.istore 6, 2) := by decide +kernel
theorem dX9_nextOf_76 : decode cX9_nextOf 76 = .ok (.iload 6, 2) := by decide +kernel
theorem dX9_nextOf_78 : decode cX9_nextOf 78 = .ok (.ifCond .eq 8, 3) := by decide +kernel
theorem dX9_nextOf_81 : decode cX9_nextOf 81 = .ok (.iload 4, 2) := by decide +kernel
theorem dX9_nextOf_83 : decode cX9_nextOf 83 = .ok (.goto 4, 3) := by decide +kernel
theorem dX9_nextOf_86 : decode cX9_nextOf 86 = .ok (.iload_n 3, 1) := by decide +kernel
theorem dX9_nextOf_87 : decode cX9_nextOf 87 = .ok (.istore_n 3, 1) := by decide +kernel
theorem dX9_nextOf_88 : decode cX9_nextOf 88 = .ok (.iinc 4 1, 3) := by decide +kernel
theorem dX9_nextOf_91 : decode cX9_nextOf 91 = .ok (.goto (-85), 3) := by decide +kernel
theorem dX9_nextOf_94 : decode cX9_nextOf 94 = .ok (.iload_n 3, 1) := by decide +kernel
theorem dX9_nextOf_95 : decode cX9_nextOf 95 = .ok (.ireturn, 1) := by decide +kernel
theorem dX9_timeOf_0 : decode cX9_timeOf 0 = .ok (.iconst 0, 1) := by decide +kernel
theorem dX9_timeOf_1 : decode cX9_timeOf 1 = .ok (.istore_n 2, 1) := by decide +kernel
theorem dX9_timeOf_2 : decode cX9_timeOf 2 = .ok (.iconst 0, 1) := by decide +kernel
theorem dX9_timeOf_3 : decode cX9_timeOf 3 = .ok (.istore_n 3, 1) := by decide +kernel
theorem dX9_timeOf_4 : decode cX9_timeOf 4 = .ok (.iconst 1, 1) := by decide +kernel
theorem dX9_timeOf_5 : decode cX9_timeOf 5 = .ok (.iload_n 1, 1) := by decide +kernel
theorem dX9_timeOf_6 : decode cX9_timeOf 6 = .ok (.ishl, 1) := by decide +kernel
theorem dX9_timeOf_7 : decode cX9_timeOf 7 = .ok (.iconst 1, 1) := by decide +kernel
theorem dX9_timeOf_8 : decode cX9_timeOf 8 = .ok (.isub, 1) := by decide +kernel
theorem dX9_timeOf_9 : decode cX9_timeOf 9 = .ok (.istore 4, 2) := by decide +kernel
theorem dX9_timeOf_11 : decode cX9_timeOf 11 = .ok (.iload 4, 2) := by decide +kernel
theorem dX9_timeOf_13 : decode cX9_timeOf 13 = .ok (.ifCond .eq 48, 3) := by decide +kernel
theorem dX9_timeOf_16 : decode cX9_timeOf 16 = .ok (.aload_n 0, 1) := by decide +kernel
theorem dX9_timeOf_17 : decode cX9_timeOf 17 = .ok (.iload 4, 2) := by decide +kernel
theorem dX9_timeOf_19 : decode cX9_timeOf 19 = .ok (.iload_n 1, 1) := by decide +kernel
theorem dX9_timeOf_20 : decode cX9_timeOf 20 = .ok (.invokevirtual 216, 3) := by decide +kernel
theorem dX9_timeOf_23 : decode cX9_timeOf 23 = .ok (.istore 5, 2) := by decide +kernel
theorem dX9_timeOf_25 : decode cX9_timeOf 25 = .ok (.iload_n 2, 1) := by decide +kernel
theorem dX9_timeOf_26 : decode cX9_timeOf 26 = .ok (.aload_n 0, 1) := by decide +kernel
theorem dX9_timeOf_27 : decode cX9_timeOf 27 = .ok (.getfield 58, 3) := by decide +kernel
theorem dX9_timeOf_30 : decode cX9_timeOf 30 = .ok (.iload 5, 2) := by decide +kernel
theorem dX9_timeOf_32 : decode cX9_timeOf 32 = .ok (.iaload, 1) := by decide +kernel
theorem dX9_timeOf_33 : decode cX9_timeOf 33 = .ok (.iadd, 1) := by decide +kernel
theorem dX9_timeOf_34 : decode cX9_timeOf 34 = .ok (.istore_n 2, 1) := by decide +kernel
theorem dX9_timeOf_35 : decode cX9_timeOf 35 = .ok (.iload_n 3, 1) := by decide +kernel
theorem dX9_timeOf_36 : decode cX9_timeOf 36 = .ok (.iload_n 2, 1) := by decide +kernel
theorem dX9_timeOf_37 : decode cX9_timeOf 37 = .ok (.aload_n 0, 1) := by decide +kernel
theorem dX9_timeOf_38 : decode cX9_timeOf 38 = .ok (.getfield 55, 3) := by decide +kernel
theorem dX9_timeOf_41 : decode cX9_timeOf 41 = .ok (.iload 5, 2) := by decide +kernel
theorem dX9_timeOf_43 : decode cX9_timeOf 43 = .ok (.iaload, 1) := by decide +kernel
theorem dX9_timeOf_44 : decode cX9_timeOf 44 = .ok (.imul, 1) := by decide +kernel
theorem dX9_timeOf_45 : decode cX9_timeOf 45 = .ok (.iadd, 1) := by decide +kernel
theorem dX9_timeOf_46 : decode cX9_timeOf 46 = .ok (.istore_n 3, 1) := by decide +kernel
theorem dX9_timeOf_47 : decode cX9_timeOf 47 = .ok (.iload 4, 2) := by decide +kernel
theorem dX9_timeOf_49 : decode cX9_timeOf 49 = .ok (.iconst 1, 1) := by decide +kernel
theorem dX9_timeOf_50 : decode cX9_timeOf 50 = .ok (.iload 5, 2) := by decide +kernel
theorem dX9_timeOf_52 : decode cX9_timeOf 52 = .ok (.ishl, 1) := by decide +kernel
theorem dX9_timeOf_53 : decode cX9_timeOf 53 = .ok (.iconst (-1), 1) := by decide +kernel
theorem dX9_timeOf_54 : decode cX9_timeOf 54 = .ok (.ixor, 1) := by decide +kernel
theorem dX9_timeOf_55 : decode cX9_timeOf 55 = .ok (.iand, 1) := by decide +kernel
theorem dX9_timeOf_56 : decode cX9_timeOf 56 = .ok (.istore 4, 2) := by decide +kernel
theorem dX9_timeOf_58 : decode cX9_timeOf 58 = .ok (.goto (-47), 3) := by decide +kernel
theorem dX9_timeOf_61 : decode cX9_timeOf 61 = .ok (.iload_n 3, 1) := by decide +kernel
theorem dX9_timeOf_62 : decode cX9_timeOf 62 = .ok (.ireturn, 1) := by decide +kernel
theorem dX9_lowest_0 : decode cX9_lowest 0 = .ok (.lload_n 2, 1) := by decide +kernel
theorem dX9_lowest_1 : decode cX9_lowest 1 = .ok (.lstore 5, 2) := by decide +kernel
theorem dX9_lowest_3 : decode cX9_lowest 3 = .ok (.lload_n 0, 1) := by decide +kernel
theorem dX9_lowest_4 : decode cX9_lowest 4 = .ok (.lstore 7, 2) := by decide +kernel
theorem dX9_lowest_6 : decode cX9_lowest 6 = .ok (.lload 7, 2) := by decide +kernel
theorem dX9_lowest_8 : decode cX9_lowest 8 = .ok (.lconst 0, 1) := by decide +kernel
theorem dX9_lowest_9 : decode cX9_lowest 9 = .ok (.lcmp, 1) := by decide +kernel
theorem dX9_lowest_10 : decode cX9_lowest 10 = .ok (.ifCond .eq 21, 3) := by decide +kernel
theorem dX9_lowest_13 : decode cX9_lowest 13 = .ok (.lload 5, 2) := by decide +kernel
theorem dX9_lowest_15 : decode cX9_lowest 15 = .ok (.lload 7, 2) := by decide +kernel
theorem dX9_lowest_17 : decode cX9_lowest 17 = .ok (.lrem, 1) := by decide +kernel
theorem dX9_lowest_18 : decode cX9_lowest 18 = .ok (.lstore 9, 2) := by decide +kernel
theorem dX9_lowest_20 : decode cX9_lowest 20 = .ok (.lload 7, 2) := by decide +kernel
theorem dX9_lowest_22 : decode cX9_lowest 22 = .ok (.lstore 5, 2) := by decide +kernel
theorem dX9_lowest_24 : decode cX9_lowest 24 = .ok (.lload 9, 2) := by decide +kernel
theorem dX9_lowest_26 : decode cX9_lowest 26 = .ok (.lstore 7, 2) := by decide +kernel
theorem dX9_lowest_28 : decode cX9_lowest 28 = .ok (.goto (-22), 3) := by decide +kernel
theorem dX9_lowest_31 : decode cX9_lowest 31 = .ok (.iload 4, 2) := by decide +kernel
theorem dX9_lowest_33 : decode cX9_lowest 33 = .ok (.ifCond .ne 10, 3) := by decide +kernel
theorem dX9_lowest_36 : decode cX9_lowest 36 = .ok (.lload_n 0, 1) := by decide +kernel
theorem dX9_lowest_37 : decode cX9_lowest 37 = .ok (.lload 5, 2) := by decide +kernel
theorem dX9_lowest_39 : decode cX9_lowest 39 = .ok (.ldiv, 1) := by decide +kernel
theorem dX9_lowest_40 : decode cX9_lowest 40 = .ok (.goto 7, 3) := by decide +kernel
theorem dX9_lowest_43 : decode cX9_lowest 43 = .ok (.lload_n 2, 1) := by decide +kernel
theorem dX9_lowest_44 : decode cX9_lowest 44 = .ok (.lload 5, 2) := by decide +kernel
theorem dX9_lowest_46 : decode cX9_lowest 46 = .ok (.ldiv, 1) := by decide +kernel
theorem dX9_lowest_47 : decode cX9_lowest 47 = .ok (.lreturn, 1) := by decide +kernel
theorem dX9_seek_0 : decode cX9_seek 0 = .ok (.aload_n 0, 1) := by decide +kernel
theorem dX9_seek_1 : decode cX9_seek 1 = .ok (.iload_n 1, 1) := by decide +kernel
theorem dX9_seek_2 : decode cX9_seek 2 = .ok (.iload_n 2, 1) := by decide +kernel
theorem dX9_seek_3 : decode cX9_seek 3 = .ok (.iload_n 3, 1) := by decide +kernel
theorem dX9_seek_4 : decode cX9_seek 4 = .ok (.invokevirtual 219, 3) := by decide +kernel
theorem dX9_seek_7 : decode cX9_seek 7 = .ok (.ifCond .eq 14, 3) := by decide +kernel
theorem dX9_seek_10 : decode cX9_seek 10 = .ok (.iload 4, 2) := by decide +kernel
theorem dX9_seek_12 : decode cX9_seek 12 = .ok (.i2l, 1) := by decide +kernel
theorem dX9_seek_13 : decode cX9_seek 13 = .ok (.lconst 0, 1) := by decide +kernel
theorem dX9_seek_14 : decode cX9_seek 14 = .ok (.lconst 1, 1) := by decide +kernel
theorem dX9_seek_15 : decode cX9_seek 15 = .ok (.invokestatic 76, 3) := by decide +kernel
theorem dX9_seek_18 : decode cX9_seek 18 = .ok (.ifCond .ne 7, 3) := by decide +kernel
theorem dX9_seek_21 : decode cX9_seek 21 = .ok (.ldc2_w 223, 3) := by decide +kernel
theorem dX9_seek_24 : decode cX9_seek 24 = .ok (.lreturn, 1) := by decide +kernel
theorem dX9_seek_25 : decode cX9_seek 25 = .ok (.aload_n 0, 1) := by decide +kernel
theorem dX9_seek_26 : decode cX9_seek 26 = .ok (.iload_n 3, 1) := by decide +kernel
theorem dX9_seek_27 : decode cX9_seek 27 = .ok (.invokevirtual 225, 3) := by decide +kernel
theorem dX9_seek_30 : decode cX9_seek 30 = .ok (.i2l, 1) := by decide +kernel
theorem dX9_seek_31 : decode cX9_seek 31 = .ok (.aload_n 0, 1) := by decide +kernel
theorem dX9_seek_32 : decode cX9_seek 32 = .ok (.iload_n 3, 1) := by decide +kernel
theorem dX9_seek_33 : decode cX9_seek 33 = .ok (.invokevirtual 228, 3) := by decide +kernel
theorem dX9_seek_36 : decode cX9_seek 36 = .ok (.i2l, 1) := by decide +kernel
theorem dX9_seek_37 : decode cX9_seek 37 = .ok (.iload 4, 2) := by decide +kernel
theorem dX9_seek_39 : decode cX9_seek 39 = .ok (.invokestatic 231, 3) := by decide +kernel
theorem dX9_seek_42 : decode cX9_seek 42 = .ok (.lreturn, 1) := by decide +kernel
theorem dX9_looks_0 : decode cX9_looks 0 = .ok (.aload_n 0, 1) := by decide +kernel
theorem dX9_looks_1 : decode cX9_looks 1 = .ok (.iload_n 1, 1) := by decide +kernel
theorem dX9_looks_2 : decode cX9_looks 2 = .ok (.iload_n 2, 1) := by decide +kernel
theorem dX9_looks_3 : decode cX9_looks 3 = .ok (.iload_n 3, 1) := by decide +kernel
theorem dX9_looks_4 : decode cX9_looks 4 = .ok (.invokevirtual 219, 3) := by decide +kernel
theorem dX9_looks_7 : decode cX9_looks 7 = .ok (.ifCond .eq 16, 3) := by decide +kernel
theorem dX9_looks_10 : decode cX9_looks 10 = .ok (.aload_n 0, 1) := by decide +kernel
theorem dX9_looks_11 : decode cX9_looks 11 = .ok (.iconst 1, 1) := by decide +kernel
theorem dX9_looks_12 : decode cX9_looks 12 = .ok (.iload_n 3, 1) := by decide +kernel
theorem dX9_looks_13 : decode cX9_looks 13 = .ok (.ishl, 1) := by decide +kernel
theorem dX9_looks_14 : decode cX9_looks 14 = .ok (.iconst 1, 1) := by decide +kernel
theorem dX9_looks_15 : decode cX9_looks 15 = .ok (.isub, 1) := by decide +kernel
theorem dX9_looks_16 : decode cX9_looks 16 = .ok (.iload_n 3, 1) := by decide +kernel
theorem dX9_looks_17 : decode cX9_looks 17 = .ok (.invokevirtual 216, 3) := by decide +kernel
theorem dX9_looks_20 : decode cX9_looks 20 = .ok (.goto 5, 3) := by decide +kernel
theorem dX9_looks_23 : decode cX9_looks 23 = .ok (.bipush (-2), 2) := by decide +kernel
theorem dX9_looks_25 : decode cX9_looks 25 = .ok (.ireturn, 1) := by decide +kernel
theorem dX9_mixedOnce_0 : decode cX9_mixedOnce 0 = .ok (.iload_n 1, 1) := by decide +kernel
theorem dX9_mixedOnce_1 : decode cX9_mixedOnce 1 = .ok (.iload_n 0, 1) := by decide +kernel
theorem dX9_mixedOnce_2 : decode cX9_mixedOnce 2 = .ok (.iconst 2, 1) := by decide +kernel
theorem dX9_mixedOnce_3 : decode cX9_mixedOnce 3 = .ok (.idiv, 1) := by decide +kernel
theorem dX9_mixedOnce_4 : decode cX9_mixedOnce 4 = .ok (.if_icmp .ge 9, 3) := by decide +kernel
theorem dX9_mixedOnce_7 : decode cX9_mixedOnce 7 = .ok (.iconst 2, 1) := by decide +kernel
theorem dX9_mixedOnce_8 : decode cX9_mixedOnce 8 = .ok (.iload_n 1, 1) := by decide +kernel
theorem dX9_mixedOnce_9 : decode cX9_mixedOnce 9 = .ok (.imul, 1) := by decide +kernel
theorem dX9_mixedOnce_10 : decode cX9_mixedOnce 10 = .ok (.goto 10, 3) := by decide +kernel
theorem dX9_mixedOnce_13 : decode cX9_mixedOnce 13 = .ok (.iconst 2, 1) := by decide +kernel
theorem dX9_mixedOnce_14 : decode cX9_mixedOnce 14 = .ok (.iload_n 1, 1) := by decide +kernel
theorem dX9_mixedOnce_15 : decode cX9_mixedOnce 15 = .ok (.imul, 1) := by decide +kernel
theorem dX9_mixedOnce_16 : decode cX9_mixedOnce 16 = .ok (.iload_n 0, 1) := by decide +kernel
theorem dX9_mixedOnce_17 : decode cX9_mixedOnce 17 = .ok (.isub, 1) := by decide +kernel
theorem dX9_mixedOnce_18 : decode cX9_mixedOnce 18 = .ok (.iconst 1, 1) := by decide +kernel
theorem dX9_mixedOnce_19 : decode cX9_mixedOnce 19 = .ok (.iadd, 1) := by decide +kernel
theorem dX9_mixedOnce_20 : decode cX9_mixedOnce 20 = .ok (.ireturn, 1) := by decide +kernel
theorem dX9_orderOf_0 : decode cX9_orderOf 0 = .ok (.iconst 1, 1) := by decide +kernel
theorem dX9_orderOf_1 : decode cX9_orderOf 1 = .ok (.istore_n 1, 1) := by decide +kernel
theorem dX9_orderOf_2 : decode cX9_orderOf 2 = .ok (.iload_n 0, 1) := by decide +kernel
theorem dX9_orderOf_3 : decode cX9_orderOf 3 = .ok (.iconst 2, 1) := by decide +kernel
theorem dX9_orderOf_4 : decode cX9_orderOf 4 = .ok (.if_icmp .le 11, 3) := by decide +kernel
theorem dX9_orderOf_7 : decode cX9_orderOf 7 = .ok (.iload_n 0, 1) := by decide +kernel
theorem dX9_orderOf_8 : decode cX9_orderOf 8 = .ok (.iconst 1, 1) := by decide +kernel
theorem dX9_orderOf_9 : decode cX9_orderOf 9 = .ok (.invokestatic 235, 3) := by decide +kernel
theorem dX9_orderOf_12 : decode cX9_orderOf 12 = .ok (.goto 4, 3) := by decide +kernel
theorem dX9_orderOf_15 : decode cX9_orderOf 15 = .ok (.iconst 1, 1) := by decide +kernel
theorem dX9_orderOf_16 : decode cX9_orderOf 16 = .ok (.istore_n 2, 1) := by decide +kernel
theorem dX9_orderOf_17 : decode cX9_orderOf 17 = .ok (.iload_n 2, 1) := by decide +kernel
theorem dX9_orderOf_18 : decode cX9_orderOf 18 = .ok (.iconst 1, 1) := by decide +kernel
theorem dX9_orderOf_19 : decode cX9_orderOf 19 = .ok (.if_icmp .eq 15, 3) := by decide +kernel
theorem dX9_orderOf_22 : decode cX9_orderOf 22 = .ok (.iload_n 0, 1) := by decide +kernel
theorem dX9_orderOf_23 : decode cX9_orderOf 23 = .ok (.iload_n 2, 1) := by decide +kernel
theorem dX9_orderOf_24 : decode cX9_orderOf 24 = .ok (.invokestatic 235, 3) := by decide +kernel
theorem dX9_orderOf_27 : decode cX9_orderOf 27 = .ok (.istore_n 2, 1) := by decide +kernel
theorem dX9_orderOf_28 : decode cX9_orderOf 28 = .ok (.iinc 1 1, 3) := by decide +kernel
theorem dX9_orderOf_31 : decode cX9_orderOf 31 = .ok (.goto (-14), 3) := by decide +kernel
theorem dX9_orderOf_34 : decode cX9_orderOf 34 = .ok (.iload_n 1, 1) := by decide +kernel
theorem dX9_orderOf_35 : decode cX9_orderOf 35 = .ok (.ireturn, 1) := by decide +kernel
theorem dX9_mix_0 : decode cX9_mix 0 = .ok (.iload_n 1, 1) := by decide +kernel
theorem dX9_mix_1 : decode cX9_mix 1 = .ok (.i2l, 1) := by decide +kernel
theorem dX9_mix_2 : decode cX9_mix 2 = .ok (.ldc2_w 190, 3) := by decide +kernel
theorem dX9_mix_5 : decode cX9_mix 5 = .ok (.ldc2_w 238, 3) := by decide +kernel
theorem dX9_mix_8 : decode cX9_mix 8 = .ok (.invokestatic 76, 3) := by decide +kernel
theorem dX9_mix_11 : decode cX9_mix 11 = .ok (.ifCond .eq 46, 3) := by decide +kernel
theorem dX9_mix_14 : decode cX9_mix 14 = .ok (.iload_n 1, 1) := by decide +kernel
theorem dX9_mix_15 : decode cX9_mix 15 = .ok (.iconst 2, 1) := by decide +kernel
theorem dX9_mix_16 : decode cX9_mix 16 = .ok (.irem, 1) := by decide +kernel
theorem dX9_mix_17 : decode cX9_mix 17 = .ok (.iconst 1, 1) := by decide +kernel
theorem dX9_mix_18 : decode cX9_mix 18 = .ok (.if_icmp .eq 39, 3) := by decide +kernel
theorem dX9_mix_21 : decode cX9_mix 21 = .ok (.iload_n 2, 1) := by decide +kernel
theorem dX9_mix_22 : decode cX9_mix 22 = .ok (.i2l, 1) := by decide +kernel
theorem dX9_mix_23 : decode cX9_mix 23 = .ok (.lconst 0, 1) := by decide +kernel
theorem dX9_mix_24 : decode cX9_mix 24 = .ok (.iload_n 1, 1) := by decide +kernel
theorem dX9_mix_25 : decode cX9_mix 25 = .ok (.iconst 1, 1) := by decide +kernel
theorem dX9_mix_26 : decode cX9_mix 26 = .ok (.isub, 1) := by decide +kernel
theorem dX9_mix_27 : decode cX9_mix 27 = .ok (.i2l, 1) := by decide +kernel
theorem dX9_mix_28 : decode cX9_mix 28 = .ok (.invokestatic 76, 3) := by decide +kernel
theorem dX9_mix_31 : decode cX9_mix 31 = .ok (.ifCond .eq 26, 3) := by decide +kernel
theorem dX9_mix_34 : decode cX9_mix 34 = .ok (.iload_n 3, 1) := by decide +kernel
theorem dX9_mix_35 : decode cX9_mix 35 = .ok (.i2l, 1) := by decide +kernel
theorem dX9_mix_36 : decode cX9_mix 36 = .ok (.lconst 0, 1) := by decide +kernel
theorem dX9_mix_37 : decode cX9_mix 37 = .ok (.ldc2_w 240, 3) := by decide +kernel
theorem dX9_mix_40 : decode cX9_mix 40 = .ok (.invokestatic 76, 3) := by decide +kernel
theorem dX9_mix_43 : decode cX9_mix 43 = .ok (.ifCond .eq 14, 3) := by decide +kernel
theorem dX9_mix_46 : decode cX9_mix 46 = .ok (.iload 4, 2) := by decide +kernel
theorem dX9_mix_48 : decode cX9_mix 48 = .ok (.i2l, 1) := by decide +kernel
theorem dX9_mix_49 : decode cX9_mix 49 = .ok (.lconst 0, 1) := by decide +kernel
theorem dX9_mix_50 : decode cX9_mix 50 = .ok (.lconst 1, 1) := by decide +kernel
theorem dX9_mix_51 : decode cX9_mix 51 = .ok (.invokestatic 76, 3) := by decide +kernel
theorem dX9_mix_54 : decode cX9_mix 54 = .ok (.ifCond .ne 6, 3) := by decide +kernel
theorem dX9_mix_57 : decode cX9_mix 57 = .ok (.bipush (-2), 2) := by decide +kernel
theorem dX9_mix_59 : decode cX9_mix 59 = .ok (.ireturn, 1) := by decide +kernel
theorem dX9_mix_60 : decode cX9_mix 60 = .ok (.iload_n 1, 1) := by decide +kernel
theorem dX9_mix_61 : decode cX9_mix 61 = .ok (.invokestatic 242, 3) := by decide +kernel
theorem dX9_mix_64 : decode cX9_mix 64 = .ok (.istore 5, 2) := by decide +kernel
theorem dX9_mix_66 : decode cX9_mix 66 = .ok (.iload_n 2, 1) := by decide +kernel
theorem dX9_mix_67 : decode cX9_mix 67 = .ok (.istore 6, 2) := by decide +kernel
theorem dX9_mix_69 : decode cX9_mix 69 = .ok (.iconst 0, 1) := by decide +kernel
theorem dX9_mix_70 : decode cX9_mix 70 = .ok (.istore 7, 2) := by decide +kernel
theorem dX9_mix_72 : decode cX9_mix 72 = .ok (.iload 7, 2) := by decide +kernel
theorem dX9_mix_74 : decode cX9_mix 74 = .ok (.iload_n 3, 1) := by decide +kernel
theorem dX9_mix_75 : decode cX9_mix 75 = .ok (.iload 5, 2) := by decide +kernel
theorem dX9_mix_77 : decode cX9_mix 77 = .ok (.irem, 1) := by decide +kernel
theorem dX9_mix_78 : decode cX9_mix 78 = .ok (.if_icmp .ge 17, 3) := by decide +kernel
theorem dX9_mix_81 : decode cX9_mix 81 = .ok (.iload_n 1, 1) := by decide +kernel
theorem dX9_mix_82 : decode cX9_mix 82 = .ok (.iload 6, 2) := by decide +kernel
theorem dX9_mix_84 : decode cX9_mix 84 = .ok (.invokestatic 235, 3) := by decide +kernel
theorem dX9_mix_87 : decode cX9_mix 87 = .ok (.istore 6, 2) := by decide +kernel
theorem dX9_mix_89 : decode cX9_mix 89 = .ok (.iinc 7 1, 3) := by decide +kernel
theorem dX9_mix_92 : decode cX9_mix 92 = .ok (.goto (-20), 3) := by decide +kernel
theorem dX9_mix_95 : decode cX9_mix 95 = .ok (.iload 4, 2) := by decide +kernel
theorem dX9_mix_97 : decode cX9_mix 97 = .ok (.ifCond .ne 8, 3) := by decide +kernel
theorem dX9_mix_100 : decode cX9_mix 100 = .ok (.iload 6, 2) := by decide +kernel
theorem dX9_mix_102 : decode cX9_mix 102 = .ok (.goto 5, 3) := by decide +kernel
theorem dX9_mix_105 : decode cX9_mix 105 = .ok (.iload 5, 2) := by decide +kernel
theorem dX9_mix_107 : decode cX9_mix 107 = .ok (.ireturn, 1) := by decide +kernel
theorem dX9_riseFrom_0 : decode cX9_riseFrom 0 = .ok (.iconst 0, 1) := by decide +kernel
theorem dX9_riseFrom_1 : decode cX9_riseFrom 1 = .ok (.istore_n 2, 1) := by decide +kernel
theorem dX9_riseFrom_2 : decode cX9_riseFrom 2 = .ok (.iload_n 1, 1) := by decide +kernel
theorem dX9_riseFrom_3 : decode cX9_riseFrom 3 = .ok (.iconst 1, 1) := by decide +kernel
theorem dX9_riseFrom_4 : decode cX9_riseFrom 4 = .ok (.iadd, 1) := by decide +kernel
theorem dX9_riseFrom_5 : decode cX9_riseFrom 5 = .ok (.istore_n 3, 1) := by decide +kernel
theorem dX9_riseFrom_6 : decode cX9_riseFrom 6 = .ok (.iload_n 3, 1) := by decide +kernel
theorem dX9_riseFrom_7 : decode cX9_riseFrom 7 = .ok (.bipush 40, 2) := by decide +kernel
theorem dX9_riseFrom_9 : decode cX9_riseFrom 9 = .ok (.if_icmp .ge 45, 3) := by decide +kernel
theorem dX9_riseFrom_12 : decode cX9_riseFrom 12 = .ok (.aload_n 0, 1) := by decide +kernel
theorem dX9_riseFrom_13 : decode cX9_riseFrom 13 = .ok (.getfield 7, 3) := by decide +kernel
theorem dX9_riseFrom_16 : decode cX9_riseFrom 16 = .ok (.iload_n 3, 1) := by decide +kernel
theorem dX9_riseFrom_17 : decode cX9_riseFrom 17 = .ok (.iaload, 1) := by decide +kernel
theorem dX9_riseFrom_18 : decode cX9_riseFrom 18 = .ok (.aload_n 0, 1) := by decide +kernel
theorem dX9_riseFrom_19 : decode cX9_riseFrom 19 = .ok (.getfield 7, 3) := by decide +kernel
theorem dX9_riseFrom_22 : decode cX9_riseFrom 22 = .ok (.iload_n 1, 1) := by decide +kernel
theorem dX9_riseFrom_23 : decode cX9_riseFrom 23 = .ok (.iaload, 1) := by decide +kernel
theorem dX9_riseFrom_24 : decode cX9_riseFrom 24 = .ok (.if_icmp .lt 22, 3) := by decide +kernel
theorem dX9_riseFrom_27 : decode cX9_riseFrom 27 = .ok (.aload_n 0, 1) := by decide +kernel
theorem dX9_riseFrom_28 : decode cX9_riseFrom 28 = .ok (.getfield 61, 3) := by decide +kernel
theorem dX9_riseFrom_31 : decode cX9_riseFrom 31 = .ok (.iload_n 3, 1) := by decide +kernel
theorem dX9_riseFrom_32 : decode cX9_riseFrom 32 = .ok (.iaload, 1) := by decide +kernel
theorem dX9_riseFrom_33 : decode cX9_riseFrom 33 = .ok (.iload_n 2, 1) := by decide +kernel
theorem dX9_riseFrom_34 : decode cX9_riseFrom 34 = .ok (.if_icmp .le 12, 3) := by decide +kernel
theorem dX9_riseFrom_37 : decode cX9_riseFrom 37 = .ok (.aload_n 0, 1) := by decide +kernel
theorem dX9_riseFrom_38 : decode cX9_riseFrom 38 = .ok (.getfield 61, 3) := by decide +kernel
theorem dX9_riseFrom_41 : decode cX9_riseFrom 41 = .ok (.iload_n 3, 1) := by decide +kernel
theorem dX9_riseFrom_42 : decode cX9_riseFrom 42 = .ok (.iaload, 1) := by decide +kernel
theorem dX9_riseFrom_43 : decode cX9_riseFrom 43 = .ok (.goto 4, 3) := by decide +kernel
theorem dX9_riseFrom_46 : decode cX9_riseFrom 46 = .ok (.iload_n 2, 1) := by decide +kernel
theorem dX9_riseFrom_47 : decode cX9_riseFrom 47 = .ok (.istore_n 2, 1) := by decide +kernel
theorem dX9_riseFrom_48 : decode cX9_riseFrom 48 = .ok (.iinc 3 1, 3) := by decide +kernel
theorem dX9_riseFrom_51 : decode cX9_riseFrom 51 = .ok (.goto (-45), 3) := by decide +kernel
theorem dX9_riseFrom_54 : decode cX9_riseFrom 54 = .ok (.iload_n 2, 1) := by decide +kernel
theorem dX9_riseFrom_55 : decode cX9_riseFrom 55 = .ok (.iconst 1, 1) := by decide +kernel
theorem dX9_riseFrom_56 : decode cX9_riseFrom 56 = .ok (.iadd, 1) := by decide +kernel
theorem dX9_riseFrom_57 : decode cX9_riseFrom 57 = .ok (.ireturn, 1) := by decide +kernel
theorem dX9_rises_0 : decode cX9_rises 0 = .ok (.iload_n 1, 1) := by decide +kernel
theorem dX9_rises_1 : decode cX9_rises 1 = .ok (.invokestatic 82, 3) := by decide +kernel
theorem dX9_rises_4 : decode cX9_rises 4 = .ok (.ifCond .ne 5, 3) := by decide +kernel
theorem dX9_rises_7 : decode cX9_rises 7 = .ok (.iconst (-1), 1) := by decide +kernel
theorem dX9_rises_8 : decode cX9_rises 8 = .ok (.ireturn, 1) := by decide +kernel
theorem dX9_rises_9 : decode cX9_rises 9 = .ok (.iload_n 2, 1) := by decide +kernel
theorem dX9_rises_10 : decode cX9_rises 10 = .ok (.i2l, 1) := by decide +kernel
theorem dX9_rises_11 : decode cX9_rises 11 = .ok (.lconst 0, 1) := by decide +kernel
theorem dX9_rises_12 : decode cX9_rises 12 = .ok (.lconst 1, 1) := by decide +kernel
theorem dX9_rises_13 : decode cX9_rises 13 = .ok (.invokestatic 76, 3) := by decide +kernel
theorem dX9_rises_16 : decode cX9_rises 16 = .ok (.ifCond .ne 6, 3) := by decide +kernel
theorem dX9_rises_19 : decode cX9_rises 19 = .ok (.bipush (-2), 2) := by decide +kernel
theorem dX9_rises_21 : decode cX9_rises 21 = .ok (.ireturn, 1) := by decide +kernel
theorem dX9_rises_22 : decode cX9_rises 22 = .ok (.bipush 39, 2) := by decide +kernel
theorem dX9_rises_24 : decode cX9_rises 24 = .ok (.istore_n 3, 1) := by decide +kernel
theorem dX9_rises_25 : decode cX9_rises 25 = .ok (.bipush 39, 2) := by decide +kernel
theorem dX9_rises_27 : decode cX9_rises 27 = .ok (.istore 4, 2) := by decide +kernel
theorem dX9_rises_29 : decode cX9_rises 29 = .ok (.iload 4, 2) := by decide +kernel
theorem dX9_rises_31 : decode cX9_rises 31 = .ok (.iload_n 1, 1) := by decide +kernel
theorem dX9_rises_32 : decode cX9_rises 32 = .ok (.if_icmp .lt 45, 3) := by decide +kernel
theorem dX9_rises_35 : decode cX9_rises 35 = .ok (.aload_n 0, 1) := by decide +kernel
theorem dX9_rises_36 : decode cX9_rises 36 = .ok (.getfield 61, 3) := by decide +kernel
theorem dX9_rises_39 : decode cX9_rises 39 = .ok (.iload 4, 2) := by decide +kernel
theorem dX9_rises_41 : decode cX9_rises 41 = .ok (.aload_n 0, 1) := by decide +kernel
theorem dX9_rises_42 : decode cX9_rises 42 = .ok (.iload 4, 2) := by decide +kernel
theorem dX9_rises_44 : decode cX9_rises 44 = .ok (.invokevirtual 245, 3) := by decide +kernel
theorem dX9_rises_47 : decode cX9_rises 47 = .ok (.iastore, 1) := by decide +kernel
theorem dX9_rises_48 : decode cX9_rises 48 = .ok (.aload_n 0, 1) := by decide +kernel
theorem dX9_rises_49 : decode cX9_rises 49 = .ok (.getfield 61, 3) := by decide +kernel
theorem dX9_rises_52 : decode cX9_rises 52 = .ok (.iload 4, 2) := by decide +kernel
theorem dX9_rises_54 : decode cX9_rises 54 = .ok (.iaload, 1) := by decide +kernel
theorem dX9_rises_55 : decode cX9_rises 55 = .ok (.aload_n 0, 1) := by decide +kernel
theorem dX9_rises_56 : decode cX9_rises 56 = .ok (.getfield 61, 3) := by decide +kernel
theorem dX9_rises_59 : decode cX9_rises 59 = .ok (.iload_n 3, 1) := by decide +kernel
theorem dX9_rises_60 : decode cX9_rises 60 = .ok (.iaload, 1) := by decide +kernel
theorem dX9_rises_61 : decode cX9_rises 61 = .ok (.if_icmp .lt 8, 3) := by decide +kernel
theorem dX9_rises_64 : decode cX9_rises 64 = .ok (.iload 4, 2) := by decide +kernel
theorem dX9_rises_66 : decode cX9_rises 66 = .ok (.goto 4, 3) := by decide +kernel
theorem dX9_rises_69 : decode cX9_rises 69 = .ok (.iload_n 3, 1) := by decide +kernel
theorem dX9_rises_70 : decode cX9_rises 70 = .ok (.istore_n 3, 1) := by decide +kernel
theorem dX9_rises_71 : decode cX9_rises 71 = .ok (.iinc 4 (-1), 3) := by decide +kernel
theorem dX9_rises_74 : decode cX9_rises 74 = .ok (.goto (-45), 3) := by decide +kernel
theorem dX9_rises_77 : decode cX9_rises 77 = .ok (.iload_n 2, 1) := by decide +kernel
theorem dX9_rises_78 : decode cX9_rises 78 = .ok (.ifCond .ne 12, 3) := by decide +kernel
theorem dX9_rises_81 : decode cX9_rises 81 = .ok (.aload_n 0, 1) := by decide +kernel
theorem dX9_rises_82 : decode cX9_rises 82 = .ok (.getfield 61, 3) := by decide +kernel
theorem dX9_rises_85 : decode cX9_rises 85 = .ok (.iload_n 3, 1) := by decide +kernel
theorem dX9_rises_86 : decode cX9_rises 86 = .ok (.iaload, 1) := by decide +kernel
theorem dX9_rises_87 : decode cX9_rises 87 = .ok (.goto 4, 3) := by decide +kernel
theorem dX9_rises_90 : decode cX9_rises 90 = .ok (.iload_n 3, 1) := by decide +kernel
theorem dX9_rises_91 : decode cX9_rises 91 = .ok (.ireturn, 1) := by decide +kernel
theorem dX9_like_0 : decode cX9_like 0 = .ok (.iload_n 1, 1) := by decide +kernel
theorem dX9_like_1 : decode cX9_like 1 = .ok (.i2l, 1) := by decide +kernel
theorem dX9_like_2 : decode cX9_like 2 = .ok (.lconst 1, 1) := by decide +kernel
theorem dX9_like_3 : decode cX9_like 3 = .ok (.ldc2_w 88, 3) := by decide +kernel
theorem dX9_like_6 : decode cX9_like 6 = .ok (.invokestatic 76, 3) := by decide +kernel
theorem dX9_like_9 : decode cX9_like 9 = .ok (.ifCond .eq 15, 3) := by decide +kernel
theorem dX9_like_12 : decode cX9_like 12 = .ok (.iload_n 2, 1) := by decide +kernel
theorem dX9_like_13 : decode cX9_like 13 = .ok (.i2l, 1) := by decide +kernel
theorem dX9_like_14 : decode cX9_like 14 = .ok (.lconst 0, 1) := by decide +kernel
theorem dX9_like_15 : decode cX9_like 15 = .ok (.ldc2_w 248, 3) := by decide +kernel
theorem dX9_like_18 : decode cX9_like 18 = .ok (.invokestatic 76, 3) := by decide +kernel
theorem dX9_like_21 : decode cX9_like 21 = .ok (.ifCond .ne 6, 3) := by decide +kernel
theorem dX9_like_24 : decode cX9_like 24 = .ok (.bipush (-2), 2) := by decide +kernel
theorem dX9_like_26 : decode cX9_like 26 = .ok (.ireturn, 1) := by decide +kernel
theorem dX9_like_27 : decode cX9_like 27 = .ok (.aload_n 0, 1) := by decide +kernel
theorem dX9_like_28 : decode cX9_like 28 = .ok (.getfield 250, 3) := by decide +kernel
theorem dX9_like_31 : decode cX9_like 31 = .ok (.bipush 8, 2) := by decide +kernel
theorem dX9_like_33 : decode cX9_like 33 = .ok (.if_icmp .ne 6, 3) := by decide +kernel
theorem dX9_like_36 : decode cX9_like 36 = .ok (.bipush (-4), 2) := by decide +kernel
theorem dX9_like_38 : decode cX9_like 38 = .ok (.ireturn, 1) := by decide +kernel
theorem dX9_like_39 : decode cX9_like 39 = .ok (.aload_n 0, 1) := by decide +kernel
theorem dX9_like_40 : decode cX9_like 40 = .ok (.getfield 31, 3) := by decide +kernel
theorem dX9_like_43 : decode cX9_like 43 = .ok (.aload_n 0, 1) := by decide +kernel
theorem dX9_like_44 : decode cX9_like 44 = .ok (.getfield 250, 3) := by decide +kernel
theorem dX9_like_47 : decode cX9_like 47 = .ok (.iload_n 1, 1) := by decide +kernel
theorem dX9_like_48 : decode cX9_like 48 = .ok (.iastore, 1) := by decide +kernel
theorem dX9_like_49 : decode cX9_like 49 = .ok (.aload_n 0, 1) := by decide +kernel
theorem dX9_like_50 : decode cX9_like 50 = .ok (.getfield 34, 3) := by decide +kernel
theorem dX9_like_53 : decode cX9_like 53 = .ok (.aload_n 0, 1) := by decide +kernel
theorem dX9_like_54 : decode cX9_like 54 = .ok (.getfield 250, 3) := by decide +kernel
theorem dX9_like_57 : decode cX9_like 57 = .ok (.iload_n 2, 1) := by decide +kernel
theorem dX9_like_58 : decode cX9_like 58 = .ok (.iastore, 1) := by decide +kernel
theorem dX9_like_59 : decode cX9_like 59 = .ok (.aload_n 0, 1) := by decide +kernel
theorem dX9_like_60 : decode cX9_like 60 = .ok (.getfield 37, 3) := by decide +kernel
theorem dX9_like_63 : decode cX9_like 63 = .ok (.aload_n 0, 1) := by decide +kernel
theorem dX9_like_64 : decode cX9_like 64 = .ok (.getfield 250, 3) := by decide +kernel
theorem dX9_like_67 : decode cX9_like 67 = .ok (.iload_n 3, 1) := by decide +kernel
theorem dX9_like_68 : decode cX9_like 68 = .ok (.ifCond .eq 7, 3) := by decide +kernel
theorem dX9_like_71 : decode cX9_like 71 = .ok (.iconst 1, 1) := by decide +kernel
theorem dX9_like_72 : decode cX9_like 72 = .ok (.goto 4, 3) := by decide +kernel
theorem dX9_like_75 : decode cX9_like 75 = .ok (.iconst 0, 1) := by decide +kernel
theorem dX9_like_76 : decode cX9_like 76 = .ok (.iastore, 1) := by decide +kernel
theorem dX9_like_77 : decode cX9_like 77 = .ok (.aload_n 0, 1) := by decide +kernel
theorem dX9_like_78 : decode cX9_like 78 = .ok (.dup, 1) := by decide +kernel
theorem dX9_like_79 : decode cX9_like 79 = .ok (.getfield 250, 3) := by decide +kernel
theorem dX9_like_82 : decode cX9_like 82 = .ok (.iconst 1, 1) := by decide +kernel
theorem dX9_like_83 : decode cX9_like 83 = .ok (.iadd, 1) := by decide +kernel
theorem dX9_like_84 : decode cX9_like 84 = .ok (.putfield 250, 3) := by decide +kernel
theorem dX9_like_87 : decode cX9_like 87 = .ok (.aload_n 0, 1) := by decide +kernel
theorem dX9_like_88 : decode cX9_like 88 = .ok (.getfield 250, 3) := by decide +kernel
theorem dX9_like_91 : decode cX9_like 91 = .ok (.ireturn, 1) := by decide +kernel
theorem dX9_forget_0 : decode cX9_forget 0 = .ok (.aload_n 0, 1) := by decide +kernel
theorem dX9_forget_1 : decode cX9_forget 1 = .ok (.getfield 250, 3) := by decide +kernel
theorem dX9_forget_4 : decode cX9_forget 4 = .ok (.istore_n 1, 1) := by decide +kernel
theorem dX9_forget_5 : decode cX9_forget 5 = .ok (.aload_n 0, 1) := by decide +kernel
theorem dX9_forget_6 : decode cX9_forget 6 = .ok (.iconst 0, 1) := by decide +kernel
theorem dX9_forget_7 : decode cX9_forget 7 = .ok (.putfield 250, 3) := by decide +kernel
theorem dX9_forget_10 : decode cX9_forget 10 = .ok (.iload_n 1, 1) := by decide +kernel
theorem dX9_forget_11 : decode cX9_forget 11 = .ok (.ireturn, 1) := by decide +kernel
theorem dX9_isLike_0 : decode cX9_isLike 0 = .ok (.iload_n 0, 1) := by decide +kernel
theorem dX9_isLike_1 : decode cX9_isLike 1 = .ok (.i2l, 1) := by decide +kernel
theorem dX9_isLike_2 : decode cX9_isLike 2 = .ok (.iload_n 1, 1) := by decide +kernel
theorem dX9_isLike_3 : decode cX9_isLike 3 = .ok (.iload_n 2, 1) := by decide +kernel
theorem dX9_isLike_4 : decode cX9_isLike 4 = .ok (.isub, 1) := by decide +kernel
theorem dX9_isLike_5 : decode cX9_isLike 5 = .ok (.i2l, 1) := by decide +kernel
theorem dX9_isLike_6 : decode cX9_isLike 6 = .ok (.iload_n 1, 1) := by decide +kernel
theorem dX9_isLike_7 : decode cX9_isLike 7 = .ok (.iload_n 2, 1) := by decide +kernel
theorem dX9_isLike_8 : decode cX9_isLike 8 = .ok (.iadd, 1) := by decide +kernel
theorem dX9_isLike_9 : decode cX9_isLike 9 = .ok (.i2l, 1) := by decide +kernel
theorem dX9_isLike_10 : decode cX9_isLike 10 = .ok (.invokestatic 76, 3) := by decide +kernel
theorem dX9_isLike_13 : decode cX9_isLike 13 = .ok (.ireturn, 1) := by decide +kernel
theorem dX9_isFit_0 : decode cX9_isFit 0 = .ok (.iconst 1, 1) := by decide +kernel
theorem dX9_isFit_1 : decode cX9_isFit 1 = .ok (.istore_n 2, 1) := by decide +kernel
theorem dX9_isFit_2 : decode cX9_isFit 2 = .ok (.iconst 0, 1) := by decide +kernel
theorem dX9_isFit_3 : decode cX9_isFit 3 = .ok (.istore_n 3, 1) := by decide +kernel
theorem dX9_isFit_4 : decode cX9_isFit 4 = .ok (.iload_n 3, 1) := by decide +kernel
theorem dX9_isFit_5 : decode cX9_isFit 5 = .ok (.aload_n 0, 1) := by decide +kernel
theorem dX9_isFit_6 : decode cX9_isFit 6 = .ok (.getfield 250, 3) := by decide +kernel
theorem dX9_isFit_9 : decode cX9_isFit 9 = .ok (.if_icmp .ge 58, 3) := by decide +kernel
theorem dX9_isFit_12 : decode cX9_isFit 12 = .ok (.iload_n 2, 1) := by decide +kernel
theorem dX9_isFit_13 : decode cX9_isFit 13 = .ok (.ifCond .eq 46, 3) := by decide +kernel
theorem dX9_isFit_16 : decode cX9_isFit 16 = .ok (.aload_n 0, 1) := by decide +kernel
theorem dX9_isFit_17 : decode cX9_isFit 17 = .ok (.getfield 7, 3) := by decide +kernel
theorem dX9_isFit_20 : decode cX9_isFit 20 = .ok (.iload_n 1, 1) := by decide +kernel
theorem dX9_isFit_21 : decode cX9_isFit 21 = .ok (.iaload, 1) := by decide +kernel
theorem dX9_isFit_22 : decode cX9_isFit 22 = .ok (.aload_n 0, 1) := by decide +kernel
theorem dX9_isFit_23 : decode cX9_isFit 23 = .ok (.getfield 31, 3) := by decide +kernel
theorem dX9_isFit_26 : decode cX9_isFit 26 = .ok (.iload_n 3, 1) := by decide +kernel
theorem dX9_isFit_27 : decode cX9_isFit 27 = .ok (.iaload, 1) := by decide +kernel
theorem dX9_isFit_28 : decode cX9_isFit 28 = .ok (.aload_n 0, 1) := by decide +kernel
theorem dX9_isFit_29 : decode cX9_isFit 29 = .ok (.getfield 34, 3) := by decide +kernel
theorem dX9_isFit_32 : decode cX9_isFit 32 = .ok (.iload_n 3, 1) := by decide +kernel
theorem dX9_isFit_33 : decode cX9_isFit 33 = .ok (.iaload, 1) := by decide +kernel
theorem dX9_isFit_34 : decode cX9_isFit 34 = .ok (.invokestatic 253, 3) := by decide +kernel
theorem dX9_isFit_37 : decode cX9_isFit 37 = .ok (.aload_n 0, 1) := by decide +kernel
theorem dX9_isFit_38 : decode cX9_isFit 38 = .ok (.getfield 37, 3) := by decide +kernel
theorem dX9_isFit_41 : decode cX9_isFit 41 = .ok (.iload_n 3, 1) := by decide +kernel
theorem dX9_isFit_42 : decode cX9_isFit 42 = .ok (.iaload, 1) := by decide +kernel
theorem dX9_isFit_43 : decode cX9_isFit 43 = .ok (.iconst 1, 1) := by decide +kernel
theorem dX9_isFit_44 : decode cX9_isFit 44 = .ok (.if_icmp .ne 7, 3) := by decide +kernel
theorem dX9_isFit_47 : decode cX9_isFit 47 = .ok (.iconst 1, 1) := by decide +kernel
theorem dX9_isFit_48 : decode cX9_isFit 48 = .ok (.goto 4, 3) := by decide +kernel
theorem dX9_isFit_51 : decode cX9_isFit 51 = .ok (.iconst 0, 1) := by decide +kernel
theorem dX9_isFit_52 : decode cX9_isFit 52 = .ok (.if_icmp .ne 7, 3) := by decide +kernel
theorem dX9_isFit_55 : decode cX9_isFit 55 = .ok (.iconst 1, 1) := by decide +kernel
theorem dX9_isFit_56 : decode cX9_isFit 56 = .ok (.goto 4, 3) := by decide +kernel
theorem dX9_isFit_59 : decode cX9_isFit 59 = .ok (.iconst 0, 1) := by decide +kernel
theorem dX9_isFit_60 : decode cX9_isFit 60 = .ok (.istore_n 2, 1) := by decide +kernel
theorem dX9_isFit_61 : decode cX9_isFit 61 = .ok (.iinc 3 1, 3) := by decide +kernel
theorem dX9_isFit_64 : decode cX9_isFit 64 = .ok (.goto (-60), 3) := by decide +kernel
theorem dX9_isFit_67 : decode cX9_isFit 67 = .ok (.iload_n 2, 1) := by decide +kernel
theorem dX9_isFit_68 : decode cX9_isFit 68 = .ok (.ireturn, 1) := by decide +kernel
theorem dX9_own_0 : decode cX9_own 0 = .ok (.iconst 0, 1) := by decide +kernel
theorem dX9_own_1 : decode cX9_own 1 = .ok (.istore_n 2, 1) := by decide +kernel
theorem dX9_own_2 : decode cX9_own 2 = .ok (.iconst 0, 1) := by decide +kernel
theorem dX9_own_3 : decode cX9_own 3 = .ok (.istore_n 3, 1) := by decide +kernel
theorem dX9_own_4 : decode cX9_own 4 = .ok (.iload_n 3, 1) := by decide +kernel
theorem dX9_own_5 : decode cX9_own 5 = .ok (.bipush 40, 2) := by decide +kernel
theorem dX9_own_7 : decode cX9_own 7 = .ok (.if_icmp .ge 27, 3) := by decide +kernel
theorem dX9_own_10 : decode cX9_own 10 = .ok (.aload_n 0, 1) := by decide +kernel
theorem dX9_own_11 : decode cX9_own 11 = .ok (.iload_n 3, 1) := by decide +kernel
theorem dX9_own_12 : decode cX9_own 12 = .ok (.invokevirtual 256, 3) := by decide +kernel
theorem dX9_own_15 : decode cX9_own 15 = .ok (.ifCond .eq 13, 3) := by decide +kernel
theorem dX9_own_18 : decode cX9_own 18 = .ok (.iload_n 2, 1) := by decide +kernel
theorem dX9_own_19 : decode cX9_own 19 = .ok (.iload_n 1, 1) := by decide +kernel
theorem dX9_own_20 : decode cX9_own 20 = .ok (.if_icmp .ne 5, 3) := by decide +kernel
theorem dX9_own_23 : decode cX9_own 23 = .ok (.iload_n 3, 1) := by decide +kernel
theorem dX9_own_24 : decode cX9_own 24 = .ok (.ireturn, 1) := by decide +kernel
theorem dX9_own_25 : decode cX9_own 25 = .ok (.iinc 2 1, 3) := by decide +kernel
theorem dX9_own_28 : decode cX9_own 28 = .ok (.iinc 3 1, 3) := by decide +kernel
theorem dX9_own_31 : decode cX9_own 31 = .ok (.goto (-27), 3) := by decide +kernel
theorem dX9_own_34 : decode cX9_own 34 = .ok (.iload_n 1, 1) := by decide +kernel
theorem dX9_own_35 : decode cX9_own 35 = .ok (.iconst (-1), 1) := by decide +kernel
theorem dX9_own_36 : decode cX9_own 36 = .ok (.if_icmp .ne 7, 3) := by decide +kernel
theorem dX9_own_39 : decode cX9_own 39 = .ok (.iload_n 2, 1) := by decide +kernel
theorem dX9_own_40 : decode cX9_own 40 = .ok (.goto 5, 3) := by decide +kernel
theorem dX9_own_43 : decode cX9_own 43 = .ok (.bipush (-6), 2) := by decide +kernel
theorem dX9_own_45 : decode cX9_own 45 = .ok (.ireturn, 1) := by decide +kernel
theorem dX9_mostLeft_0 : decode cX9_mostLeft 0 = .ok (.iconst 0, 1) := by decide +kernel
theorem dX9_mostLeft_1 : decode cX9_mostLeft 1 = .ok (.istore_n 3, 1) := by decide +kernel
theorem dX9_mostLeft_2 : decode cX9_mostLeft 2 = .ok (.iconst 0, 1) := by decide +kernel
theorem dX9_mostLeft_3 : decode cX9_mostLeft 3 = .ok (.istore 4, 2) := by decide +kernel
theorem dX9_mostLeft_5 : decode cX9_mostLeft 5 = .ok (.iconst 0, 1) := by decide +kernel
theorem dX9_mostLeft_6 : decode cX9_mostLeft 6 = .ok (.istore 5, 2) := by decide +kernel
theorem dX9_mostLeft_8 : decode cX9_mostLeft 8 = .ok (.iload 5, 2) := by decide +kernel
theorem dX9_mostLeft_10 : decode cX9_mostLeft 10 = .ok (.bipush 40, 2) := by decide +kernel
theorem dX9_mostLeft_12 : decode cX9_mostLeft 12 = .ok (.if_icmp .ge 60, 3) := by decide +kernel
theorem dX9_mostLeft_15 : decode cX9_mostLeft 15 = .ok (.aload_n 0, 1) := by decide +kernel
theorem dX9_mostLeft_16 : decode cX9_mostLeft 16 = .ok (.iload 5, 2) := by decide +kernel
theorem dX9_mostLeft_18 : decode cX9_mostLeft 18 = .ok (.invokevirtual 256, 3) := by decide +kernel
theorem dX9_mostLeft_21 : decode cX9_mostLeft 21 = .ok (.istore 6, 2) := by decide +kernel
theorem dX9_mostLeft_23 : decode cX9_mostLeft 23 = .ok (.iload 4, 2) := by decide +kernel
theorem dX9_mostLeft_25 : decode cX9_mostLeft 25 = .ok (.iload 6, 2) := by decide +kernel
theorem dX9_mostLeft_27 : decode cX9_mostLeft 27 = .ok (.ifCond .eq 7, 3) := by decide +kernel
theorem dX9_mostLeft_30 : decode cX9_mostLeft 30 = .ok (.iconst 1, 1) := by decide +kernel
theorem dX9_mostLeft_31 : decode cX9_mostLeft 31 = .ok (.goto 4, 3) := by decide +kernel
theorem dX9_mostLeft_34 : decode cX9_mostLeft 34 = .ok (.iconst 0, 1) := by decide +kernel
theorem dX9_mostLeft_35 : decode cX9_mostLeft 35 = .ok (.iadd, 1) := by decide +kernel
theorem dX9_mostLeft_36 : decode cX9_mostLeft 36 = .ok (.istore 4, 2) := by decide +kernel
theorem dX9_mostLeft_38 : decode cX9_mostLeft 38 = .ok (.iload_n 3, 1) := by decide +kernel
theorem dX9_mostLeft_39 : decode cX9_mostLeft 39 = .ok (.iload 6, 2) := by decide +kernel
theorem dX9_mostLeft_41 : decode cX9_mostLeft 41 = .ok (.ifCond .eq 22, 3) := by decide +kernel
theorem dX9_mostLeft_44 : decode cX9_mostLeft 44 = .ok (.aload_n 0, 1) := by decide +kernel
theorem dX9_mostLeft_45 : decode cX9_mostLeft 45 = .ok (.getfield 7, 3) := by decide +kernel
theorem dX9_mostLeft_48 : decode cX9_mostLeft 48 = .ok (.iload 5, 2) := by decide +kernel
theorem dX9_mostLeft_50 : decode cX9_mostLeft 50 = .ok (.iaload, 1) := by decide +kernel
theorem dX9_mostLeft_51 : decode cX9_mostLeft 51 = .ok (.iload_n 1, 1) := by decide +kernel
theorem dX9_mostLeft_52 : decode cX9_mostLeft 52 = .ok (.iload_n 2, 1) := by decide +kernel
theorem dX9_mostLeft_53 : decode cX9_mostLeft 53 = .ok (.invokestatic 253, 3) := by decide +kernel
theorem dX9_mostLeft_56 : decode cX9_mostLeft 56 = .ok (.ifCond .eq 7, 3) := by decide +kernel
theorem dX9_mostLeft_59 : decode cX9_mostLeft 59 = .ok (.iconst 1, 1) := by decide +kernel
theorem dX9_mostLeft_60 : decode cX9_mostLeft 60 = .ok (.goto 4, 3) := by decide +kernel
theorem dX9_mostLeft_63 : decode cX9_mostLeft 63 = .ok (.iconst 0, 1) := by decide +kernel
theorem dX9_mostLeft_64 : decode cX9_mostLeft 64 = .ok (.iadd, 1) := by decide +kernel
theorem dX9_mostLeft_65 : decode cX9_mostLeft 65 = .ok (.istore_n 3, 1) := by decide +kernel
theorem dX9_mostLeft_66 : decode cX9_mostLeft 66 = .ok (.iinc 5 1, 3) := by decide +kernel
theorem dX9_mostLeft_69 : decode cX9_mostLeft 69 = .ok (.goto (-61), 3) := by decide +kernel
theorem dX9_mostLeft_72 : decode cX9_mostLeft 72 = .ok (.iload_n 3, 1) := by decide +kernel
theorem dX9_mostLeft_73 : decode cX9_mostLeft 73 = .ok (.iload 4, 2) := by decide +kernel
theorem dX9_mostLeft_75 : decode cX9_mostLeft 75 = .ok (.iload_n 3, 1) := by decide +kernel
theorem dX9_mostLeft_76 : decode cX9_mostLeft 76 = .ok (.isub, 1) := by decide +kernel
theorem dX9_mostLeft_77 : decode cX9_mostLeft 77 = .ok (.if_icmp .le 7, 3) := by decide +kernel
theorem dX9_mostLeft_80 : decode cX9_mostLeft 80 = .ok (.iload_n 3, 1) := by decide +kernel
theorem dX9_mostLeft_81 : decode cX9_mostLeft 81 = .ok (.goto 7, 3) := by decide +kernel
theorem dX9_mostLeft_84 : decode cX9_mostLeft 84 = .ok (.iload 4, 2) := by decide +kernel
theorem dX9_mostLeft_86 : decode cX9_mostLeft 86 = .ok (.iload_n 3, 1) := by decide +kernel
theorem dX9_mostLeft_87 : decode cX9_mostLeft 87 = .ok (.isub, 1) := by decide +kernel
theorem dX9_mostLeft_88 : decode cX9_mostLeft 88 = .ok (.ireturn, 1) := by decide +kernel
theorem dX9_ask_0 : decode cX9_ask 0 = .ok (.iload_n 1, 1) := by decide +kernel
theorem dX9_ask_1 : decode cX9_ask 1 = .ok (.i2l, 1) := by decide +kernel
theorem dX9_ask_2 : decode cX9_ask 2 = .ok (.lconst 0, 1) := by decide +kernel
theorem dX9_ask_3 : decode cX9_ask 3 = .ok (.lconst 1, 1) := by decide +kernel
theorem dX9_ask_4 : decode cX9_ask 4 = .ok (.invokestatic 76, 3) := by decide +kernel
theorem dX9_ask_7 : decode cX9_ask 7 = .ok (.ifCond .ne 6, 3) := by decide +kernel
theorem dX9_ask_10 : decode cX9_ask 10 = .ok (.bipush (-2), 2) := by decide +kernel
theorem dX9_ask_12 : decode cX9_ask 12 = .ok (.ireturn, 1) := by decide +kernel
theorem dX9_ask_13 : decode cX9_ask 13 = .ok (.bipush 10, 2) := by decide +kernel
theorem dX9_ask_15 : decode cX9_ask 15 = .ok (.istore_n 2, 1) := by decide +kernel
theorem dX9_ask_16 : decode cX9_ask 16 = .ok (.aload_n 0, 1) := by decide +kernel
theorem dX9_ask_17 : decode cX9_ask 17 = .ok (.iconst 1, 1) := by decide +kernel
theorem dX9_ask_18 : decode cX9_ask 18 = .ok (.iconst 0, 1) := by decide +kernel
theorem dX9_ask_19 : decode cX9_ask 19 = .ok (.invokevirtual 259, 3) := by decide +kernel
theorem dX9_ask_22 : decode cX9_ask 22 = .ok (.istore_n 3, 1) := by decide +kernel
theorem dX9_ask_23 : decode cX9_ask 23 = .ok (.bipush 11, 2) := by decide +kernel
theorem dX9_ask_25 : decode cX9_ask 25 = .ok (.istore 4, 2) := by decide +kernel
theorem dX9_ask_27 : decode cX9_ask 27 = .ok (.iload 4, 2) := by decide +kernel
theorem dX9_ask_29 : decode cX9_ask 29 = .ok (.bipush 99, 2) := by decide +kernel
theorem dX9_ask_31 : decode cX9_ask 31 = .ok (.if_icmp .ge 59, 3) := by decide +kernel
theorem dX9_ask_34 : decode cX9_ask 34 = .ok (.iload 4, 2) := by decide +kernel
theorem dX9_ask_36 : decode cX9_ask 36 = .ok (.bipush 10, 2) := by decide +kernel
theorem dX9_ask_38 : decode cX9_ask 38 = .ok (.irem, 1) := by decide +kernel
theorem dX9_ask_39 : decode cX9_ask 39 = .ok (.bipush 9, 2) := by decide +kernel
theorem dX9_ask_41 : decode cX9_ask 41 = .ok (.if_icmp .ge 20, 3) := by decide +kernel
theorem dX9_ask_44 : decode cX9_ask 44 = .ok (.aload_n 0, 1) := by decide +kernel
theorem dX9_ask_45 : decode cX9_ask 45 = .ok (.iload 4, 2) := by decide +kernel
theorem dX9_ask_47 : decode cX9_ask 47 = .ok (.bipush 10, 2) := by decide +kernel
theorem dX9_ask_49 : decode cX9_ask 49 = .ok (.idiv, 1) := by decide +kernel
theorem dX9_ask_50 : decode cX9_ask 50 = .ok (.iload 4, 2) := by decide +kernel
theorem dX9_ask_52 : decode cX9_ask 52 = .ok (.bipush 10, 2) := by decide +kernel
theorem dX9_ask_54 : decode cX9_ask 54 = .ok (.irem, 1) := by decide +kernel
theorem dX9_ask_55 : decode cX9_ask 55 = .ok (.invokevirtual 259, 3) := by decide +kernel
theorem dX9_ask_58 : decode cX9_ask 58 = .ok (.goto 4, 3) := by decide +kernel
theorem dX9_ask_61 : decode cX9_ask 61 = .ok (.iload_n 3, 1) := by decide +kernel
theorem dX9_ask_62 : decode cX9_ask 62 = .ok (.istore 5, 2) := by decide +kernel
theorem dX9_ask_64 : decode cX9_ask 64 = .ok (.iload 5, 2) := by decide +kernel
theorem dX9_ask_66 : decode cX9_ask 66 = .ok (.iload_n 3, 1) := by decide +kernel
theorem dX9_ask_67 : decode cX9_ask 67 = .ok (.if_icmp .ge 8, 3) := by decide +kernel
theorem dX9_ask_70 : decode cX9_ask 70 = .ok (.iload 4, 2) := by decide +kernel
theorem dX9_ask_72 : decode cX9_ask 72 = .ok (.goto 4, 3) := by decide +kernel
theorem dX9_ask_75 : decode cX9_ask 75 = .ok (.iload_n 2, 1) := by decide +kernel
theorem dX9_ask_76 : decode cX9_ask 76 = .ok (.istore_n 2, 1) := by decide +kernel
theorem dX9_ask_77 : decode cX9_ask 77 = .ok (.iload_n 3, 1) := by decide +kernel
theorem dX9_ask_78 : decode cX9_ask 78 = .ok (.iload 5, 2) := by decide +kernel
end
section
theorem dX9_ask_80 : decode cX9_ask 80 = .ok (.invokestatic 138, 3) := by decide +kernel
theorem dX9_ask_83 : decode cX9_ask 83 = .ok (.istore_n 3, 1) := by decide +kernel
theorem dX9_ask_84 : decode cX9_ask 84 = .ok (.iinc 4 1, 3) := by decide +kernel
theorem dX9_ask_87 : decode cX9_ask 87 = .ok (.goto (-60), 3) := by decide +kernel
theorem dX9_ask_90 : decode cX9_ask 90 = .ok (.iload_n 3, 1) := by decide +kernel
theorem dX9_ask_91 : decode cX9_ask 91 = .ok (.ifCond .ne 8, 3) := by decide +kernel
theorem dX9_ask_94 : decode cX9_ask 94 = .ok (.bipush (-6), 2) := by decide +kernel
theorem dX9_ask_96 : decode cX9_ask 96 = .ok (.goto 12, 3) := by decide +kernel
theorem dX9_ask_99 : decode cX9_ask 99 = .ok (.iload_n 1, 1) := by decide +kernel
theorem dX9_ask_100 : decode cX9_ask 100 = .ok (.ifCond .ne 7, 3) := by decide +kernel
theorem dX9_ask_103 : decode cX9_ask 103 = .ok (.iload_n 2, 1) := by decide +kernel
theorem dX9_ask_104 : decode cX9_ask 104 = .ok (.goto 4, 3) := by decide +kernel
theorem dX9_ask_107 : decode cX9_ask 107 = .ok (.iload_n 3, 1) := by decide +kernel
theorem dX9_ask_108 : decode cX9_ask 108 = .ok (.ireturn, 1) := by decide +kernel
theorem dX9_leastTake_0 : decode cX9_leastTake 0 = .ok (.bipush (-6), 2) := by decide +kernel
theorem dX9_leastTake_2 : decode cX9_leastTake 2 = .ok (.istore_n 2, 1) := by decide +kernel
theorem dX9_leastTake_3 : decode cX9_leastTake 3 = .ok (.iload_n 1, 1) := by decide +kernel
theorem dX9_leastTake_4 : decode cX9_leastTake 4 = .ok (.iconst 2, 1) := by decide +kernel
theorem dX9_leastTake_5 : decode cX9_leastTake 5 = .ok (.idiv, 1) := by decide +kernel
theorem dX9_leastTake_6 : decode cX9_leastTake 6 = .ok (.istore_n 3, 1) := by decide +kernel
theorem dX9_leastTake_7 : decode cX9_leastTake 7 = .ok (.iload_n 3, 1) := by decide +kernel
theorem dX9_leastTake_8 : decode cX9_leastTake 8 = .ok (.ifCond .le 26, 3) := by decide +kernel
theorem dX9_leastTake_11 : decode cX9_leastTake 11 = .ok (.aload_n 0, 1) := by decide +kernel
theorem dX9_leastTake_12 : decode cX9_leastTake 12 = .ok (.getfield 64, 3) := by decide +kernel
theorem dX9_leastTake_15 : decode cX9_leastTake 15 = .ok (.iload_n 1, 1) := by decide +kernel
theorem dX9_leastTake_16 : decode cX9_leastTake 16 = .ok (.iload_n 3, 1) := by decide +kernel
theorem dX9_leastTake_17 : decode cX9_leastTake 17 = .ok (.isub, 1) := by decide +kernel
theorem dX9_leastTake_18 : decode cX9_leastTake 18 = .ok (.baload, 1) := by decide +kernel
theorem dX9_leastTake_19 : decode cX9_leastTake 19 = .ok (.ifCond .eq 7, 3) := by decide +kernel
theorem dX9_leastTake_22 : decode cX9_leastTake 22 = .ok (.iload_n 2, 1) := by decide +kernel
theorem dX9_leastTake_23 : decode cX9_leastTake 23 = .ok (.goto 4, 3) := by decide +kernel
theorem dX9_leastTake_26 : decode cX9_leastTake 26 = .ok (.iload_n 3, 1) := by decide +kernel
theorem dX9_leastTake_27 : decode cX9_leastTake 27 = .ok (.istore_n 2, 1) := by decide +kernel
theorem dX9_leastTake_28 : decode cX9_leastTake 28 = .ok (.iinc 3 (-1), 3) := by decide +kernel
theorem dX9_leastTake_31 : decode cX9_leastTake 31 = .ok (.goto (-24), 3) := by decide +kernel
theorem dX9_leastTake_34 : decode cX9_leastTake 34 = .ok (.iload_n 2, 1) := by decide +kernel
theorem dX9_leastTake_35 : decode cX9_leastTake 35 = .ok (.ireturn, 1) := by decide +kernel
theorem dX9_take_0 : decode cX9_take 0 = .ok (.iload_n 1, 1) := by decide +kernel
theorem dX9_take_1 : decode cX9_take 1 = .ok (.i2l, 1) := by decide +kernel
theorem dX9_take_2 : decode cX9_take 2 = .ok (.lconst 1, 1) := by decide +kernel
theorem dX9_take_3 : decode cX9_take 3 = .ok (.ldc2_w 262, 3) := by decide +kernel
theorem dX9_take_6 : decode cX9_take 6 = .ok (.invokestatic 76, 3) := by decide +kernel
theorem dX9_take_9 : decode cX9_take 9 = .ok (.ifCond .eq 13, 3) := by decide +kernel
theorem dX9_take_12 : decode cX9_take 12 = .ok (.iload_n 2, 1) := by decide +kernel
theorem dX9_take_13 : decode cX9_take 13 = .ok (.i2l, 1) := by decide +kernel
theorem dX9_take_14 : decode cX9_take 14 = .ok (.lconst 0, 1) := by decide +kernel
theorem dX9_take_15 : decode cX9_take 15 = .ok (.lconst 1, 1) := by decide +kernel
theorem dX9_take_16 : decode cX9_take 16 = .ok (.invokestatic 76, 3) := by decide +kernel
theorem dX9_take_19 : decode cX9_take 19 = .ok (.ifCond .ne 6, 3) := by decide +kernel
theorem dX9_take_22 : decode cX9_take 22 = .ok (.bipush (-2), 2) := by decide +kernel
theorem dX9_take_24 : decode cX9_take 24 = .ok (.ireturn, 1) := by decide +kernel
theorem dX9_take_25 : decode cX9_take 25 = .ok (.iconst 1, 1) := by decide +kernel
theorem dX9_take_26 : decode cX9_take 26 = .ok (.istore_n 3, 1) := by decide +kernel
theorem dX9_take_27 : decode cX9_take 27 = .ok (.iload_n 3, 1) := by decide +kernel
theorem dX9_take_28 : decode cX9_take 28 = .ok (.iload_n 1, 1) := by decide +kernel
theorem dX9_take_29 : decode cX9_take 29 = .ok (.if_icmp .gt 28, 3) := by decide +kernel
theorem dX9_take_32 : decode cX9_take 32 = .ok (.aload_n 0, 1) := by decide +kernel
theorem dX9_take_33 : decode cX9_take 33 = .ok (.getfield 64, 3) := by decide +kernel
theorem dX9_take_36 : decode cX9_take 36 = .ok (.iload_n 3, 1) := by decide +kernel
theorem dX9_take_37 : decode cX9_take 37 = .ok (.aload_n 0, 1) := by decide +kernel
theorem dX9_take_38 : decode cX9_take 38 = .ok (.iload_n 3, 1) := by decide +kernel
theorem dX9_take_39 : decode cX9_take 39 = .ok (.invokevirtual 264, 3) := by decide +kernel
theorem dX9_take_42 : decode cX9_take 42 = .ok (.ifCond .lt 7, 3) := by decide +kernel
theorem dX9_take_45 : decode cX9_take 45 = .ok (.iconst 1, 1) := by decide +kernel
theorem dX9_take_46 : decode cX9_take 46 = .ok (.goto 4, 3) := by decide +kernel
theorem dX9_take_49 : decode cX9_take 49 = .ok (.iconst 0, 1) := by decide +kernel
theorem dX9_take_50 : decode cX9_take 50 = .ok (.bastore, 1) := by decide +kernel
theorem dX9_take_51 : decode cX9_take 51 = .ok (.iinc 3 1, 3) := by decide +kernel
theorem dX9_take_54 : decode cX9_take 54 = .ok (.goto (-27), 3) := by decide +kernel
theorem dX9_take_57 : decode cX9_take 57 = .ok (.iload_n 2, 1) := by decide +kernel
theorem dX9_take_58 : decode cX9_take 58 = .ok (.iconst 1, 1) := by decide +kernel
theorem dX9_take_59 : decode cX9_take 59 = .ok (.if_icmp .ne 11, 3) := by decide +kernel
theorem dX9_take_62 : decode cX9_take 62 = .ok (.aload_n 0, 1) := by decide +kernel
theorem dX9_take_63 : decode cX9_take 63 = .ok (.iload_n 1, 1) := by decide +kernel
theorem dX9_take_64 : decode cX9_take 64 = .ok (.invokevirtual 264, 3) := by decide +kernel
theorem dX9_take_67 : decode cX9_take 67 = .ok (.goto 17, 3) := by decide +kernel
theorem dX9_take_70 : decode cX9_take 70 = .ok (.aload_n 0, 1) := by decide +kernel
theorem dX9_take_71 : decode cX9_take 71 = .ok (.getfield 64, 3) := by decide +kernel
theorem dX9_take_74 : decode cX9_take 74 = .ok (.iload_n 1, 1) := by decide +kernel
theorem dX9_take_75 : decode cX9_take 75 = .ok (.baload, 1) := by decide +kernel
theorem dX9_take_76 : decode cX9_take 76 = .ok (.ifCond .eq 7, 3) := by decide +kernel
theorem dX9_take_79 : decode cX9_take 79 = .ok (.iconst 1, 1) := by decide +kernel
theorem dX9_take_80 : decode cX9_take 80 = .ok (.goto 4, 3) := by decide +kernel
theorem dX9_take_83 : decode cX9_take 83 = .ok (.iconst 0, 1) := by decide +kernel
theorem dX9_take_84 : decode cX9_take 84 = .ok (.ireturn, 1) := by decide +kernel
theorem dX9_likely_0 : decode cX9_likely 0 = .ok (.lconst 0, 1) := by decide +kernel
theorem dX9_likely_1 : decode cX9_likely 1 = .ok (.lstore_n 2, 1) := by decide +kernel
theorem dX9_likely_2 : decode cX9_likely 2 = .ok (.iload_n 1, 1) := by decide +kernel
theorem dX9_likely_3 : decode cX9_likely 3 = .ok (.istore 4, 2) := by decide +kernel
theorem dX9_likely_5 : decode cX9_likely 5 = .ok (.iload 4, 2) := by decide +kernel
theorem dX9_likely_7 : decode cX9_likely 7 = .ok (.iload_n 0, 1) := by decide +kernel
theorem dX9_likely_8 : decode cX9_likely 8 = .ok (.if_icmp .ge 23, 3) := by decide +kernel
theorem dX9_likely_11 : decode cX9_likely 11 = .ok (.iload_n 1, 1) := by decide +kernel
theorem dX9_likely_12 : decode cX9_likely 12 = .ok (.ifCond .le 19, 3) := by decide +kernel
theorem dX9_likely_15 : decode cX9_likely 15 = .ok (.lload_n 2, 1) := by decide +kernel
theorem dX9_likely_16 : decode cX9_likely 16 = .ok (.ldc2_w 267, 3) := by decide +kernel
theorem dX9_likely_19 : decode cX9_likely 19 = .ok (.iload 4, 2) := by decide +kernel
theorem dX9_likely_21 : decode cX9_likely 21 = .ok (.i2l, 1) := by decide +kernel
theorem dX9_likely_22 : decode cX9_likely 22 = .ok (.ldiv, 1) := by decide +kernel
theorem dX9_likely_23 : decode cX9_likely 23 = .ok (.ladd, 1) := by decide +kernel
theorem dX9_likely_24 : decode cX9_likely 24 = .ok (.lstore_n 2, 1) := by decide +kernel
theorem dX9_likely_25 : decode cX9_likely 25 = .ok (.iinc 4 1, 3) := by decide +kernel
theorem dX9_likely_28 : decode cX9_likely 28 = .ok (.goto (-23), 3) := by decide +kernel
theorem dX9_likely_31 : decode cX9_likely 31 = .ok (.iload_n 1, 1) := by decide +kernel
theorem dX9_likely_32 : decode cX9_likely 32 = .ok (.ifCond .ne 9, 3) := by decide +kernel
theorem dX9_likely_35 : decode cX9_likely 35 = .ok (.ldc2_w 267, 3) := by decide +kernel
theorem dX9_likely_38 : decode cX9_likely 38 = .ok (.goto 7, 3) := by decide +kernel
theorem dX9_likely_41 : decode cX9_likely 41 = .ok (.iload_n 1, 1) := by decide +kernel
theorem dX9_likely_42 : decode cX9_likely 42 = .ok (.i2l, 1) := by decide +kernel
theorem dX9_likely_43 : decode cX9_likely 43 = .ok (.lload_n 2, 1) := by decide +kernel
theorem dX9_likely_44 : decode cX9_likely 44 = .ok (.lmul, 1) := by decide +kernel
theorem dX9_likely_45 : decode cX9_likely 45 = .ok (.lreturn, 1) := by decide +kernel
theorem dX9_pass_0 : decode cX9_pass 0 = .ok (.iload_n 1, 1) := by decide +kernel
theorem dX9_pass_1 : decode cX9_pass 1 = .ok (.i2l, 1) := by decide +kernel
theorem dX9_pass_2 : decode cX9_pass 2 = .ok (.lconst 1, 1) := by decide +kernel
theorem dX9_pass_3 : decode cX9_pass 3 = .ok (.ldc2_w 269, 3) := by decide +kernel
theorem dX9_pass_6 : decode cX9_pass 6 = .ok (.invokestatic 76, 3) := by decide +kernel
theorem dX9_pass_9 : decode cX9_pass 9 = .ok (.ifCond .eq 26, 3) := by decide +kernel
theorem dX9_pass_12 : decode cX9_pass 12 = .ok (.iload_n 2, 1) := by decide +kernel
theorem dX9_pass_13 : decode cX9_pass 13 = .ok (.i2l, 1) := by decide +kernel
theorem dX9_pass_14 : decode cX9_pass 14 = .ok (.lconst 0, 1) := by decide +kernel
theorem dX9_pass_15 : decode cX9_pass 15 = .ok (.iload_n 1, 1) := by decide +kernel
theorem dX9_pass_16 : decode cX9_pass 16 = .ok (.iconst 1, 1) := by decide +kernel
theorem dX9_pass_17 : decode cX9_pass 17 = .ok (.isub, 1) := by decide +kernel
theorem dX9_pass_18 : decode cX9_pass 18 = .ok (.i2l, 1) := by decide +kernel
theorem dX9_pass_19 : decode cX9_pass 19 = .ok (.invokestatic 76, 3) := by decide +kernel
theorem dX9_pass_22 : decode cX9_pass 22 = .ok (.ifCond .eq 13, 3) := by decide +kernel
theorem dX9_pass_25 : decode cX9_pass 25 = .ok (.iload_n 3, 1) := by decide +kernel
theorem dX9_pass_26 : decode cX9_pass 26 = .ok (.i2l, 1) := by decide +kernel
theorem dX9_pass_27 : decode cX9_pass 27 = .ok (.lconst 0, 1) := by decide +kernel
theorem dX9_pass_28 : decode cX9_pass 28 = .ok (.lconst 1, 1) := by decide +kernel
theorem dX9_pass_29 : decode cX9_pass 29 = .ok (.invokestatic 76, 3) := by decide +kernel
theorem dX9_pass_32 : decode cX9_pass 32 = .ok (.ifCond .ne 7, 3) := by decide +kernel
theorem dX9_pass_35 : decode cX9_pass 35 = .ok (.ldc2_w 223, 3) := by decide +kernel
theorem dX9_pass_38 : decode cX9_pass 38 = .ok (.lreturn, 1) := by decide +kernel
theorem dX9_pass_39 : decode cX9_pass 39 = .ok (.iload_n 1, 1) := by decide +kernel
theorem dX9_pass_40 : decode cX9_pass 40 = .ok (.iload_n 2, 1) := by decide +kernel
theorem dX9_pass_41 : decode cX9_pass 41 = .ok (.invokestatic 271, 3) := by decide +kernel
theorem dX9_pass_44 : decode cX9_pass 44 = .ok (.iload_n 1, 1) := by decide +kernel
theorem dX9_pass_45 : decode cX9_pass 45 = .ok (.i2l, 1) := by decide +kernel
theorem dX9_pass_46 : decode cX9_pass 46 = .ok (.ldc2_w 267, 3) := by decide +kernel
theorem dX9_pass_49 : decode cX9_pass 49 = .ok (.lmul, 1) := by decide +kernel
theorem dX9_pass_50 : decode cX9_pass 50 = .ok (.iload_n 3, 1) := by decide +kernel
theorem dX9_pass_51 : decode cX9_pass 51 = .ok (.invokestatic 231, 3) := by decide +kernel
theorem dX9_pass_54 : decode cX9_pass 54 = .ok (.lreturn, 1) := by decide +kernel
theorem dX9_passes_0 : decode cX9_passes 0 = .ok (.iload_n 1, 1) := by decide +kernel
theorem dX9_passes_1 : decode cX9_passes 1 = .ok (.i2l, 1) := by decide +kernel
theorem dX9_passes_2 : decode cX9_passes 2 = .ok (.lconst 1, 1) := by decide +kernel
theorem dX9_passes_3 : decode cX9_passes 3 = .ok (.ldc2_w 269, 3) := by decide +kernel
theorem dX9_passes_6 : decode cX9_passes 6 = .ok (.invokestatic 76, 3) := by decide +kernel
theorem dX9_passes_9 : decode cX9_passes 9 = .ok (.ifCond .ne 6, 3) := by decide +kernel
theorem dX9_passes_12 : decode cX9_passes 12 = .ok (.bipush (-2), 2) := by decide +kernel
theorem dX9_passes_14 : decode cX9_passes 14 = .ok (.ireturn, 1) := by decide +kernel
theorem dX9_passes_15 : decode cX9_passes 15 = .ok (.iconst 0, 1) := by decide +kernel
theorem dX9_passes_16 : decode cX9_passes 16 = .ok (.istore_n 2, 1) := by decide +kernel
theorem dX9_passes_17 : decode cX9_passes 17 = .ok (.iconst 1, 1) := by decide +kernel
theorem dX9_passes_18 : decode cX9_passes 18 = .ok (.istore_n 3, 1) := by decide +kernel
theorem dX9_passes_19 : decode cX9_passes 19 = .ok (.iload_n 3, 1) := by decide +kernel
theorem dX9_passes_20 : decode cX9_passes 20 = .ok (.iload_n 1, 1) := by decide +kernel
theorem dX9_passes_21 : decode cX9_passes 21 = .ok (.if_icmp .ge 29, 3) := by decide +kernel
theorem dX9_passes_24 : decode cX9_passes 24 = .ok (.iload_n 1, 1) := by decide +kernel
theorem dX9_passes_25 : decode cX9_passes 25 = .ok (.iload_n 3, 1) := by decide +kernel
theorem dX9_passes_26 : decode cX9_passes 26 = .ok (.invokestatic 271, 3) := by decide +kernel
theorem dX9_passes_29 : decode cX9_passes 29 = .ok (.iload_n 1, 1) := by decide +kernel
theorem dX9_passes_30 : decode cX9_passes 30 = .ok (.iload_n 2, 1) := by decide +kernel
theorem dX9_passes_31 : decode cX9_passes 31 = .ok (.invokestatic 271, 3) := by decide +kernel
theorem dX9_passes_34 : decode cX9_passes 34 = .ok (.lcmp, 1) := by decide +kernel
theorem dX9_passes_35 : decode cX9_passes 35 = .ok (.ifCond .le 7, 3) := by decide +kernel
theorem dX9_passes_38 : decode cX9_passes 38 = .ok (.iload_n 3, 1) := by decide +kernel
theorem dX9_passes_39 : decode cX9_passes 39 = .ok (.goto 4, 3) := by decide +kernel
theorem dX9_passes_42 : decode cX9_passes 42 = .ok (.iload_n 2, 1) := by decide +kernel
theorem dX9_passes_43 : decode cX9_passes 43 = .ok (.istore_n 2, 1) := by decide +kernel
theorem dX9_passes_44 : decode cX9_passes 44 = .ok (.iinc 3 1, 3) := by decide +kernel
theorem dX9_passes_47 : decode cX9_passes 47 = .ok (.goto (-28), 3) := by decide +kernel
theorem dX9_passes_50 : decode cX9_passes 50 = .ok (.iload_n 2, 1) := by decide +kernel
theorem dX9_passes_51 : decode cX9_passes 51 = .ok (.ireturn, 1) := by decide +kernel
theorem dX9_actBy_0 : decode cX9_actBy 0 = .ok (.iload_n 0, 1) := by decide +kernel
theorem dX9_actBy_1 : decode cX9_actBy 1 = .ok (.tableswitch 55 0 6 #[43, 43, 45, 47, 49, 51, 53], 43) := by decide +kernel
theorem dX9_actBy_44 : decode cX9_actBy 44 = .ok (.iconst 0, 1) := by decide +kernel
theorem dX9_actBy_45 : decode cX9_actBy 45 = .ok (.ireturn, 1) := by decide +kernel
theorem dX9_actBy_46 : decode cX9_actBy 46 = .ok (.iconst 1, 1) := by decide +kernel
theorem dX9_actBy_47 : decode cX9_actBy 47 = .ok (.ireturn, 1) := by decide +kernel
theorem dX9_actBy_48 : decode cX9_actBy 48 = .ok (.iconst 2, 1) := by decide +kernel
theorem dX9_actBy_49 : decode cX9_actBy 49 = .ok (.ireturn, 1) := by decide +kernel
theorem dX9_actBy_50 : decode cX9_actBy 50 = .ok (.iconst 3, 1) := by decide +kernel
theorem dX9_actBy_51 : decode cX9_actBy 51 = .ok (.ireturn, 1) := by decide +kernel
theorem dX9_actBy_52 : decode cX9_actBy 52 = .ok (.iconst 4, 1) := by decide +kernel
theorem dX9_actBy_53 : decode cX9_actBy 53 = .ok (.ireturn, 1) := by decide +kernel
theorem dX9_actBy_54 : decode cX9_actBy 54 = .ok (.iconst 5, 1) := by decide +kernel
theorem dX9_actBy_55 : decode cX9_actBy 55 = .ok (.ireturn, 1) := by decide +kernel
theorem dX9_actBy_56 : decode cX9_actBy 56 = .ok (.iload_n 1, 1) := by decide +kernel
theorem dX9_actBy_57 : decode cX9_actBy 57 = .ok (.bipush 8, 2) := by decide +kernel
theorem dX9_actBy_59 : decode cX9_actBy 59 = .ok (.irem, 1) := by decide +kernel
theorem dX9_actBy_60 : decode cX9_actBy 60 = .ok (.ifCond .ne 8, 3) := by decide +kernel
theorem dX9_actBy_63 : decode cX9_actBy 63 = .ok (.bipush 6, 2) := by decide +kernel
theorem dX9_actBy_65 : decode cX9_actBy 65 = .ok (.goto 5, 3) := by decide +kernel
theorem dX9_actBy_68 : decode cX9_actBy 68 = .ok (.bipush 7, 2) := by decide +kernel
theorem dX9_actBy_70 : decode cX9_actBy 70 = .ok (.ireturn, 1) := by decide +kernel
theorem dX9_hour_0 : decode cX9_hour 0 = .ok (.iload_n 1, 1) := by decide +kernel
theorem dX9_hour_1 : decode cX9_hour 1 = .ok (.i2l, 1) := by decide +kernel
theorem dX9_hour_2 : decode cX9_hour 2 = .ok (.lconst 0, 1) := by decide +kernel
theorem dX9_hour_3 : decode cX9_hour 3 = .ok (.ldc2_w 275, 3) := by decide +kernel
theorem dX9_hour_6 : decode cX9_hour 6 = .ok (.invokestatic 76, 3) := by decide +kernel
theorem dX9_hour_9 : decode cX9_hour 9 = .ok (.ifCond .eq 27, 3) := by decide +kernel
theorem dX9_hour_12 : decode cX9_hour 12 = .ok (.iload_n 2, 1) := by decide +kernel
theorem dX9_hour_13 : decode cX9_hour 13 = .ok (.i2l, 1) := by decide +kernel
theorem dX9_hour_14 : decode cX9_hour 14 = .ok (.lconst 1, 1) := by decide +kernel
theorem dX9_hour_15 : decode cX9_hour 15 = .ok (.ldc2_w 277, 3) := by decide +kernel
theorem dX9_hour_18 : decode cX9_hour 18 = .ok (.invokestatic 76, 3) := by decide +kernel
theorem dX9_hour_21 : decode cX9_hour 21 = .ok (.ifCond .eq 15, 3) := by decide +kernel
theorem dX9_hour_24 : decode cX9_hour 24 = .ok (.iload_n 3, 1) := by decide +kernel
theorem dX9_hour_25 : decode cX9_hour 25 = .ok (.i2l, 1) := by decide +kernel
theorem dX9_hour_26 : decode cX9_hour 26 = .ok (.lconst 0, 1) := by decide +kernel
theorem dX9_hour_27 : decode cX9_hour 27 = .ok (.ldc2_w 190, 3) := by decide +kernel
theorem dX9_hour_30 : decode cX9_hour 30 = .ok (.invokestatic 76, 3) := by decide +kernel
theorem dX9_hour_33 : decode cX9_hour 33 = .ok (.ifCond .ne 6, 3) := by decide +kernel
theorem dX9_hour_36 : decode cX9_hour 36 = .ok (.bipush (-2), 2) := by decide +kernel
theorem dX9_hour_38 : decode cX9_hour 38 = .ok (.ireturn, 1) := by decide +kernel
theorem dX9_hour_39 : decode cX9_hour 39 = .ok (.aload_n 0, 1) := by decide +kernel
theorem dX9_hour_40 : decode cX9_hour 40 = .ok (.invokevirtual 180, 3) := by decide +kernel
theorem dX9_hour_43 : decode cX9_hour 43 = .ok (.iload_n 1, 1) := by decide +kernel
theorem dX9_hour_44 : decode cX9_hour 44 = .ok (.istore 4, 2) := by decide +kernel
theorem dX9_hour_46 : decode cX9_hour 46 = .ok (.iconst 0, 1) := by decide +kernel
theorem dX9_hour_47 : decode cX9_hour 47 = .ok (.istore 5, 2) := by decide +kernel
theorem dX9_hour_49 : decode cX9_hour 49 = .ok (.iload 5, 2) := by decide +kernel
theorem dX9_hour_51 : decode cX9_hour 51 = .ok (.iload_n 2, 1) := by decide +kernel
theorem dX9_hour_52 : decode cX9_hour 52 = .ok (.if_icmp .ge 87, 3) := by decide +kernel
theorem dX9_hour_55 : decode cX9_hour 55 = .ok (.ldc2_w 279, 3) := by decide +kernel
theorem dX9_hour_58 : decode cX9_hour 58 = .ok (.iload 4, 2) := by decide +kernel
theorem dX9_hour_60 : decode cX9_hour 60 = .ok (.i2l, 1) := by decide +kernel
theorem dX9_hour_61 : decode cX9_hour 61 = .ok (.lmul, 1) := by decide +kernel
theorem dX9_hour_62 : decode cX9_hour 62 = .ok (.ldc2_w 281, 3) := by decide +kernel
theorem dX9_hour_65 : decode cX9_hour 65 = .ok (.ladd, 1) := by decide +kernel
theorem dX9_hour_66 : decode cX9_hour 66 = .ok (.ldc2_w 283, 3) := by decide +kernel
theorem dX9_hour_69 : decode cX9_hour 69 = .ok (.lrem, 1) := by decide +kernel
theorem dX9_hour_70 : decode cX9_hour 70 = .ok (.l2i, 1) := by decide +kernel
theorem dX9_hour_71 : decode cX9_hour 71 = .ok (.istore 4, 2) := by decide +kernel
theorem dX9_hour_73 : decode cX9_hour 73 = .ok (.iload 4, 2) := by decide +kernel
theorem dX9_hour_75 : decode cX9_hour 75 = .ok (.bipush 48, 2) := by decide +kernel
theorem dX9_hour_77 : decode cX9_hour 77 = .ok (.idiv, 1) := by decide +kernel
theorem dX9_hour_78 : decode cX9_hour 78 = .ok (.istore 6, 2) := by decide +kernel
theorem dX9_hour_80 : decode cX9_hour 80 = .ok (.iload 4, 2) := by decide +kernel
theorem dX9_hour_82 : decode cX9_hour 82 = .ok (.bipush 6, 2) := by decide +kernel
theorem dX9_hour_84 : decode cX9_hour 84 = .ok (.idiv, 1) := by decide +kernel
theorem dX9_hour_85 : decode cX9_hour 85 = .ok (.bipush 8, 2) := by decide +kernel
theorem dX9_hour_87 : decode cX9_hour 87 = .ok (.irem, 1) := by decide +kernel
theorem dX9_hour_88 : decode cX9_hour 88 = .ok (.iload 6, 2) := by decide +kernel
theorem dX9_hour_90 : decode cX9_hour 90 = .ok (.invokestatic 285, 3) := by decide +kernel
theorem dX9_hour_93 : decode cX9_hour 93 = .ok (.istore 7, 2) := by decide +kernel
theorem dX9_hour_95 : decode cX9_hour 95 = .ok (.iconst 1, 1) := by decide +kernel
theorem dX9_hour_96 : decode cX9_hour 96 = .ok (.iload 6, 2) := by decide +kernel
theorem dX9_hour_98 : decode cX9_hour 98 = .ok (.bipush 9, 2) := by decide +kernel
theorem dX9_hour_100 : decode cX9_hour 100 = .ok (.irem, 1) := by decide +kernel
theorem dX9_hour_101 : decode cX9_hour 101 = .ok (.iadd, 1) := by decide +kernel
theorem dX9_hour_102 : decode cX9_hour 102 = .ok (.istore 8, 2) := by decide +kernel
theorem dX9_hour_104 : decode cX9_hour 104 = .ok (.aload_n 0, 1) := by decide +kernel
theorem dX9_hour_105 : decode cX9_hour 105 = .ok (.iload 7, 2) := by decide +kernel
theorem dX9_hour_107 : decode cX9_hour 107 = .ok (.iload 4, 2) := by decide +kernel
theorem dX9_hour_109 : decode cX9_hour 109 = .ok (.bipush 6, 2) := by decide +kernel
theorem dX9_hour_111 : decode cX9_hour 111 = .ok (.irem, 1) := by decide +kernel
theorem dX9_hour_112 : decode cX9_hour 112 = .ok (.iload 8, 2) := by decide +kernel
theorem dX9_hour_114 : decode cX9_hour 114 = .ok (.invokevirtual 173, 3) := by decide +kernel
theorem dX9_hour_117 : decode cX9_hour 117 = .ok (.ifCond .ne 16, 3) := by decide +kernel
theorem dX9_hour_120 : decode cX9_hour 120 = .ok (.aload_n 0, 1) := by decide +kernel
theorem dX9_hour_121 : decode cX9_hour 121 = .ok (.iload 7, 2) := by decide +kernel
theorem dX9_hour_123 : decode cX9_hour 123 = .ok (.iload 4, 2) := by decide +kernel
theorem dX9_hour_125 : decode cX9_hour 125 = .ok (.bipush 6, 2) := by decide +kernel
theorem dX9_hour_127 : decode cX9_hour 127 = .ok (.irem, 1) := by decide +kernel
theorem dX9_hour_128 : decode cX9_hour 128 = .ok (.iload 8, 2) := by decide +kernel
theorem dX9_hour_130 : decode cX9_hour 130 = .ok (.invokevirtual 157, 3) := by decide +kernel
theorem dX9_hour_133 : decode cX9_hour 133 = .ok (.iinc 5 1, 3) := by decide +kernel
theorem dX9_hour_136 : decode cX9_hour 136 = .ok (.goto (-87), 3) := by decide +kernel
theorem dX9_hour_139 : decode cX9_hour 139 = .ok (.aload_n 0, 1) := by decide +kernel
theorem dX9_hour_140 : decode cX9_hour 140 = .ok (.iload_n 3, 1) := by decide +kernel
theorem dX9_hour_141 : decode cX9_hour 141 = .ok (.ifCond .ne 12, 3) := by decide +kernel
theorem dX9_hour_144 : decode cX9_hour 144 = .ok (.aload_n 0, 1) := by decide +kernel
theorem dX9_hour_145 : decode cX9_hour 145 = .ok (.getfield 19, 3) := by decide +kernel
theorem dX9_hour_148 : decode cX9_hour 148 = .ok (.iconst 0, 1) := by decide +kernel
theorem dX9_hour_149 : decode cX9_hour 149 = .ok (.iaload, 1) := by decide +kernel
theorem dX9_hour_150 : decode cX9_hour 150 = .ok (.goto 19, 3) := by decide +kernel
theorem dX9_hour_153 : decode cX9_hour 153 = .ok (.iload_n 3, 1) := by decide +kernel
theorem dX9_hour_154 : decode cX9_hour 154 = .ok (.iconst 1, 1) := by decide +kernel
theorem dX9_hour_155 : decode cX9_hour 155 = .ok (.if_icmp .ne 10, 3) := by decide +kernel
theorem dX9_hour_158 : decode cX9_hour 158 = .ok (.aload_n 0, 1) := by decide +kernel
theorem dX9_hour_159 : decode cX9_hour 159 = .ok (.invokevirtual 204, 3) := by decide +kernel
theorem dX9_hour_162 : decode cX9_hour 162 = .ok (.goto 7, 3) := by decide +kernel
theorem dX9_hour_165 : decode cX9_hour 165 = .ok (.aload_n 0, 1) := by decide +kernel
theorem dX9_hour_166 : decode cX9_hour 166 = .ok (.invokevirtual 198, 3) := by decide +kernel
theorem dX9_hour_169 : decode cX9_hour 169 = .ok (.invokevirtual 195, 3) := by decide +kernel
theorem dX9_hour_172 : decode cX9_hour 172 = .ok (.ireturn, 1) := by decide +kernel
theorem dX9_put_0 : decode cX9_put 0 = .ok (.aload_n 0, 1) := by decide +kernel
theorem dX9_put_1 : decode cX9_put 1 = .ok (.getfield 288, 3) := by decide +kernel
theorem dX9_put_4 : decode cX9_put 4 = .ok (.ifCond .eq 7, 3) := by decide +kernel
theorem dX9_put_7 : decode cX9_put 7 = .ok (.iload_n 1, 1) := by decide +kernel
theorem dX9_put_8 : decode cX9_put 8 = .ok (.goto 12, 3) := by decide +kernel
theorem dX9_put_11 : decode cX9_put 11 = .ok (.aload_n 0, 1) := by decide +kernel
theorem dX9_put_12 : decode cX9_put 12 = .ok (.getfield 68, 3) := by decide +kernel
theorem dX9_put_15 : decode cX9_put 15 = .ok (.aload_n 0, 1) := by decide +kernel
theorem dX9_put_16 : decode cX9_put 16 = .ok (.getfield 292, 3) := by decide +kernel
theorem dX9_put_19 : decode cX9_put 19 = .ok (.iaload, 1) := by decide +kernel
theorem dX9_put_20 : decode cX9_put 20 = .ok (.istore_n 2, 1) := by decide +kernel
theorem dX9_put_21 : decode cX9_put 21 = .ok (.aload_n 0, 1) := by decide +kernel
theorem dX9_put_22 : decode cX9_put 22 = .ok (.getfield 68, 3) := by decide +kernel
theorem dX9_put_25 : decode cX9_put 25 = .ok (.aload_n 0, 1) := by decide +kernel
theorem dX9_put_26 : decode cX9_put 26 = .ok (.getfield 292, 3) := by decide +kernel
theorem dX9_put_29 : decode cX9_put 29 = .ok (.iload_n 2, 1) := by decide +kernel
theorem dX9_put_30 : decode cX9_put 30 = .ok (.iastore, 1) := by decide +kernel
theorem dX9_put_31 : decode cX9_put 31 = .ok (.aload_n 0, 1) := by decide +kernel
theorem dX9_put_32 : decode cX9_put 32 = .ok (.dup, 1) := by decide +kernel
theorem dX9_put_33 : decode cX9_put 33 = .ok (.getfield 292, 3) := by decide +kernel
theorem dX9_put_36 : decode cX9_put 36 = .ok (.iconst 1, 1) := by decide +kernel
theorem dX9_put_37 : decode cX9_put 37 = .ok (.iadd, 1) := by decide +kernel
theorem dX9_put_38 : decode cX9_put 38 = .ok (.putfield 292, 3) := by decide +kernel
theorem dX9_put_41 : decode cX9_put 41 = .ok (.iload_n 2, 1) := by decide +kernel
theorem dX9_put_42 : decode cX9_put 42 = .ok (.ireturn, 1) := by decide +kernel
theorem dX9_passRow_0 : decode cX9_passRow 0 = .ok (.iconst 0, 1) := by decide +kernel
theorem dX9_passRow_1 : decode cX9_passRow 1 = .ok (.istore_n 3, 1) := by decide +kernel
theorem dX9_passRow_2 : decode cX9_passRow 2 = .ok (.iload_n 3, 1) := by decide +kernel
theorem dX9_passRow_3 : decode cX9_passRow 3 = .ok (.iload_n 2, 1) := by decide +kernel
theorem dX9_passRow_4 : decode cX9_passRow 4 = .ok (.if_icmp .ge 19, 3) := by decide +kernel
theorem dX9_passRow_7 : decode cX9_passRow 7 = .ok (.aload_n 1, 1) := by decide +kernel
theorem dX9_passRow_8 : decode cX9_passRow 8 = .ok (.iload_n 3, 1) := by decide +kernel
theorem dX9_passRow_9 : decode cX9_passRow 9 = .ok (.aload_n 0, 1) := by decide +kernel
theorem dX9_passRow_10 : decode cX9_passRow 10 = .ok (.aload_n 1, 1) := by decide +kernel
theorem dX9_passRow_11 : decode cX9_passRow 11 = .ok (.iload_n 3, 1) := by decide +kernel
theorem dX9_passRow_12 : decode cX9_passRow 12 = .ok (.iaload, 1) := by decide +kernel
theorem dX9_passRow_13 : decode cX9_passRow 13 = .ok (.invokevirtual 295, 3) := by decide +kernel
theorem dX9_passRow_16 : decode cX9_passRow 16 = .ok (.iastore, 1) := by decide +kernel
theorem dX9_passRow_17 : decode cX9_passRow 17 = .ok (.iinc 3 1, 3) := by decide +kernel
theorem dX9_passRow_20 : decode cX9_passRow 20 = .ok (.goto (-18), 3) := by decide +kernel
theorem dX9_passRow_23 : decode cX9_passRow 23 = .ok (.return_, 1) := by decide +kernel
theorem dX9_passAll_0 : decode cX9_passAll 0 = .ok (.aload_n 0, 1) := by decide +kernel
theorem dX9_passAll_1 : decode cX9_passAll 1 = .ok (.aload_n 0, 1) := by decide +kernel
theorem dX9_passAll_2 : decode cX9_passAll 2 = .ok (.aload_n 0, 1) := by decide +kernel
theorem dX9_passAll_3 : decode cX9_passAll 3 = .ok (.getfield 129, 3) := by decide +kernel
theorem dX9_passAll_6 : decode cX9_passAll 6 = .ok (.invokevirtual 295, 3) := by decide +kernel
theorem dX9_passAll_9 : decode cX9_passAll 9 = .ok (.putfield 129, 3) := by decide +kernel
theorem dX9_passAll_12 : decode cX9_passAll 12 = .ok (.aload_n 0, 1) := by decide +kernel
theorem dX9_passAll_13 : decode cX9_passAll 13 = .ok (.aload_n 0, 1) := by decide +kernel
theorem dX9_passAll_14 : decode cX9_passAll 14 = .ok (.aload_n 0, 1) := by decide +kernel
theorem dX9_passAll_15 : decode cX9_passAll 15 = .ok (.getfield 250, 3) := by decide +kernel
theorem dX9_passAll_18 : decode cX9_passAll 18 = .ok (.invokevirtual 295, 3) := by decide +kernel
theorem dX9_passAll_21 : decode cX9_passAll 21 = .ok (.putfield 250, 3) := by decide +kernel
theorem dX9_passAll_24 : decode cX9_passAll 24 = .ok (.aload_n 0, 1) := by decide +kernel
theorem dX9_passAll_25 : decode cX9_passAll 25 = .ok (.aload_n 0, 1) := by decide +kernel
theorem dX9_passAll_26 : decode cX9_passAll 26 = .ok (.getfield 7, 3) := by decide +kernel
theorem dX9_passAll_29 : decode cX9_passAll 29 = .ok (.bipush 40, 2) := by decide +kernel
theorem dX9_passAll_31 : decode cX9_passAll 31 = .ok (.invokevirtual 298, 3) := by decide +kernel
theorem dX9_passAll_34 : decode cX9_passAll 34 = .ok (.aload_n 0, 1) := by decide +kernel
theorem dX9_passAll_35 : decode cX9_passAll 35 = .ok (.aload_n 0, 1) := by decide +kernel
theorem dX9_passAll_36 : decode cX9_passAll 36 = .ok (.getfield 13, 3) := by decide +kernel
theorem dX9_passAll_39 : decode cX9_passAll 39 = .ok (.bipush 40, 2) := by decide +kernel
theorem dX9_passAll_41 : decode cX9_passAll 41 = .ok (.invokevirtual 298, 3) := by decide +kernel
theorem dX9_passAll_44 : decode cX9_passAll 44 = .ok (.aload_n 0, 1) := by decide +kernel
theorem dX9_passAll_45 : decode cX9_passAll 45 = .ok (.aload_n 0, 1) := by decide +kernel
theorem dX9_passAll_46 : decode cX9_passAll 46 = .ok (.getfield 16, 3) := by decide +kernel
theorem dX9_passAll_49 : decode cX9_passAll 49 = .ok (.bipush 40, 2) := by decide +kernel
theorem dX9_passAll_51 : decode cX9_passAll 51 = .ok (.invokevirtual 298, 3) := by decide +kernel
theorem dX9_passAll_54 : decode cX9_passAll 54 = .ok (.aload_n 0, 1) := by decide +kernel
theorem dX9_passAll_55 : decode cX9_passAll 55 = .ok (.aload_n 0, 1) := by decide +kernel
theorem dX9_passAll_56 : decode cX9_passAll 56 = .ok (.getfield 19, 3) := by decide +kernel
theorem dX9_passAll_59 : decode cX9_passAll 59 = .ok (.bipush 6, 2) := by decide +kernel
theorem dX9_passAll_61 : decode cX9_passAll 61 = .ok (.invokevirtual 298, 3) := by decide +kernel
theorem dX9_passAll_64 : decode cX9_passAll 64 = .ok (.aload_n 0, 1) := by decide +kernel
theorem dX9_passAll_65 : decode cX9_passAll 65 = .ok (.aload_n 0, 1) := by decide +kernel
theorem dX9_passAll_66 : decode cX9_passAll 66 = .ok (.getfield 22, 3) := by decide +kernel
theorem dX9_passAll_69 : decode cX9_passAll 69 = .ok (.bipush 6, 2) := by decide +kernel
theorem dX9_passAll_71 : decode cX9_passAll 71 = .ok (.invokevirtual 298, 3) := by decide +kernel
theorem dX9_passAll_74 : decode cX9_passAll 74 = .ok (.aload_n 0, 1) := by decide +kernel
theorem dX9_passAll_75 : decode cX9_passAll 75 = .ok (.aload_n 0, 1) := by decide +kernel
theorem dX9_passAll_76 : decode cX9_passAll 76 = .ok (.getfield 25, 3) := by decide +kernel
theorem dX9_passAll_79 : decode cX9_passAll 79 = .ok (.bipush 6, 2) := by decide +kernel
theorem dX9_passAll_81 : decode cX9_passAll 81 = .ok (.invokevirtual 298, 3) := by decide +kernel
theorem dX9_passAll_84 : decode cX9_passAll 84 = .ok (.aload_n 0, 1) := by decide +kernel
theorem dX9_passAll_85 : decode cX9_passAll 85 = .ok (.aload_n 0, 1) := by decide +kernel
theorem dX9_passAll_86 : decode cX9_passAll 86 = .ok (.getfield 28, 3) := by decide +kernel
theorem dX9_passAll_89 : decode cX9_passAll 89 = .ok (.bipush 6, 2) := by decide +kernel
theorem dX9_passAll_91 : decode cX9_passAll 91 = .ok (.invokevirtual 298, 3) := by decide +kernel
theorem dX9_passAll_94 : decode cX9_passAll 94 = .ok (.aload_n 0, 1) := by decide +kernel
theorem dX9_passAll_95 : decode cX9_passAll 95 = .ok (.aload_n 0, 1) := by decide +kernel
theorem dX9_passAll_96 : decode cX9_passAll 96 = .ok (.getfield 31, 3) := by decide +kernel
theorem dX9_passAll_99 : decode cX9_passAll 99 = .ok (.bipush 8, 2) := by decide +kernel
theorem dX9_passAll_101 : decode cX9_passAll 101 = .ok (.invokevirtual 298, 3) := by decide +kernel
theorem dX9_passAll_104 : decode cX9_passAll 104 = .ok (.aload_n 0, 1) := by decide +kernel
theorem dX9_passAll_105 : decode cX9_passAll 105 = .ok (.aload_n 0, 1) := by decide +kernel
theorem dX9_passAll_106 : decode cX9_passAll 106 = .ok (.getfield 34, 3) := by decide +kernel
theorem dX9_passAll_109 : decode cX9_passAll 109 = .ok (.bipush 8, 2) := by decide +kernel
theorem dX9_passAll_111 : decode cX9_passAll 111 = .ok (.invokevirtual 298, 3) := by decide +kernel
theorem dX9_passAll_114 : decode cX9_passAll 114 = .ok (.aload_n 0, 1) := by decide +kernel
theorem dX9_passAll_115 : decode cX9_passAll 115 = .ok (.aload_n 0, 1) := by decide +kernel
theorem dX9_passAll_116 : decode cX9_passAll 116 = .ok (.getfield 37, 3) := by decide +kernel
theorem dX9_passAll_119 : decode cX9_passAll 119 = .ok (.bipush 8, 2) := by decide +kernel
theorem dX9_passAll_121 : decode cX9_passAll 121 = .ok (.invokevirtual 298, 3) := by decide +kernel
theorem dX9_passAll_124 : decode cX9_passAll 124 = .ok (.return_, 1) := by decide +kernel
theorem dX9_image_0 : decode cX9_image 0 = .ok (.iload_n 1, 1) := by decide +kernel
theorem dX9_image_1 : decode cX9_image 1 = .ok (.i2l, 1) := by decide +kernel
theorem dX9_image_2 : decode cX9_image 2 = .ok (.lconst 0, 1) := by decide +kernel
theorem dX9_image_3 : decode cX9_image 3 = .ok (.lconst 1, 1) := by decide +kernel
theorem dX9_image_4 : decode cX9_image 4 = .ok (.invokestatic 76, 3) := by decide +kernel
theorem dX9_image_7 : decode cX9_image 7 = .ok (.ifCond .ne 6, 3) := by decide +kernel
theorem dX9_image_10 : decode cX9_image 10 = .ok (.bipush (-2), 2) := by decide +kernel
theorem dX9_image_12 : decode cX9_image 12 = .ok (.ireturn, 1) := by decide +kernel
theorem dX9_image_13 : decode cX9_image 13 = .ok (.aload_n 0, 1) := by decide +kernel
theorem dX9_image_14 : decode cX9_image 14 = .ok (.sipush 170, 3) := by decide +kernel
theorem dX9_image_17 : decode cX9_image 17 = .ok (.iload_n 1, 1) := by decide +kernel
theorem dX9_image_18 : decode cX9_image 18 = .ok (.imul, 1) := by decide +kernel
theorem dX9_image_19 : decode cX9_image 19 = .ok (.putfield 292, 3) := by decide +kernel
theorem dX9_image_22 : decode cX9_image 22 = .ok (.aload_n 0, 1) := by decide +kernel
theorem dX9_image_23 : decode cX9_image 23 = .ok (.iconst 1, 1) := by decide +kernel
theorem dX9_image_24 : decode cX9_image 24 = .ok (.putfield 288, 3) := by decide +kernel
theorem dX9_image_27 : decode cX9_image 27 = .ok (.aload_n 0, 1) := by decide +kernel
theorem dX9_image_28 : decode cX9_image 28 = .ok (.invokevirtual 302, 3) := by decide +kernel
theorem dX9_image_31 : decode cX9_image 31 = .ok (.aload_n 0, 1) := by decide +kernel
theorem dX9_image_32 : decode cX9_image 32 = .ok (.getfield 71, 3) := by decide +kernel
theorem dX9_image_35 : decode cX9_image 35 = .ok (.iload_n 1, 1) := by decide +kernel
theorem dX9_image_36 : decode cX9_image 36 = .ok (.iconst 1, 1) := by decide +kernel
theorem dX9_image_37 : decode cX9_image 37 = .ok (.bastore, 1) := by decide +kernel
theorem dX9_image_38 : decode cX9_image 38 = .ok (.iconst 1, 1) := by decide +kernel
theorem dX9_image_39 : decode cX9_image 39 = .ok (.ireturn, 1) := by decide +kernel
theorem dX9_restore_0 : decode cX9_restore 0 = .ok (.iload_n 1, 1) := by decide +kernel
theorem dX9_restore_1 : decode cX9_restore 1 = .ok (.i2l, 1) := by decide +kernel
theorem dX9_restore_2 : decode cX9_restore 2 = .ok (.lconst 0, 1) := by decide +kernel
theorem dX9_restore_3 : decode cX9_restore 3 = .ok (.lconst 1, 1) := by decide +kernel
theorem dX9_restore_4 : decode cX9_restore 4 = .ok (.invokestatic 76, 3) := by decide +kernel
theorem dX9_restore_7 : decode cX9_restore 7 = .ok (.ifCond .ne 6, 3) := by decide +kernel
theorem dX9_restore_10 : decode cX9_restore 10 = .ok (.bipush (-2), 2) := by decide +kernel
theorem dX9_restore_12 : decode cX9_restore 12 = .ok (.ireturn, 1) := by decide +kernel
theorem dX9_restore_13 : decode cX9_restore 13 = .ok (.aload_n 0, 1) := by decide +kernel
theorem dX9_restore_14 : decode cX9_restore 14 = .ok (.getfield 71, 3) := by decide +kernel
theorem dX9_restore_17 : decode cX9_restore 17 = .ok (.iload_n 1, 1) := by decide +kernel
theorem dX9_restore_18 : decode cX9_restore 18 = .ok (.baload, 1) := by decide +kernel
theorem dX9_restore_19 : decode cX9_restore 19 = .ok (.ifCond .ne 6, 3) := by decide +kernel
theorem dX9_restore_22 : decode cX9_restore 22 = .ok (.bipush (-3), 2) := by decide +kernel
theorem dX9_restore_24 : decode cX9_restore 24 = .ok (.ireturn, 1) := by decide +kernel
theorem dX9_restore_25 : decode cX9_restore 25 = .ok (.aload_n 0, 1) := by decide +kernel
theorem dX9_restore_26 : decode cX9_restore 26 = .ok (.sipush 170, 3) := by decide +kernel
theorem dX9_restore_29 : decode cX9_restore 29 = .ok (.iload_n 1, 1) := by decide +kernel
theorem dX9_restore_30 : decode cX9_restore 30 = .ok (.imul, 1) := by decide +kernel
theorem dX9_restore_31 : decode cX9_restore 31 = .ok (.putfield 292, 3) := by decide +kernel
theorem dX9_restore_34 : decode cX9_restore 34 = .ok (.aload_n 0, 1) := by decide +kernel
theorem dX9_restore_35 : decode cX9_restore 35 = .ok (.iconst 0, 1) := by decide +kernel
theorem dX9_restore_36 : decode cX9_restore 36 = .ok (.putfield 288, 3) := by decide +kernel
theorem dX9_restore_39 : decode cX9_restore 39 = .ok (.aload_n 0, 1) := by decide +kernel
theorem dX9_restore_40 : decode cX9_restore 40 = .ok (.invokevirtual 302, 3) := by decide +kernel
theorem dX9_restore_43 : decode cX9_restore 43 = .ok (.iconst 1, 1) := by decide +kernel
theorem dX9_restore_44 : decode cX9_restore 44 = .ok (.ireturn, 1) := by decide +kernel
theorem dX9_toldOfHeir_0 : decode cX9_toldOfHeir 0 = .ok (.iload_n 1, 1) := by decide +kernel
theorem dX9_toldOfHeir_1 : decode cX9_toldOfHeir 1 = .ok (.bipush 10, 2) := by decide +kernel
theorem dX9_toldOfHeir_3 : decode cX9_toldOfHeir 3 = .ok (.irem, 1) := by decide +kernel
theorem dX9_toldOfHeir_4 : decode cX9_toldOfHeir 4 = .ok (.istore_n 2, 1) := by decide +kernel
theorem dX9_toldOfHeir_5 : decode cX9_toldOfHeir 5 = .ok (.iload_n 2, 1) := by decide +kernel
theorem dX9_toldOfHeir_6 : decode cX9_toldOfHeir 6 = .ok (.invokestatic 90, 3) := by decide +kernel
theorem dX9_toldOfHeir_9 : decode cX9_toldOfHeir 9 = .ok (.ifCond .ne 6, 3) := by decide +kernel
theorem dX9_toldOfHeir_12 : decode cX9_toldOfHeir 12 = .ok (.bipush (-2), 2) := by decide +kernel
theorem dX9_toldOfHeir_14 : decode cX9_toldOfHeir 14 = .ok (.ireturn, 1) := by decide +kernel
theorem dX9_toldOfHeir_15 : decode cX9_toldOfHeir 15 = .ok (.iload_n 1, 1) := by decide +kernel
theorem dX9_toldOfHeir_16 : decode cX9_toldOfHeir 16 = .ok (.bipush 20, 2) := by decide +kernel
theorem dX9_toldOfHeir_18 : decode cX9_toldOfHeir 18 = .ok (.if_icmp .ge 12, 3) := by decide +kernel
theorem dX9_toldOfHeir_21 : decode cX9_toldOfHeir 21 = .ok (.aload_n 0, 1) := by decide +kernel
theorem dX9_toldOfHeir_22 : decode cX9_toldOfHeir 22 = .ok (.getfield 19, 3) := by decide +kernel
theorem dX9_toldOfHeir_25 : decode cX9_toldOfHeir 25 = .ok (.iload_n 2, 1) := by decide +kernel
theorem dX9_toldOfHeir_26 : decode cX9_toldOfHeir 26 = .ok (.iaload, 1) := by decide +kernel
theorem dX9_toldOfHeir_27 : decode cX9_toldOfHeir 27 = .ok (.goto 39, 3) := by decide +kernel
theorem dX9_toldOfHeir_30 : decode cX9_toldOfHeir 30 = .ok (.iload_n 1, 1) := by decide +kernel
theorem dX9_toldOfHeir_31 : decode cX9_toldOfHeir 31 = .ok (.bipush 30, 2) := by decide +kernel
theorem dX9_toldOfHeir_33 : decode cX9_toldOfHeir 33 = .ok (.if_icmp .ge 12, 3) := by decide +kernel
theorem dX9_toldOfHeir_36 : decode cX9_toldOfHeir 36 = .ok (.aload_n 0, 1) := by decide +kernel
theorem dX9_toldOfHeir_37 : decode cX9_toldOfHeir 37 = .ok (.getfield 22, 3) := by decide +kernel
theorem dX9_toldOfHeir_40 : decode cX9_toldOfHeir 40 = .ok (.iload_n 2, 1) := by decide +kernel
theorem dX9_toldOfHeir_41 : decode cX9_toldOfHeir 41 = .ok (.iaload, 1) := by decide +kernel
theorem dX9_toldOfHeir_42 : decode cX9_toldOfHeir 42 = .ok (.goto 24, 3) := by decide +kernel
theorem dX9_toldOfHeir_45 : decode cX9_toldOfHeir 45 = .ok (.iload_n 1, 1) := by decide +kernel
theorem dX9_toldOfHeir_46 : decode cX9_toldOfHeir 46 = .ok (.bipush 40, 2) := by decide +kernel
theorem dX9_toldOfHeir_48 : decode cX9_toldOfHeir 48 = .ok (.if_icmp .ge 12, 3) := by decide +kernel
theorem dX9_toldOfHeir_51 : decode cX9_toldOfHeir 51 = .ok (.aload_n 0, 1) := by decide +kernel
theorem dX9_toldOfHeir_52 : decode cX9_toldOfHeir 52 = .ok (.getfield 25, 3) := by decide +kernel
theorem dX9_toldOfHeir_55 : decode cX9_toldOfHeir 55 = .ok (.iload_n 2, 1) := by decide +kernel
theorem dX9_toldOfHeir_56 : decode cX9_toldOfHeir 56 = .ok (.iaload, 1) := by decide +kernel
theorem dX9_toldOfHeir_57 : decode cX9_toldOfHeir 57 = .ok (.goto 9, 3) := by decide +kernel
theorem dX9_toldOfHeir_60 : decode cX9_toldOfHeir 60 = .ok (.aload_n 0, 1) := by decide +kernel
theorem dX9_toldOfHeir_61 : decode cX9_toldOfHeir 61 = .ok (.getfield 28, 3) := by decide +kernel
theorem dX9_toldOfHeir_64 : decode cX9_toldOfHeir 64 = .ok (.iload_n 2, 1) := by decide +kernel
theorem dX9_toldOfHeir_65 : decode cX9_toldOfHeir 65 = .ok (.iaload, 1) := by decide +kernel
theorem dX9_toldOfHeir_66 : decode cX9_toldOfHeir 66 = .ok (.ireturn, 1) := by decide +kernel
theorem dX9_toldOfPlace_0 : decode cX9_toldOfPlace 0 = .ok (.iload_n 1, 1) := by decide +kernel
theorem dX9_toldOfPlace_1 : decode cX9_toldOfPlace 1 = .ok (.bipush 100, 2) := by decide +kernel
theorem dX9_toldOfPlace_3 : decode cX9_toldOfPlace 3 = .ok (.irem, 1) := by decide +kernel
theorem dX9_toldOfPlace_4 : decode cX9_toldOfPlace 4 = .ok (.istore_n 2, 1) := by decide +kernel
theorem dX9_toldOfPlace_5 : decode cX9_toldOfPlace 5 = .ok (.iload_n 2, 1) := by decide +kernel
theorem dX9_toldOfPlace_6 : decode cX9_toldOfPlace 6 = .ok (.invokestatic 82, 3) := by decide +kernel
theorem dX9_toldOfPlace_9 : decode cX9_toldOfPlace 9 = .ok (.ifCond .ne 6, 3) := by decide +kernel
theorem dX9_toldOfPlace_12 : decode cX9_toldOfPlace 12 = .ok (.bipush (-2), 2) := by decide +kernel
theorem dX9_toldOfPlace_14 : decode cX9_toldOfPlace 14 = .ok (.ireturn, 1) := by decide +kernel
theorem dX9_toldOfPlace_15 : decode cX9_toldOfPlace 15 = .ok (.iload_n 1, 1) := by decide +kernel
theorem dX9_toldOfPlace_16 : decode cX9_toldOfPlace 16 = .ok (.sipush 200, 3) := by decide +kernel
theorem dX9_toldOfPlace_19 : decode cX9_toldOfPlace 19 = .ok (.if_icmp .ge 12, 3) := by decide +kernel
theorem dX9_toldOfPlace_22 : decode cX9_toldOfPlace 22 = .ok (.aload_n 0, 1) := by decide +kernel
theorem dX9_toldOfPlace_23 : decode cX9_toldOfPlace 23 = .ok (.getfield 7, 3) := by decide +kernel
theorem dX9_toldOfPlace_26 : decode cX9_toldOfPlace 26 = .ok (.iload_n 2, 1) := by decide +kernel
theorem dX9_toldOfPlace_27 : decode cX9_toldOfPlace 27 = .ok (.iaload, 1) := by decide +kernel
theorem dX9_toldOfPlace_28 : decode cX9_toldOfPlace 28 = .ok (.goto 25, 3) := by decide +kernel
theorem dX9_toldOfPlace_31 : decode cX9_toldOfPlace 31 = .ok (.iload_n 1, 1) := by decide +kernel
theorem dX9_toldOfPlace_32 : decode cX9_toldOfPlace 32 = .ok (.sipush 300, 3) := by decide +kernel
theorem dX9_toldOfPlace_35 : decode cX9_toldOfPlace 35 = .ok (.if_icmp .ge 12, 3) := by decide +kernel
theorem dX9_toldOfPlace_38 : decode cX9_toldOfPlace 38 = .ok (.aload_n 0, 1) := by decide +kernel
theorem dX9_toldOfPlace_39 : decode cX9_toldOfPlace 39 = .ok (.getfield 13, 3) := by decide +kernel
theorem dX9_toldOfPlace_42 : decode cX9_toldOfPlace 42 = .ok (.iload_n 2, 1) := by decide +kernel
theorem dX9_toldOfPlace_43 : decode cX9_toldOfPlace 43 = .ok (.iaload, 1) := by decide +kernel
theorem dX9_toldOfPlace_44 : decode cX9_toldOfPlace 44 = .ok (.goto 9, 3) := by decide +kernel
theorem dX9_toldOfPlace_47 : decode cX9_toldOfPlace 47 = .ok (.aload_n 0, 1) := by decide +kernel
theorem dX9_toldOfPlace_48 : decode cX9_toldOfPlace 48 = .ok (.getfield 16, 3) := by decide +kernel
theorem dX9_toldOfPlace_51 : decode cX9_toldOfPlace 51 = .ok (.iload_n 2, 1) := by decide +kernel
theorem dX9_toldOfPlace_52 : decode cX9_toldOfPlace 52 = .ok (.iaload, 1) := by decide +kernel
theorem dX9_toldOfPlace_53 : decode cX9_toldOfPlace 53 = .ok (.ireturn, 1) := by decide +kernel
theorem dX9_told_0 : decode cX9_told 0 = .ok (.iload_n 1, 1) := by decide +kernel
theorem dX9_told_1 : decode cX9_told 1 = .ok (.i2l, 1) := by decide +kernel
theorem dX9_told_2 : decode cX9_told 2 = .ok (.ldc2_w 305, 3) := by decide +kernel
theorem dX9_told_5 : decode cX9_told 5 = .ok (.ldc2_w 307, 3) := by decide +kernel
theorem dX9_told_8 : decode cX9_told 8 = .ok (.invokestatic 76, 3) := by decide +kernel
theorem dX9_told_11 : decode cX9_told 11 = .ok (.ifCond .eq 9, 3) := by decide +kernel
theorem dX9_told_14 : decode cX9_told 14 = .ok (.aload_n 0, 1) := by decide +kernel
theorem dX9_told_15 : decode cX9_told 15 = .ok (.iload_n 1, 1) := by decide +kernel
theorem dX9_told_16 : decode cX9_told 16 = .ok (.invokevirtual 309, 3) := by decide +kernel
theorem dX9_told_19 : decode cX9_told 19 = .ok (.ireturn, 1) := by decide +kernel
theorem dX9_told_20 : decode cX9_told 20 = .ok (.iload_n 1, 1) := by decide +kernel
theorem dX9_told_21 : decode cX9_told 21 = .ok (.i2l, 1) := by decide +kernel
theorem dX9_told_22 : decode cX9_told 22 = .ok (.ldc2_w 312, 3) := by decide +kernel
theorem dX9_told_25 : decode cX9_told 25 = .ok (.ldc2_w 112, 3) := by decide +kernel
theorem dX9_told_28 : decode cX9_told 28 = .ok (.invokestatic 76, 3) := by decide +kernel
theorem dX9_told_31 : decode cX9_told 31 = .ok (.ifCond .eq 9, 3) := by decide +kernel
theorem dX9_told_34 : decode cX9_told 34 = .ok (.aload_n 0, 1) := by decide +kernel
theorem dX9_told_35 : decode cX9_told 35 = .ok (.iload_n 1, 1) := by decide +kernel
theorem dX9_told_36 : decode cX9_told 36 = .ok (.invokevirtual 314, 3) := by decide +kernel
theorem dX9_told_39 : decode cX9_told 39 = .ok (.ireturn, 1) := by decide +kernel
theorem dX9_told_40 : decode cX9_told 40 = .ok (.iload_n 1, 1) := by decide +kernel
theorem dX9_told_41 : decode cX9_told 41 = .ok (.tableswitch 60 0 4 #[35, 40, 45, 50, 55], 35) := by decide +kernel
theorem dX9_told_76 : decode cX9_told 76 = .ok (.aload_n 0, 1) := by decide +kernel
theorem dX9_told_77 : decode cX9_told 77 = .ok (.getfield 97, 3) := by decide +kernel
theorem dX9_told_80 : decode cX9_told 80 = .ok (.ireturn, 1) := by decide +kernel
theorem dX9_told_81 : decode cX9_told 81 = .ok (.aload_n 0, 1) := by decide +kernel
theorem dX9_told_82 : decode cX9_told 82 = .ok (.invokevirtual 198, 3) := by decide +kernel
theorem dX9_told_85 : decode cX9_told 85 = .ok (.ireturn, 1) := by decide +kernel
theorem dX9_told_86 : decode cX9_told 86 = .ok (.aload_n 0, 1) := by decide +kernel
theorem dX9_told_87 : decode cX9_told 87 = .ok (.invokevirtual 204, 3) := by decide +kernel
theorem dX9_told_90 : decode cX9_told 90 = .ok (.ireturn, 1) := by decide +kernel
theorem dX9_told_91 : decode cX9_told 91 = .ok (.aload_n 0, 1) := by decide +kernel
theorem dX9_told_92 : decode cX9_told 92 = .ok (.getfield 129, 3) := by decide +kernel
theorem dX9_told_95 : decode cX9_told 95 = .ok (.ireturn, 1) := by decide +kernel
theorem dX9_told_96 : decode cX9_told 96 = .ok (.aload_n 0, 1) := by decide +kernel
theorem dX9_told_97 : decode cX9_told 97 = .ok (.getfield 250, 3) := by decide +kernel
theorem dX9_told_100 : decode cX9_told 100 = .ok (.ireturn, 1) := by decide +kernel
theorem dX9_told_101 : decode cX9_told 101 = .ok (.bipush (-2), 2) := by decide +kernel
theorem dX9_told_103 : decode cX9_told 103 = .ok (.ireturn, 1) := by decide +kernel
theorem dL_law_0 : decode cL_law 0 = .ok (.new 7, 3) := by decide +kernel
theorem dL_law_3 : decode cL_law 3 = .ok (.dup, 1) := by decide +kernel
theorem dL_law_4 : decode cL_law 4 = .ok (.invokespecial 9, 3) := by decide +kernel
theorem dL_law_7 : decode cL_law 7 = .ok (.astore_n 1, 1) := by decide +kernel
theorem dL_law_8 : decode cL_law 8 = .ok (.new 10, 3) := by decide +kernel
theorem dL_law_11 : decode cL_law 11 = .ok (.dup, 1) := by decide +kernel
theorem dL_law_12 : decode cL_law 12 = .ok (.invokespecial 12, 3) := by decide +kernel
theorem dL_law_15 : decode cL_law 15 = .ok (.astore_n 2, 1) := by decide +kernel
theorem dL_law_16 : decode cL_law 16 = .ok (.iconst 0, 1) := by decide +kernel
theorem dL_law_17 : decode cL_law 17 = .ok (.istore_n 3, 1) := by decide +kernel
theorem dL_law_18 : decode cL_law 18 = .ok (.iload_n 3, 1) := by decide +kernel
theorem dL_law_19 : decode cL_law 19 = .ok (.aload_n 0, 1) := by decide +kernel
theorem dL_law_20 : decode cL_law 20 = .ok (.arraylength, 1) := by decide +kernel
theorem dL_law_21 : decode cL_law 21 = .ok (.iconst 5, 1) := by decide +kernel
theorem dL_law_22 : decode cL_law 22 = .ok (.isub, 1) := by decide +kernel
theorem dL_law_23 : decode cL_law 23 = .ok (.if_icmp .gt 941, 3) := by decide +kernel
theorem dL_law_26 : decode cL_law 26 = .ok (.aload_n 0, 1) := by decide +kernel
theorem dL_law_27 : decode cL_law 27 = .ok (.iload_n 3, 1) := by decide +kernel
theorem dL_law_28 : decode cL_law 28 = .ok (.iaload, 1) := by decide +kernel
theorem dL_law_29 : decode cL_law 29 = .ok (.bipush 31, 2) := by decide +kernel
theorem dL_law_31 : decode cL_law 31 = .ok (.iand, 1) := by decide +kernel
theorem dL_law_32 : decode cL_law 32 = .ok (.tableswitch 926 0 25 #[120, 173, 216, 239, 252, 265, 288, 321, 354, 377, 400, 413, 467, 510, 563, 596, 655, 668, 691, 714, 747, 791, 814, 857, 880, 903], 120) := by decide +kernel
theorem dL_law_152 : decode cL_law 152 = .ok (.aload_n 1, 1) := by decide +kernel
theorem dL_law_153 : decode cL_law 153 = .ok (.aload_n 0, 1) := by decide +kernel
theorem dL_law_154 : decode cL_law 154 = .ok (.iload_n 3, 1) := by decide +kernel
theorem dL_law_155 : decode cL_law 155 = .ok (.iconst 1, 1) := by decide +kernel
theorem dL_law_156 : decode cL_law 156 = .ok (.iadd, 1) := by decide +kernel
theorem dL_law_157 : decode cL_law 157 = .ok (.iaload, 1) := by decide +kernel
theorem dL_law_158 : decode cL_law 158 = .ok (.aload_n 0, 1) := by decide +kernel
theorem dL_law_159 : decode cL_law 159 = .ok (.iload_n 3, 1) := by decide +kernel
theorem dL_law_160 : decode cL_law 160 = .ok (.iconst 2, 1) := by decide +kernel
theorem dL_law_161 : decode cL_law 161 = .ok (.iadd, 1) := by decide +kernel
theorem dL_law_162 : decode cL_law 162 = .ok (.iaload, 1) := by decide +kernel
theorem dL_law_163 : decode cL_law 163 = .ok (.aload_n 0, 1) := by decide +kernel
theorem dL_law_164 : decode cL_law 164 = .ok (.iload_n 3, 1) := by decide +kernel
theorem dL_law_165 : decode cL_law 165 = .ok (.iconst 3, 1) := by decide +kernel
theorem dL_law_166 : decode cL_law 166 = .ok (.iadd, 1) := by decide +kernel
theorem dL_law_167 : decode cL_law 167 = .ok (.iaload, 1) := by decide +kernel
theorem dL_law_168 : decode cL_law 168 = .ok (.aload_n 0, 1) := by decide +kernel
theorem dL_law_169 : decode cL_law 169 = .ok (.iload_n 3, 1) := by decide +kernel
theorem dL_law_170 : decode cL_law 170 = .ok (.iconst 4, 1) := by decide +kernel
theorem dL_law_171 : decode cL_law 171 = .ok (.iadd, 1) := by decide +kernel
theorem dL_law_172 : decode cL_law 172 = .ok (.iaload, 1) := by decide +kernel
theorem dL_law_173 : decode cL_law 173 = .ok (.invokevirtual 13, 3) := by decide +kernel
theorem dL_law_176 : decode cL_law 176 = .ok (.aload_n 2, 1) := by decide +kernel
theorem dL_law_177 : decode cL_law 177 = .ok (.aload_n 0, 1) := by decide +kernel
theorem dL_law_178 : decode cL_law 178 = .ok (.iload_n 3, 1) := by decide +kernel
theorem dL_law_179 : decode cL_law 179 = .ok (.iconst 1, 1) := by decide +kernel
theorem dL_law_180 : decode cL_law 180 = .ok (.iadd, 1) := by decide +kernel
theorem dL_law_181 : decode cL_law 181 = .ok (.iaload, 1) := by decide +kernel
theorem dL_law_182 : decode cL_law 182 = .ok (.aload_n 0, 1) := by decide +kernel
theorem dL_law_183 : decode cL_law 183 = .ok (.iload_n 3, 1) := by decide +kernel
theorem dL_law_184 : decode cL_law 184 = .ok (.iconst 2, 1) := by decide +kernel
theorem dL_law_185 : decode cL_law 185 = .ok (.iadd, 1) := by decide +kernel
theorem dL_law_186 : decode cL_law 186 = .ok (.iaload, 1) := by decide +kernel
theorem dL_law_187 : decode cL_law 187 = .ok (.aload_n 0, 1) := by decide +kernel
theorem dL_law_188 : decode cL_law 188 = .ok (.iload_n 3, 1) := by decide +kernel
theorem dL_law_189 : decode cL_law 189 = .ok (.iconst 3, 1) := by decide +kernel
theorem dL_law_190 : decode cL_law 190 = .ok (.iadd, 1) := by decide +kernel
theorem dL_law_191 : decode cL_law 191 = .ok (.iaload, 1) := by decide +kernel
theorem dL_law_192 : decode cL_law 192 = .ok (.aload_n 0, 1) := by decide +kernel
theorem dL_law_193 : decode cL_law 193 = .ok (.iload_n 3, 1) := by decide +kernel
theorem dL_law_194 : decode cL_law 194 = .ok (.iconst 4, 1) := by decide +kernel
theorem dL_law_195 : decode cL_law 195 = .ok (.iadd, 1) := by decide +kernel
theorem dL_law_196 : decode cL_law 196 = .ok (.iaload, 1) := by decide +kernel
theorem dL_law_197 : decode cL_law 197 = .ok (.invokevirtual 17, 3) := by decide +kernel
theorem dL_law_200 : decode cL_law 200 = .ok (.if_icmp .eq 758, 3) := by decide +kernel
theorem dL_law_203 : decode cL_law 203 = .ok (.iconst 0, 1) := by decide +kernel
theorem dL_law_204 : decode cL_law 204 = .ok (.ireturn, 1) := by decide +kernel
theorem dL_law_205 : decode cL_law 205 = .ok (.aload_n 1, 1) := by decide +kernel
theorem dL_law_206 : decode cL_law 206 = .ok (.aload_n 0, 1) := by decide +kernel
theorem dL_law_207 : decode cL_law 207 = .ok (.iload_n 3, 1) := by decide +kernel
theorem dL_law_208 : decode cL_law 208 = .ok (.iconst 1, 1) := by decide +kernel
theorem dL_law_209 : decode cL_law 209 = .ok (.iadd, 1) := by decide +kernel
theorem dL_law_210 : decode cL_law 210 = .ok (.iaload, 1) := by decide +kernel
theorem dL_law_211 : decode cL_law 211 = .ok (.aload_n 0, 1) := by decide +kernel
theorem dL_law_212 : decode cL_law 212 = .ok (.iload_n 3, 1) := by decide +kernel
theorem dL_law_213 : decode cL_law 213 = .ok (.iconst 2, 1) := by decide +kernel
theorem dL_law_214 : decode cL_law 214 = .ok (.iadd, 1) := by decide +kernel
theorem dL_law_215 : decode cL_law 215 = .ok (.iaload, 1) := by decide +kernel
theorem dL_law_216 : decode cL_law 216 = .ok (.aload_n 0, 1) := by decide +kernel
theorem dL_law_217 : decode cL_law 217 = .ok (.iload_n 3, 1) := by decide +kernel
theorem dL_law_218 : decode cL_law 218 = .ok (.iconst 3, 1) := by decide +kernel
theorem dL_law_219 : decode cL_law 219 = .ok (.iadd, 1) := by decide +kernel
theorem dL_law_220 : decode cL_law 220 = .ok (.iaload, 1) := by decide +kernel
theorem dL_law_221 : decode cL_law 221 = .ok (.invokevirtual 18, 3) := by decide +kernel
theorem dL_law_224 : decode cL_law 224 = .ok (.aload_n 2, 1) := by decide +kernel
theorem dL_law_225 : decode cL_law 225 = .ok (.aload_n 0, 1) := by decide +kernel
theorem dL_law_226 : decode cL_law 226 = .ok (.iload_n 3, 1) := by decide +kernel
theorem dL_law_227 : decode cL_law 227 = .ok (.iconst 1, 1) := by decide +kernel
theorem dL_law_228 : decode cL_law 228 = .ok (.iadd, 1) := by decide +kernel
theorem dL_law_229 : decode cL_law 229 = .ok (.iaload, 1) := by decide +kernel
theorem dL_law_230 : decode cL_law 230 = .ok (.aload_n 0, 1) := by decide +kernel
theorem dL_law_231 : decode cL_law 231 = .ok (.iload_n 3, 1) := by decide +kernel
theorem dL_law_232 : decode cL_law 232 = .ok (.iconst 2, 1) := by decide +kernel
theorem dL_law_233 : decode cL_law 233 = .ok (.iadd, 1) := by decide +kernel
theorem dL_law_234 : decode cL_law 234 = .ok (.iaload, 1) := by decide +kernel
theorem dL_law_235 : decode cL_law 235 = .ok (.aload_n 0, 1) := by decide +kernel
theorem dL_law_236 : decode cL_law 236 = .ok (.iload_n 3, 1) := by decide +kernel
theorem dL_law_237 : decode cL_law 237 = .ok (.iconst 3, 1) := by decide +kernel
theorem dL_law_238 : decode cL_law 238 = .ok (.iadd, 1) := by decide +kernel
theorem dL_law_239 : decode cL_law 239 = .ok (.iaload, 1) := by decide +kernel
theorem dL_law_240 : decode cL_law 240 = .ok (.invokevirtual 22, 3) := by decide +kernel
theorem dL_law_243 : decode cL_law 243 = .ok (.if_icmp .eq 715, 3) := by decide +kernel
theorem dL_law_246 : decode cL_law 246 = .ok (.iconst 0, 1) := by decide +kernel
theorem dL_law_247 : decode cL_law 247 = .ok (.ireturn, 1) := by decide +kernel
theorem dL_law_248 : decode cL_law 248 = .ok (.aload_n 1, 1) := by decide +kernel
theorem dL_law_249 : decode cL_law 249 = .ok (.aload_n 0, 1) := by decide +kernel
theorem dL_law_250 : decode cL_law 250 = .ok (.iload_n 3, 1) := by decide +kernel
theorem dL_law_251 : decode cL_law 251 = .ok (.iconst 1, 1) := by decide +kernel
theorem dL_law_252 : decode cL_law 252 = .ok (.iadd, 1) := by decide +kernel
theorem dL_law_253 : decode cL_law 253 = .ok (.iaload, 1) := by decide +kernel
theorem dL_law_254 : decode cL_law 254 = .ok (.invokevirtual 23, 3) := by decide +kernel
theorem dL_law_257 : decode cL_law 257 = .ok (.aload_n 2, 1) := by decide +kernel
theorem dL_law_258 : decode cL_law 258 = .ok (.aload_n 0, 1) := by decide +kernel
theorem dL_law_259 : decode cL_law 259 = .ok (.iload_n 3, 1) := by decide +kernel
theorem dL_law_260 : decode cL_law 260 = .ok (.iconst 1, 1) := by decide +kernel
theorem dL_law_261 : decode cL_law 261 = .ok (.iadd, 1) := by decide +kernel
theorem dL_law_262 : decode cL_law 262 = .ok (.iaload, 1) := by decide +kernel
theorem dL_law_263 : decode cL_law 263 = .ok (.invokevirtual 27, 3) := by decide +kernel
theorem dL_law_266 : decode cL_law 266 = .ok (.if_icmp .eq 692, 3) := by decide +kernel
theorem dL_law_269 : decode cL_law 269 = .ok (.iconst 0, 1) := by decide +kernel
theorem dL_law_270 : decode cL_law 270 = .ok (.ireturn, 1) := by decide +kernel
theorem dL_law_271 : decode cL_law 271 = .ok (.aload_n 1, 1) := by decide +kernel
theorem dL_law_272 : decode cL_law 272 = .ok (.invokevirtual 28, 3) := by decide +kernel
theorem dL_law_275 : decode cL_law 275 = .ok (.aload_n 2, 1) := by decide +kernel
theorem dL_law_276 : decode cL_law 276 = .ok (.invokevirtual 32, 3) := by decide +kernel
theorem dL_law_279 : decode cL_law 279 = .ok (.if_icmp .eq 679, 3) := by decide +kernel
theorem dL_law_282 : decode cL_law 282 = .ok (.iconst 0, 1) := by decide +kernel
theorem dL_law_283 : decode cL_law 283 = .ok (.ireturn, 1) := by decide +kernel
theorem dL_law_284 : decode cL_law 284 = .ok (.aload_n 1, 1) := by decide +kernel
theorem dL_law_285 : decode cL_law 285 = .ok (.invokevirtual 33, 3) := by decide +kernel
theorem dL_law_288 : decode cL_law 288 = .ok (.aload_n 2, 1) := by decide +kernel
theorem dL_law_289 : decode cL_law 289 = .ok (.invokevirtual 36, 3) := by decide +kernel
theorem dL_law_292 : decode cL_law 292 = .ok (.if_icmp .eq 666, 3) := by decide +kernel
theorem dL_law_295 : decode cL_law 295 = .ok (.iconst 0, 1) := by decide +kernel
theorem dL_law_296 : decode cL_law 296 = .ok (.ireturn, 1) := by decide +kernel
theorem dL_law_297 : decode cL_law 297 = .ok (.aload_n 1, 1) := by decide +kernel
theorem dL_law_298 : decode cL_law 298 = .ok (.aload_n 0, 1) := by decide +kernel
theorem dL_law_299 : decode cL_law 299 = .ok (.iload_n 3, 1) := by decide +kernel
theorem dL_law_300 : decode cL_law 300 = .ok (.iconst 1, 1) := by decide +kernel
theorem dL_law_301 : decode cL_law 301 = .ok (.iadd, 1) := by decide +kernel
theorem dL_law_302 : decode cL_law 302 = .ok (.iaload, 1) := by decide +kernel
theorem dL_law_303 : decode cL_law 303 = .ok (.invokevirtual 37, 3) := by decide +kernel
theorem dL_law_306 : decode cL_law 306 = .ok (.aload_n 2, 1) := by decide +kernel
theorem dL_law_307 : decode cL_law 307 = .ok (.aload_n 0, 1) := by decide +kernel
theorem dL_law_308 : decode cL_law 308 = .ok (.iload_n 3, 1) := by decide +kernel
theorem dL_law_309 : decode cL_law 309 = .ok (.iconst 1, 1) := by decide +kernel
theorem dL_law_310 : decode cL_law 310 = .ok (.iadd, 1) := by decide +kernel
theorem dL_law_311 : decode cL_law 311 = .ok (.iaload, 1) := by decide +kernel
theorem dL_law_312 : decode cL_law 312 = .ok (.invokevirtual 40, 3) := by decide +kernel
theorem dL_law_315 : decode cL_law 315 = .ok (.if_icmp .eq 643, 3) := by decide +kernel
theorem dL_law_318 : decode cL_law 318 = .ok (.iconst 0, 1) := by decide +kernel
theorem dL_law_319 : decode cL_law 319 = .ok (.ireturn, 1) := by decide +kernel
theorem dL_law_320 : decode cL_law 320 = .ok (.aload_n 1, 1) := by decide +kernel
theorem dL_law_321 : decode cL_law 321 = .ok (.aload_n 0, 1) := by decide +kernel
theorem dL_law_322 : decode cL_law 322 = .ok (.iload_n 3, 1) := by decide +kernel
theorem dL_law_323 : decode cL_law 323 = .ok (.iconst 1, 1) := by decide +kernel
theorem dL_law_324 : decode cL_law 324 = .ok (.iadd, 1) := by decide +kernel
theorem dL_law_325 : decode cL_law 325 = .ok (.iaload, 1) := by decide +kernel
theorem dL_law_326 : decode cL_law 326 = .ok (.aload_n 0, 1) := by decide +kernel
theorem dL_law_327 : decode cL_law 327 = .ok (.iload_n 3, 1) := by decide +kernel
theorem dL_law_328 : decode cL_law 328 = .ok (.iconst 2, 1) := by decide +kernel
theorem dL_law_329 : decode cL_law 329 = .ok (.iadd, 1) := by decide +kernel
theorem dL_law_330 : decode cL_law 330 = .ok (.iaload, 1) := by decide +kernel
theorem dL_law_331 : decode cL_law 331 = .ok (.invokevirtual 41, 3) := by decide +kernel
theorem dL_law_334 : decode cL_law 334 = .ok (.aload_n 2, 1) := by decide +kernel
theorem dL_law_335 : decode cL_law 335 = .ok (.aload_n 0, 1) := by decide +kernel
theorem dL_law_336 : decode cL_law 336 = .ok (.iload_n 3, 1) := by decide +kernel
theorem dL_law_337 : decode cL_law 337 = .ok (.iconst 1, 1) := by decide +kernel
theorem dL_law_338 : decode cL_law 338 = .ok (.iadd, 1) := by decide +kernel
theorem dL_law_339 : decode cL_law 339 = .ok (.iaload, 1) := by decide +kernel
theorem dL_law_340 : decode cL_law 340 = .ok (.aload_n 0, 1) := by decide +kernel
theorem dL_law_341 : decode cL_law 341 = .ok (.iload_n 3, 1) := by decide +kernel
theorem dL_law_342 : decode cL_law 342 = .ok (.iconst 2, 1) := by decide +kernel
theorem dL_law_343 : decode cL_law 343 = .ok (.iadd, 1) := by decide +kernel
theorem dL_law_344 : decode cL_law 344 = .ok (.iaload, 1) := by decide +kernel
theorem dL_law_345 : decode cL_law 345 = .ok (.invokevirtual 45, 3) := by decide +kernel
theorem dL_law_348 : decode cL_law 348 = .ok (.if_icmp .eq 610, 3) := by decide +kernel
theorem dL_law_351 : decode cL_law 351 = .ok (.iconst 0, 1) := by decide +kernel
theorem dL_law_352 : decode cL_law 352 = .ok (.ireturn, 1) := by decide +kernel
theorem dL_law_353 : decode cL_law 353 = .ok (.aload_n 1, 1) := by decide +kernel
theorem dL_law_354 : decode cL_law 354 = .ok (.aload_n 0, 1) := by decide +kernel
theorem dL_law_355 : decode cL_law 355 = .ok (.iload_n 3, 1) := by decide +kernel
theorem dL_law_356 : decode cL_law 356 = .ok (.iconst 1, 1) := by decide +kernel
theorem dL_law_357 : decode cL_law 357 = .ok (.iadd, 1) := by decide +kernel
theorem dL_law_358 : decode cL_law 358 = .ok (.iaload, 1) := by decide +kernel
theorem dL_law_359 : decode cL_law 359 = .ok (.aload_n 0, 1) := by decide +kernel
theorem dL_law_360 : decode cL_law 360 = .ok (.iload_n 3, 1) := by decide +kernel
theorem dL_law_361 : decode cL_law 361 = .ok (.iconst 2, 1) := by decide +kernel
theorem dL_law_362 : decode cL_law 362 = .ok (.iadd, 1) := by decide +kernel
theorem dL_law_363 : decode cL_law 363 = .ok (.iaload, 1) := by decide +kernel
theorem dL_law_364 : decode cL_law 364 = .ok (.invokevirtual 46, 3) := by decide +kernel
theorem dL_law_367 : decode cL_law 367 = .ok (.aload_n 2, 1) := by decide +kernel
theorem dL_law_368 : decode cL_law 368 = .ok (.aload_n 0, 1) := by decide +kernel
theorem dL_law_369 : decode cL_law 369 = .ok (.iload_n 3, 1) := by decide +kernel
theorem dL_law_370 : decode cL_law 370 = .ok (.iconst 1, 1) := by decide +kernel
theorem dL_law_371 : decode cL_law 371 = .ok (.iadd, 1) := by decide +kernel
theorem dL_law_372 : decode cL_law 372 = .ok (.iaload, 1) := by decide +kernel
theorem dL_law_373 : decode cL_law 373 = .ok (.aload_n 0, 1) := by decide +kernel
theorem dL_law_374 : decode cL_law 374 = .ok (.iload_n 3, 1) := by decide +kernel
theorem dL_law_375 : decode cL_law 375 = .ok (.iconst 2, 1) := by decide +kernel
theorem dL_law_376 : decode cL_law 376 = .ok (.iadd, 1) := by decide +kernel
theorem dL_law_377 : decode cL_law 377 = .ok (.iaload, 1) := by decide +kernel
theorem dL_law_378 : decode cL_law 378 = .ok (.invokevirtual 49, 3) := by decide +kernel
theorem dL_law_381 : decode cL_law 381 = .ok (.if_icmp .eq 577, 3) := by decide +kernel
theorem dL_law_384 : decode cL_law 384 = .ok (.iconst 0, 1) := by decide +kernel
theorem dL_law_385 : decode cL_law 385 = .ok (.ireturn, 1) := by decide +kernel
theorem dL_law_386 : decode cL_law 386 = .ok (.aload_n 1, 1) := by decide +kernel
theorem dL_law_387 : decode cL_law 387 = .ok (.aload_n 0, 1) := by decide +kernel
theorem dL_law_388 : decode cL_law 388 = .ok (.iload_n 3, 1) := by decide +kernel
theorem dL_law_389 : decode cL_law 389 = .ok (.iconst 1, 1) := by decide +kernel
theorem dL_law_390 : decode cL_law 390 = .ok (.iadd, 1) := by decide +kernel
theorem dL_law_391 : decode cL_law 391 = .ok (.iaload, 1) := by decide +kernel
theorem dL_law_392 : decode cL_law 392 = .ok (.invokevirtual 50, 3) := by decide +kernel
theorem dL_law_395 : decode cL_law 395 = .ok (.aload_n 2, 1) := by decide +kernel
theorem dL_law_396 : decode cL_law 396 = .ok (.aload_n 0, 1) := by decide +kernel
theorem dL_law_397 : decode cL_law 397 = .ok (.iload_n 3, 1) := by decide +kernel
theorem dL_law_398 : decode cL_law 398 = .ok (.iconst 1, 1) := by decide +kernel
theorem dL_law_399 : decode cL_law 399 = .ok (.iadd, 1) := by decide +kernel
theorem dL_law_400 : decode cL_law 400 = .ok (.iaload, 1) := by decide +kernel
theorem dL_law_401 : decode cL_law 401 = .ok (.invokevirtual 53, 3) := by decide +kernel
theorem dL_law_404 : decode cL_law 404 = .ok (.if_icmp .eq 554, 3) := by decide +kernel
theorem dL_law_407 : decode cL_law 407 = .ok (.iconst 0, 1) := by decide +kernel
theorem dL_law_408 : decode cL_law 408 = .ok (.ireturn, 1) := by decide +kernel
theorem dL_law_409 : decode cL_law 409 = .ok (.aload_n 1, 1) := by decide +kernel
theorem dL_law_410 : decode cL_law 410 = .ok (.aload_n 0, 1) := by decide +kernel
theorem dL_law_411 : decode cL_law 411 = .ok (.iload_n 3, 1) := by decide +kernel
theorem dL_law_412 : decode cL_law 412 = .ok (.iconst 1, 1) := by decide +kernel
theorem dL_law_413 : decode cL_law 413 = .ok (.iadd, 1) := by decide +kernel
theorem dL_law_414 : decode cL_law 414 = .ok (.iaload, 1) := by decide +kernel
theorem dL_law_415 : decode cL_law 415 = .ok (.invokevirtual 54, 3) := by decide +kernel
theorem dL_law_418 : decode cL_law 418 = .ok (.aload_n 2, 1) := by decide +kernel
theorem dL_law_419 : decode cL_law 419 = .ok (.aload_n 0, 1) := by decide +kernel
theorem dL_law_420 : decode cL_law 420 = .ok (.iload_n 3, 1) := by decide +kernel
theorem dL_law_421 : decode cL_law 421 = .ok (.iconst 1, 1) := by decide +kernel
theorem dL_law_422 : decode cL_law 422 = .ok (.iadd, 1) := by decide +kernel
theorem dL_law_423 : decode cL_law 423 = .ok (.iaload, 1) := by decide +kernel
theorem dL_law_424 : decode cL_law 424 = .ok (.invokevirtual 57, 3) := by decide +kernel
theorem dL_law_427 : decode cL_law 427 = .ok (.if_icmp .eq 531, 3) := by decide +kernel
theorem dL_law_430 : decode cL_law 430 = .ok (.iconst 0, 1) := by decide +kernel
theorem dL_law_431 : decode cL_law 431 = .ok (.ireturn, 1) := by decide +kernel
theorem dL_law_432 : decode cL_law 432 = .ok (.aload_n 1, 1) := by decide +kernel
theorem dL_law_433 : decode cL_law 433 = .ok (.invokevirtual 58, 3) := by decide +kernel
theorem dL_law_436 : decode cL_law 436 = .ok (.aload_n 2, 1) := by decide +kernel
theorem dL_law_437 : decode cL_law 437 = .ok (.invokevirtual 61, 3) := by decide +kernel
theorem dL_law_440 : decode cL_law 440 = .ok (.if_icmp .eq 518, 3) := by decide +kernel
theorem dL_law_443 : decode cL_law 443 = .ok (.iconst 0, 1) := by decide +kernel
theorem dL_law_444 : decode cL_law 444 = .ok (.ireturn, 1) := by decide +kernel
theorem dL_law_445 : decode cL_law 445 = .ok (.aload_n 1, 1) := by decide +kernel
theorem dL_law_446 : decode cL_law 446 = .ok (.aload_n 0, 1) := by decide +kernel
theorem dL_law_447 : decode cL_law 447 = .ok (.iload_n 3, 1) := by decide +kernel
theorem dL_law_448 : decode cL_law 448 = .ok (.iconst 1, 1) := by decide +kernel
theorem dL_law_449 : decode cL_law 449 = .ok (.iadd, 1) := by decide +kernel
theorem dL_law_450 : decode cL_law 450 = .ok (.iaload, 1) := by decide +kernel
theorem dL_law_451 : decode cL_law 451 = .ok (.aload_n 0, 1) := by decide +kernel
theorem dL_law_452 : decode cL_law 452 = .ok (.iload_n 3, 1) := by decide +kernel
theorem dL_law_453 : decode cL_law 453 = .ok (.iconst 2, 1) := by decide +kernel
theorem dL_law_454 : decode cL_law 454 = .ok (.iadd, 1) := by decide +kernel
theorem dL_law_455 : decode cL_law 455 = .ok (.iaload, 1) := by decide +kernel
theorem dL_law_456 : decode cL_law 456 = .ok (.aload_n 0, 1) := by decide +kernel
theorem dL_law_457 : decode cL_law 457 = .ok (.iload_n 3, 1) := by decide +kernel
theorem dL_law_458 : decode cL_law 458 = .ok (.iconst 3, 1) := by decide +kernel
theorem dL_law_459 : decode cL_law 459 = .ok (.iadd, 1) := by decide +kernel
theorem dL_law_460 : decode cL_law 460 = .ok (.iaload, 1) := by decide +kernel
theorem dL_law_461 : decode cL_law 461 = .ok (.aload_n 0, 1) := by decide +kernel
theorem dL_law_462 : decode cL_law 462 = .ok (.iload_n 3, 1) := by decide +kernel
theorem dL_law_463 : decode cL_law 463 = .ok (.iconst 4, 1) := by decide +kernel
theorem dL_law_464 : decode cL_law 464 = .ok (.iadd, 1) := by decide +kernel
theorem dL_law_465 : decode cL_law 465 = .ok (.iaload, 1) := by decide +kernel
theorem dL_law_466 : decode cL_law 466 = .ok (.invokevirtual 62, 3) := by decide +kernel
theorem dL_law_469 : decode cL_law 469 = .ok (.aload_n 2, 1) := by decide +kernel
theorem dL_law_470 : decode cL_law 470 = .ok (.aload_n 0, 1) := by decide +kernel
theorem dL_law_471 : decode cL_law 471 = .ok (.iload_n 3, 1) := by decide +kernel
theorem dL_law_472 : decode cL_law 472 = .ok (.iconst 1, 1) := by decide +kernel
theorem dL_law_473 : decode cL_law 473 = .ok (.iadd, 1) := by decide +kernel
theorem dL_law_474 : decode cL_law 474 = .ok (.iaload, 1) := by decide +kernel
theorem dL_law_475 : decode cL_law 475 = .ok (.aload_n 0, 1) := by decide +kernel
theorem dL_law_476 : decode cL_law 476 = .ok (.iload_n 3, 1) := by decide +kernel
theorem dL_law_477 : decode cL_law 477 = .ok (.iconst 2, 1) := by decide +kernel
theorem dL_law_478 : decode cL_law 478 = .ok (.iadd, 1) := by decide +kernel
theorem dL_law_479 : decode cL_law 479 = .ok (.iaload, 1) := by decide +kernel
theorem dL_law_480 : decode cL_law 480 = .ok (.aload_n 0, 1) := by decide +kernel
theorem dL_law_481 : decode cL_law 481 = .ok (.iload_n 3, 1) := by decide +kernel
theorem dL_law_482 : decode cL_law 482 = .ok (.iconst 3, 1) := by decide +kernel
theorem dL_law_483 : decode cL_law 483 = .ok (.iadd, 1) := by decide +kernel
theorem dL_law_484 : decode cL_law 484 = .ok (.iaload, 1) := by decide +kernel
theorem dL_law_485 : decode cL_law 485 = .ok (.aload_n 0, 1) := by decide +kernel
theorem dL_law_486 : decode cL_law 486 = .ok (.iload_n 3, 1) := by decide +kernel
theorem dL_law_487 : decode cL_law 487 = .ok (.iconst 4, 1) := by decide +kernel
theorem dL_law_488 : decode cL_law 488 = .ok (.iadd, 1) := by decide +kernel
theorem dL_law_489 : decode cL_law 489 = .ok (.iaload, 1) := by decide +kernel
theorem dL_law_490 : decode cL_law 490 = .ok (.invokevirtual 66, 3) := by decide +kernel
theorem dL_law_493 : decode cL_law 493 = .ok (.lcmp, 1) := by decide +kernel
theorem dL_law_494 : decode cL_law 494 = .ok (.ifCond .eq 464, 3) := by decide +kernel
theorem dL_law_497 : decode cL_law 497 = .ok (.iconst 0, 1) := by decide +kernel
theorem dL_law_498 : decode cL_law 498 = .ok (.ireturn, 1) := by decide +kernel
theorem dL_law_499 : decode cL_law 499 = .ok (.aload_n 1, 1) := by decide +kernel
theorem dL_law_500 : decode cL_law 500 = .ok (.aload_n 0, 1) := by decide +kernel
theorem dL_law_501 : decode cL_law 501 = .ok (.iload_n 3, 1) := by decide +kernel
theorem dL_law_502 : decode cL_law 502 = .ok (.iconst 1, 1) := by decide +kernel
theorem dL_law_503 : decode cL_law 503 = .ok (.iadd, 1) := by decide +kernel
theorem dL_law_504 : decode cL_law 504 = .ok (.iaload, 1) := by decide +kernel
theorem dL_law_505 : decode cL_law 505 = .ok (.aload_n 0, 1) := by decide +kernel
theorem dL_law_506 : decode cL_law 506 = .ok (.iload_n 3, 1) := by decide +kernel
theorem dL_law_507 : decode cL_law 507 = .ok (.iconst 2, 1) := by decide +kernel
theorem dL_law_508 : decode cL_law 508 = .ok (.iadd, 1) := by decide +kernel
theorem dL_law_509 : decode cL_law 509 = .ok (.iaload, 1) := by decide +kernel
theorem dL_law_510 : decode cL_law 510 = .ok (.aload_n 0, 1) := by decide +kernel
theorem dL_law_511 : decode cL_law 511 = .ok (.iload_n 3, 1) := by decide +kernel
theorem dL_law_512 : decode cL_law 512 = .ok (.iconst 3, 1) := by decide +kernel
theorem dL_law_513 : decode cL_law 513 = .ok (.iadd, 1) := by decide +kernel
theorem dL_law_514 : decode cL_law 514 = .ok (.iaload, 1) := by decide +kernel
theorem dL_law_515 : decode cL_law 515 = .ok (.invokevirtual 67, 3) := by decide +kernel
theorem dL_law_518 : decode cL_law 518 = .ok (.aload_n 2, 1) := by decide +kernel
theorem dL_law_519 : decode cL_law 519 = .ok (.aload_n 0, 1) := by decide +kernel
theorem dL_law_520 : decode cL_law 520 = .ok (.iload_n 3, 1) := by decide +kernel
theorem dL_law_521 : decode cL_law 521 = .ok (.iconst 1, 1) := by decide +kernel
theorem dL_law_522 : decode cL_law 522 = .ok (.iadd, 1) := by decide +kernel
theorem dL_law_523 : decode cL_law 523 = .ok (.iaload, 1) := by decide +kernel
theorem dL_law_524 : decode cL_law 524 = .ok (.aload_n 0, 1) := by decide +kernel
theorem dL_law_525 : decode cL_law 525 = .ok (.iload_n 3, 1) := by decide +kernel
theorem dL_law_526 : decode cL_law 526 = .ok (.iconst 2, 1) := by decide +kernel
theorem dL_law_527 : decode cL_law 527 = .ok (.iadd, 1) := by decide +kernel
theorem dL_law_528 : decode cL_law 528 = .ok (.iaload, 1) := by decide +kernel
theorem dL_law_529 : decode cL_law 529 = .ok (.aload_n 0, 1) := by decide +kernel
theorem dL_law_530 : decode cL_law 530 = .ok (.iload_n 3, 1) := by decide +kernel
theorem dL_law_531 : decode cL_law 531 = .ok (.iconst 3, 1) := by decide +kernel
theorem dL_law_532 : decode cL_law 532 = .ok (.iadd, 1) := by decide +kernel
theorem dL_law_533 : decode cL_law 533 = .ok (.iaload, 1) := by decide +kernel
theorem dL_law_534 : decode cL_law 534 = .ok (.invokevirtual 70, 3) := by decide +kernel
theorem dL_law_537 : decode cL_law 537 = .ok (.if_icmp .eq 421, 3) := by decide +kernel
theorem dL_law_540 : decode cL_law 540 = .ok (.iconst 0, 1) := by decide +kernel
theorem dL_law_541 : decode cL_law 541 = .ok (.ireturn, 1) := by decide +kernel
theorem dL_law_542 : decode cL_law 542 = .ok (.aload_n 1, 1) := by decide +kernel
theorem dL_law_543 : decode cL_law 543 = .ok (.aload_n 0, 1) := by decide +kernel
theorem dL_law_544 : decode cL_law 544 = .ok (.iload_n 3, 1) := by decide +kernel
theorem dL_law_545 : decode cL_law 545 = .ok (.iconst 1, 1) := by decide +kernel
theorem dL_law_546 : decode cL_law 546 = .ok (.iadd, 1) := by decide +kernel
theorem dL_law_547 : decode cL_law 547 = .ok (.iaload, 1) := by decide +kernel
theorem dL_law_548 : decode cL_law 548 = .ok (.aload_n 0, 1) := by decide +kernel
theorem dL_law_549 : decode cL_law 549 = .ok (.iload_n 3, 1) := by decide +kernel
theorem dL_law_550 : decode cL_law 550 = .ok (.iconst 2, 1) := by decide +kernel
theorem dL_law_551 : decode cL_law 551 = .ok (.iadd, 1) := by decide +kernel
theorem dL_law_552 : decode cL_law 552 = .ok (.iaload, 1) := by decide +kernel
theorem dL_law_553 : decode cL_law 553 = .ok (.aload_n 0, 1) := by decide +kernel
theorem dL_law_554 : decode cL_law 554 = .ok (.iload_n 3, 1) := by decide +kernel
theorem dL_law_555 : decode cL_law 555 = .ok (.iconst 3, 1) := by decide +kernel
theorem dL_law_556 : decode cL_law 556 = .ok (.iadd, 1) := by decide +kernel
theorem dL_law_557 : decode cL_law 557 = .ok (.iaload, 1) := by decide +kernel
theorem dL_law_558 : decode cL_law 558 = .ok (.aload_n 0, 1) := by decide +kernel
theorem dL_law_559 : decode cL_law 559 = .ok (.iload_n 3, 1) := by decide +kernel
theorem dL_law_560 : decode cL_law 560 = .ok (.iconst 4, 1) := by decide +kernel
theorem dL_law_561 : decode cL_law 561 = .ok (.iadd, 1) := by decide +kernel
theorem dL_law_562 : decode cL_law 562 = .ok (.iaload, 1) := by decide +kernel
theorem dL_law_563 : decode cL_law 563 = .ok (.invokevirtual 71, 3) := by decide +kernel
theorem dL_law_566 : decode cL_law 566 = .ok (.aload_n 2, 1) := by decide +kernel
theorem dL_law_567 : decode cL_law 567 = .ok (.aload_n 0, 1) := by decide +kernel
theorem dL_law_568 : decode cL_law 568 = .ok (.iload_n 3, 1) := by decide +kernel
theorem dL_law_569 : decode cL_law 569 = .ok (.iconst 1, 1) := by decide +kernel
theorem dL_law_570 : decode cL_law 570 = .ok (.iadd, 1) := by decide +kernel
theorem dL_law_571 : decode cL_law 571 = .ok (.iaload, 1) := by decide +kernel
theorem dL_law_572 : decode cL_law 572 = .ok (.aload_n 0, 1) := by decide +kernel
theorem dL_law_573 : decode cL_law 573 = .ok (.iload_n 3, 1) := by decide +kernel
theorem dL_law_574 : decode cL_law 574 = .ok (.iconst 2, 1) := by decide +kernel
theorem dL_law_575 : decode cL_law 575 = .ok (.iadd, 1) := by decide +kernel
theorem dL_law_576 : decode cL_law 576 = .ok (.iaload, 1) := by decide +kernel
theorem dL_law_577 : decode cL_law 577 = .ok (.aload_n 0, 1) := by decide +kernel
theorem dL_law_578 : decode cL_law 578 = .ok (.iload_n 3, 1) := by decide +kernel
theorem dL_law_579 : decode cL_law 579 = .ok (.iconst 3, 1) := by decide +kernel
theorem dL_law_580 : decode cL_law 580 = .ok (.iadd, 1) := by decide +kernel
theorem dL_law_581 : decode cL_law 581 = .ok (.iaload, 1) := by decide +kernel
theorem dL_law_582 : decode cL_law 582 = .ok (.aload_n 0, 1) := by decide +kernel
theorem dL_law_583 : decode cL_law 583 = .ok (.iload_n 3, 1) := by decide +kernel
theorem dL_law_584 : decode cL_law 584 = .ok (.iconst 4, 1) := by decide +kernel
theorem dL_law_585 : decode cL_law 585 = .ok (.iadd, 1) := by decide +kernel
theorem dL_law_586 : decode cL_law 586 = .ok (.iaload, 1) := by decide +kernel
theorem dL_law_587 : decode cL_law 587 = .ok (.invokevirtual 74, 3) := by decide +kernel
theorem dL_law_590 : decode cL_law 590 = .ok (.if_icmp .eq 368, 3) := by decide +kernel
theorem dL_law_593 : decode cL_law 593 = .ok (.iconst 0, 1) := by decide +kernel
theorem dL_law_594 : decode cL_law 594 = .ok (.ireturn, 1) := by decide +kernel
theorem dL_law_595 : decode cL_law 595 = .ok (.aload_n 1, 1) := by decide +kernel
theorem dL_law_596 : decode cL_law 596 = .ok (.aload_n 0, 1) := by decide +kernel
theorem dL_law_597 : decode cL_law 597 = .ok (.iload_n 3, 1) := by decide +kernel
theorem dL_law_598 : decode cL_law 598 = .ok (.iconst 1, 1) := by decide +kernel
theorem dL_law_599 : decode cL_law 599 = .ok (.iadd, 1) := by decide +kernel
theorem dL_law_600 : decode cL_law 600 = .ok (.iaload, 1) := by decide +kernel
theorem dL_law_601 : decode cL_law 601 = .ok (.aload_n 0, 1) := by decide +kernel
theorem dL_law_602 : decode cL_law 602 = .ok (.iload_n 3, 1) := by decide +kernel
theorem dL_law_603 : decode cL_law 603 = .ok (.iconst 2, 1) := by decide +kernel
theorem dL_law_604 : decode cL_law 604 = .ok (.iadd, 1) := by decide +kernel
theorem dL_law_605 : decode cL_law 605 = .ok (.iaload, 1) := by decide +kernel
theorem dL_law_606 : decode cL_law 606 = .ok (.invokevirtual 75, 3) := by decide +kernel
theorem dL_law_609 : decode cL_law 609 = .ok (.aload_n 2, 1) := by decide +kernel
theorem dL_law_610 : decode cL_law 610 = .ok (.aload_n 0, 1) := by decide +kernel
theorem dL_law_611 : decode cL_law 611 = .ok (.iload_n 3, 1) := by decide +kernel
theorem dL_law_612 : decode cL_law 612 = .ok (.iconst 1, 1) := by decide +kernel
theorem dL_law_613 : decode cL_law 613 = .ok (.iadd, 1) := by decide +kernel
theorem dL_law_614 : decode cL_law 614 = .ok (.iaload, 1) := by decide +kernel
theorem dL_law_615 : decode cL_law 615 = .ok (.aload_n 0, 1) := by decide +kernel
theorem dL_law_616 : decode cL_law 616 = .ok (.iload_n 3, 1) := by decide +kernel
theorem dL_law_617 : decode cL_law 617 = .ok (.iconst 2, 1) := by decide +kernel
theorem dL_law_618 : decode cL_law 618 = .ok (.iadd, 1) := by decide +kernel
theorem dL_law_619 : decode cL_law 619 = .ok (.iaload, 1) := by decide +kernel
theorem dL_law_620 : decode cL_law 620 = .ok (.invokevirtual 78, 3) := by decide +kernel
theorem dL_law_623 : decode cL_law 623 = .ok (.if_icmp .eq 335, 3) := by decide +kernel
theorem dL_law_626 : decode cL_law 626 = .ok (.iconst 0, 1) := by decide +kernel
theorem dL_law_627 : decode cL_law 627 = .ok (.ireturn, 1) := by decide +kernel
theorem dL_law_628 : decode cL_law 628 = .ok (.aload_n 1, 1) := by decide +kernel
theorem dL_law_629 : decode cL_law 629 = .ok (.aload_n 0, 1) := by decide +kernel
theorem dL_law_630 : decode cL_law 630 = .ok (.iload_n 3, 1) := by decide +kernel
theorem dL_law_631 : decode cL_law 631 = .ok (.iconst 1, 1) := by decide +kernel
theorem dL_law_632 : decode cL_law 632 = .ok (.iadd, 1) := by decide +kernel
theorem dL_law_633 : decode cL_law 633 = .ok (.iaload, 1) := by decide +kernel
theorem dL_law_634 : decode cL_law 634 = .ok (.aload_n 0, 1) := by decide +kernel
theorem dL_law_635 : decode cL_law 635 = .ok (.iload_n 3, 1) := by decide +kernel
theorem dL_law_636 : decode cL_law 636 = .ok (.iconst 2, 1) := by decide +kernel
theorem dL_law_637 : decode cL_law 637 = .ok (.iadd, 1) := by decide +kernel
theorem dL_law_638 : decode cL_law 638 = .ok (.iaload, 1) := by decide +kernel
theorem dL_law_639 : decode cL_law 639 = .ok (.aload_n 0, 1) := by decide +kernel
theorem dL_law_640 : decode cL_law 640 = .ok (.iload_n 3, 1) := by decide +kernel
theorem dL_law_641 : decode cL_law 641 = .ok (.iconst 3, 1) := by decide +kernel
theorem dL_law_642 : decode cL_law 642 = .ok (.iadd, 1) := by decide +kernel
theorem dL_law_643 : decode cL_law 643 = .ok (.iaload, 1) := by decide +kernel
theorem dL_law_644 : decode cL_law 644 = .ok (.ifCond .eq 7, 3) := by decide +kernel
theorem dL_law_647 : decode cL_law 647 = .ok (.iconst 1, 1) := by decide +kernel
theorem dL_law_648 : decode cL_law 648 = .ok (.goto 4, 3) := by decide +kernel
theorem dL_law_651 : decode cL_law 651 = .ok (.iconst 0, 1) := by decide +kernel
theorem dL_law_652 : decode cL_law 652 = .ok (.invokevirtual 79, 3) := by decide +kernel
theorem dL_law_655 : decode cL_law 655 = .ok (.aload_n 2, 1) := by decide +kernel
theorem dL_law_656 : decode cL_law 656 = .ok (.aload_n 0, 1) := by decide +kernel
theorem dL_law_657 : decode cL_law 657 = .ok (.iload_n 3, 1) := by decide +kernel
theorem dL_law_658 : decode cL_law 658 = .ok (.iconst 1, 1) := by decide +kernel
theorem dL_law_659 : decode cL_law 659 = .ok (.iadd, 1) := by decide +kernel
theorem dL_law_660 : decode cL_law 660 = .ok (.iaload, 1) := by decide +kernel
theorem dL_law_661 : decode cL_law 661 = .ok (.aload_n 0, 1) := by decide +kernel
theorem dL_law_662 : decode cL_law 662 = .ok (.iload_n 3, 1) := by decide +kernel
theorem dL_law_663 : decode cL_law 663 = .ok (.iconst 2, 1) := by decide +kernel
theorem dL_law_664 : decode cL_law 664 = .ok (.iadd, 1) := by decide +kernel
theorem dL_law_665 : decode cL_law 665 = .ok (.iaload, 1) := by decide +kernel
theorem dL_law_666 : decode cL_law 666 = .ok (.aload_n 0, 1) := by decide +kernel
theorem dL_law_667 : decode cL_law 667 = .ok (.iload_n 3, 1) := by decide +kernel
theorem dL_law_668 : decode cL_law 668 = .ok (.iconst 3, 1) := by decide +kernel
theorem dL_law_669 : decode cL_law 669 = .ok (.iadd, 1) := by decide +kernel
theorem dL_law_670 : decode cL_law 670 = .ok (.iaload, 1) := by decide +kernel
theorem dL_law_671 : decode cL_law 671 = .ok (.ifCond .eq 7, 3) := by decide +kernel
theorem dL_law_674 : decode cL_law 674 = .ok (.iconst 1, 1) := by decide +kernel
theorem dL_law_675 : decode cL_law 675 = .ok (.goto 4, 3) := by decide +kernel
theorem dL_law_678 : decode cL_law 678 = .ok (.iconst 0, 1) := by decide +kernel
theorem dL_law_679 : decode cL_law 679 = .ok (.invokevirtual 83, 3) := by decide +kernel
theorem dL_law_682 : decode cL_law 682 = .ok (.if_icmp .eq 276, 3) := by decide +kernel
theorem dL_law_685 : decode cL_law 685 = .ok (.iconst 0, 1) := by decide +kernel
theorem dL_law_686 : decode cL_law 686 = .ok (.ireturn, 1) := by decide +kernel
theorem dL_law_687 : decode cL_law 687 = .ok (.aload_n 1, 1) := by decide +kernel
theorem dL_law_688 : decode cL_law 688 = .ok (.invokevirtual 84, 3) := by decide +kernel
theorem dL_law_691 : decode cL_law 691 = .ok (.aload_n 2, 1) := by decide +kernel
theorem dL_law_692 : decode cL_law 692 = .ok (.invokevirtual 87, 3) := by decide +kernel
theorem dL_law_695 : decode cL_law 695 = .ok (.if_icmp .eq 263, 3) := by decide +kernel
theorem dL_law_698 : decode cL_law 698 = .ok (.iconst 0, 1) := by decide +kernel
theorem dL_law_699 : decode cL_law 699 = .ok (.ireturn, 1) := by decide +kernel
theorem dL_law_700 : decode cL_law 700 = .ok (.aload_n 1, 1) := by decide +kernel
theorem dL_law_701 : decode cL_law 701 = .ok (.aload_n 0, 1) := by decide +kernel
theorem dL_law_702 : decode cL_law 702 = .ok (.iload_n 3, 1) := by decide +kernel
theorem dL_law_703 : decode cL_law 703 = .ok (.iconst 1, 1) := by decide +kernel
theorem dL_law_704 : decode cL_law 704 = .ok (.iadd, 1) := by decide +kernel
theorem dL_law_705 : decode cL_law 705 = .ok (.iaload, 1) := by decide +kernel
theorem dL_law_706 : decode cL_law 706 = .ok (.invokevirtual 88, 3) := by decide +kernel
theorem dL_law_709 : decode cL_law 709 = .ok (.aload_n 2, 1) := by decide +kernel
theorem dL_law_710 : decode cL_law 710 = .ok (.aload_n 0, 1) := by decide +kernel
theorem dL_law_711 : decode cL_law 711 = .ok (.iload_n 3, 1) := by decide +kernel
theorem dL_law_712 : decode cL_law 712 = .ok (.iconst 1, 1) := by decide +kernel
theorem dL_law_713 : decode cL_law 713 = .ok (.iadd, 1) := by decide +kernel
theorem dL_law_714 : decode cL_law 714 = .ok (.iaload, 1) := by decide +kernel
theorem dL_law_715 : decode cL_law 715 = .ok (.invokevirtual 91, 3) := by decide +kernel
theorem dL_law_718 : decode cL_law 718 = .ok (.if_icmp .eq 240, 3) := by decide +kernel
theorem dL_law_721 : decode cL_law 721 = .ok (.iconst 0, 1) := by decide +kernel
theorem dL_law_722 : decode cL_law 722 = .ok (.ireturn, 1) := by decide +kernel
theorem dL_law_723 : decode cL_law 723 = .ok (.aload_n 1, 1) := by decide +kernel
theorem dL_law_724 : decode cL_law 724 = .ok (.aload_n 0, 1) := by decide +kernel
theorem dL_law_725 : decode cL_law 725 = .ok (.iload_n 3, 1) := by decide +kernel
theorem dL_law_726 : decode cL_law 726 = .ok (.iconst 1, 1) := by decide +kernel
theorem dL_law_727 : decode cL_law 727 = .ok (.iadd, 1) := by decide +kernel
theorem dL_law_728 : decode cL_law 728 = .ok (.iaload, 1) := by decide +kernel
theorem dL_law_729 : decode cL_law 729 = .ok (.invokevirtual 92, 3) := by decide +kernel
theorem dL_law_732 : decode cL_law 732 = .ok (.aload_n 2, 1) := by decide +kernel
theorem dL_law_733 : decode cL_law 733 = .ok (.aload_n 0, 1) := by decide +kernel
theorem dL_law_734 : decode cL_law 734 = .ok (.iload_n 3, 1) := by decide +kernel
theorem dL_law_735 : decode cL_law 735 = .ok (.iconst 1, 1) := by decide +kernel
theorem dL_law_736 : decode cL_law 736 = .ok (.iadd, 1) := by decide +kernel
theorem dL_law_737 : decode cL_law 737 = .ok (.iaload, 1) := by decide +kernel
theorem dL_law_738 : decode cL_law 738 = .ok (.invokevirtual 95, 3) := by decide +kernel
theorem dL_law_741 : decode cL_law 741 = .ok (.if_icmp .eq 217, 3) := by decide +kernel
theorem dL_law_744 : decode cL_law 744 = .ok (.iconst 0, 1) := by decide +kernel
theorem dL_law_745 : decode cL_law 745 = .ok (.ireturn, 1) := by decide +kernel
theorem dL_law_746 : decode cL_law 746 = .ok (.aload_n 1, 1) := by decide +kernel
theorem dL_law_747 : decode cL_law 747 = .ok (.aload_n 0, 1) := by decide +kernel
theorem dL_law_748 : decode cL_law 748 = .ok (.iload_n 3, 1) := by decide +kernel
theorem dL_law_749 : decode cL_law 749 = .ok (.iconst 1, 1) := by decide +kernel
theorem dL_law_750 : decode cL_law 750 = .ok (.iadd, 1) := by decide +kernel
theorem dL_law_751 : decode cL_law 751 = .ok (.iaload, 1) := by decide +kernel
theorem dL_law_752 : decode cL_law 752 = .ok (.aload_n 0, 1) := by decide +kernel
theorem dL_law_753 : decode cL_law 753 = .ok (.iload_n 3, 1) := by decide +kernel
theorem dL_law_754 : decode cL_law 754 = .ok (.iconst 2, 1) := by decide +kernel
theorem dL_law_755 : decode cL_law 755 = .ok (.iadd, 1) := by decide +kernel
theorem dL_law_756 : decode cL_law 756 = .ok (.iaload, 1) := by decide +kernel
theorem dL_law_757 : decode cL_law 757 = .ok (.invokevirtual 96, 3) := by decide +kernel
theorem dL_law_760 : decode cL_law 760 = .ok (.aload_n 2, 1) := by decide +kernel
theorem dL_law_761 : decode cL_law 761 = .ok (.aload_n 0, 1) := by decide +kernel
theorem dL_law_762 : decode cL_law 762 = .ok (.iload_n 3, 1) := by decide +kernel
theorem dL_law_763 : decode cL_law 763 = .ok (.iconst 1, 1) := by decide +kernel
theorem dL_law_764 : decode cL_law 764 = .ok (.iadd, 1) := by decide +kernel
theorem dL_law_765 : decode cL_law 765 = .ok (.iaload, 1) := by decide +kernel
theorem dL_law_766 : decode cL_law 766 = .ok (.aload_n 0, 1) := by decide +kernel
theorem dL_law_767 : decode cL_law 767 = .ok (.iload_n 3, 1) := by decide +kernel
theorem dL_law_768 : decode cL_law 768 = .ok (.iconst 2, 1) := by decide +kernel
theorem dL_law_769 : decode cL_law 769 = .ok (.iadd, 1) := by decide +kernel
theorem dL_law_770 : decode cL_law 770 = .ok (.iaload, 1) := by decide +kernel
theorem dL_law_771 : decode cL_law 771 = .ok (.invokevirtual 99, 3) := by decide +kernel
theorem dL_law_774 : decode cL_law 774 = .ok (.if_icmp .eq 184, 3) := by decide +kernel
theorem dL_law_777 : decode cL_law 777 = .ok (.iconst 0, 1) := by decide +kernel
theorem dL_law_778 : decode cL_law 778 = .ok (.ireturn, 1) := by decide +kernel
theorem dL_law_779 : decode cL_law 779 = .ok (.aload_n 1, 1) := by decide +kernel
theorem dL_law_780 : decode cL_law 780 = .ok (.aload_n 0, 1) := by decide +kernel
theorem dL_law_781 : decode cL_law 781 = .ok (.iload_n 3, 1) := by decide +kernel
theorem dL_law_782 : decode cL_law 782 = .ok (.iconst 1, 1) := by decide +kernel
theorem dL_law_783 : decode cL_law 783 = .ok (.iadd, 1) := by decide +kernel
theorem dL_law_784 : decode cL_law 784 = .ok (.iaload, 1) := by decide +kernel
theorem dL_law_785 : decode cL_law 785 = .ok (.aload_n 0, 1) := by decide +kernel
theorem dL_law_786 : decode cL_law 786 = .ok (.iload_n 3, 1) := by decide +kernel
theorem dL_law_787 : decode cL_law 787 = .ok (.iconst 2, 1) := by decide +kernel
theorem dL_law_788 : decode cL_law 788 = .ok (.iadd, 1) := by decide +kernel
theorem dL_law_789 : decode cL_law 789 = .ok (.iaload, 1) := by decide +kernel
theorem dL_law_790 : decode cL_law 790 = .ok (.aload_n 0, 1) := by decide +kernel
theorem dL_law_791 : decode cL_law 791 = .ok (.iload_n 3, 1) := by decide +kernel
theorem dL_law_792 : decode cL_law 792 = .ok (.iconst 3, 1) := by decide +kernel
theorem dL_law_793 : decode cL_law 793 = .ok (.iadd, 1) := by decide +kernel
theorem dL_law_794 : decode cL_law 794 = .ok (.iaload, 1) := by decide +kernel
theorem dL_law_795 : decode cL_law 795 = .ok (.invokevirtual 100, 3) := by decide +kernel
theorem dL_law_798 : decode cL_law 798 = .ok (.aload_n 2, 1) := by decide +kernel
theorem dL_law_799 : decode cL_law 799 = .ok (.aload_n 0, 1) := by decide +kernel
theorem dL_law_800 : decode cL_law 800 = .ok (.iload_n 3, 1) := by decide +kernel
theorem dL_law_801 : decode cL_law 801 = .ok (.iconst 1, 1) := by decide +kernel
theorem dL_law_802 : decode cL_law 802 = .ok (.iadd, 1) := by decide +kernel
theorem dL_law_803 : decode cL_law 803 = .ok (.iaload, 1) := by decide +kernel
theorem dL_law_804 : decode cL_law 804 = .ok (.aload_n 0, 1) := by decide +kernel
theorem dL_law_805 : decode cL_law 805 = .ok (.iload_n 3, 1) := by decide +kernel
theorem dL_law_806 : decode cL_law 806 = .ok (.iconst 2, 1) := by decide +kernel
theorem dL_law_807 : decode cL_law 807 = .ok (.iadd, 1) := by decide +kernel
theorem dL_law_808 : decode cL_law 808 = .ok (.iaload, 1) := by decide +kernel
theorem dL_law_809 : decode cL_law 809 = .ok (.aload_n 0, 1) := by decide +kernel
theorem dL_law_810 : decode cL_law 810 = .ok (.iload_n 3, 1) := by decide +kernel
theorem dL_law_811 : decode cL_law 811 = .ok (.iconst 3, 1) := by decide +kernel
theorem dL_law_812 : decode cL_law 812 = .ok (.iadd, 1) := by decide +kernel
theorem dL_law_813 : decode cL_law 813 = .ok (.iaload, 1) := by decide +kernel
theorem dL_law_814 : decode cL_law 814 = .ok (.invokevirtual 104, 3) := by decide +kernel
theorem dL_law_817 : decode cL_law 817 = .ok (.lcmp, 1) := by decide +kernel
theorem dL_law_818 : decode cL_law 818 = .ok (.ifCond .eq 140, 3) := by decide +kernel
theorem dL_law_821 : decode cL_law 821 = .ok (.iconst 0, 1) := by decide +kernel
theorem dL_law_822 : decode cL_law 822 = .ok (.ireturn, 1) := by decide +kernel
theorem dL_law_823 : decode cL_law 823 = .ok (.aload_n 1, 1) := by decide +kernel
theorem dL_law_824 : decode cL_law 824 = .ok (.aload_n 0, 1) := by decide +kernel
theorem dL_law_825 : decode cL_law 825 = .ok (.iload_n 3, 1) := by decide +kernel
theorem dL_law_826 : decode cL_law 826 = .ok (.iconst 1, 1) := by decide +kernel
theorem dL_law_827 : decode cL_law 827 = .ok (.iadd, 1) := by decide +kernel
theorem dL_law_828 : decode cL_law 828 = .ok (.iaload, 1) := by decide +kernel
theorem dL_law_829 : decode cL_law 829 = .ok (.invokevirtual 105, 3) := by decide +kernel
theorem dL_law_832 : decode cL_law 832 = .ok (.aload_n 2, 1) := by decide +kernel
theorem dL_law_833 : decode cL_law 833 = .ok (.aload_n 0, 1) := by decide +kernel
theorem dL_law_834 : decode cL_law 834 = .ok (.iload_n 3, 1) := by decide +kernel
theorem dL_law_835 : decode cL_law 835 = .ok (.iconst 1, 1) := by decide +kernel
theorem dL_law_836 : decode cL_law 836 = .ok (.iadd, 1) := by decide +kernel
theorem dL_law_837 : decode cL_law 837 = .ok (.iaload, 1) := by decide +kernel
theorem dL_law_838 : decode cL_law 838 = .ok (.invokevirtual 108, 3) := by decide +kernel
theorem dL_law_841 : decode cL_law 841 = .ok (.if_icmp .eq 117, 3) := by decide +kernel
theorem dL_law_844 : decode cL_law 844 = .ok (.iconst 0, 1) := by decide +kernel
theorem dL_law_845 : decode cL_law 845 = .ok (.ireturn, 1) := by decide +kernel
theorem dL_law_846 : decode cL_law 846 = .ok (.aload_n 1, 1) := by decide +kernel
theorem dL_law_847 : decode cL_law 847 = .ok (.aload_n 0, 1) := by decide +kernel
theorem dL_law_848 : decode cL_law 848 = .ok (.iload_n 3, 1) := by decide +kernel
theorem dL_law_849 : decode cL_law 849 = .ok (.iconst 1, 1) := by decide +kernel
theorem dL_law_850 : decode cL_law 850 = .ok (.iadd, 1) := by decide +kernel
theorem dL_law_851 : decode cL_law 851 = .ok (.iaload, 1) := by decide +kernel
theorem dL_law_852 : decode cL_law 852 = .ok (.aload_n 0, 1) := by decide +kernel
theorem dL_law_853 : decode cL_law 853 = .ok (.iload_n 3, 1) := by decide +kernel
theorem dL_law_854 : decode cL_law 854 = .ok (.iconst 2, 1) := by decide +kernel
theorem dL_law_855 : decode cL_law 855 = .ok (.iadd, 1) := by decide +kernel
theorem dL_law_856 : decode cL_law 856 = .ok (.iaload, 1) := by decide +kernel
theorem dL_law_857 : decode cL_law 857 = .ok (.aload_n 0, 1) := by decide +kernel
theorem dL_law_858 : decode cL_law 858 = .ok (.iload_n 3, 1) := by decide +kernel
theorem dL_law_859 : decode cL_law 859 = .ok (.iconst 3, 1) := by decide +kernel
theorem dL_law_860 : decode cL_law 860 = .ok (.iadd, 1) := by decide +kernel
theorem dL_law_861 : decode cL_law 861 = .ok (.iaload, 1) := by decide +kernel
theorem dL_law_862 : decode cL_law 862 = .ok (.invokevirtual 109, 3) := by decide +kernel
theorem dL_law_865 : decode cL_law 865 = .ok (.aload_n 2, 1) := by decide +kernel
theorem dL_law_866 : decode cL_law 866 = .ok (.aload_n 0, 1) := by decide +kernel
theorem dL_law_867 : decode cL_law 867 = .ok (.iload_n 3, 1) := by decide +kernel
theorem dL_law_868 : decode cL_law 868 = .ok (.iconst 1, 1) := by decide +kernel
theorem dL_law_869 : decode cL_law 869 = .ok (.iadd, 1) := by decide +kernel
theorem dL_law_870 : decode cL_law 870 = .ok (.iaload, 1) := by decide +kernel
theorem dL_law_871 : decode cL_law 871 = .ok (.aload_n 0, 1) := by decide +kernel
theorem dL_law_872 : decode cL_law 872 = .ok (.iload_n 3, 1) := by decide +kernel
theorem dL_law_873 : decode cL_law 873 = .ok (.iconst 2, 1) := by decide +kernel
theorem dL_law_874 : decode cL_law 874 = .ok (.iadd, 1) := by decide +kernel
theorem dL_law_875 : decode cL_law 875 = .ok (.iaload, 1) := by decide +kernel
theorem dL_law_876 : decode cL_law 876 = .ok (.aload_n 0, 1) := by decide +kernel
theorem dL_law_877 : decode cL_law 877 = .ok (.iload_n 3, 1) := by decide +kernel
theorem dL_law_878 : decode cL_law 878 = .ok (.iconst 3, 1) := by decide +kernel
theorem dL_law_879 : decode cL_law 879 = .ok (.iadd, 1) := by decide +kernel
theorem dL_law_880 : decode cL_law 880 = .ok (.iaload, 1) := by decide +kernel
theorem dL_law_881 : decode cL_law 881 = .ok (.invokevirtual 112, 3) := by decide +kernel
theorem dL_law_884 : decode cL_law 884 = .ok (.if_icmp .eq 74, 3) := by decide +kernel
theorem dL_law_887 : decode cL_law 887 = .ok (.iconst 0, 1) := by decide +kernel
theorem dL_law_888 : decode cL_law 888 = .ok (.ireturn, 1) := by decide +kernel
theorem dL_law_889 : decode cL_law 889 = .ok (.aload_n 1, 1) := by decide +kernel
theorem dL_law_890 : decode cL_law 890 = .ok (.aload_n 0, 1) := by decide +kernel
theorem dL_law_891 : decode cL_law 891 = .ok (.iload_n 3, 1) := by decide +kernel
theorem dL_law_892 : decode cL_law 892 = .ok (.iconst 1, 1) := by decide +kernel
theorem dL_law_893 : decode cL_law 893 = .ok (.iadd, 1) := by decide +kernel
theorem dL_law_894 : decode cL_law 894 = .ok (.iaload, 1) := by decide +kernel
theorem dL_law_895 : decode cL_law 895 = .ok (.invokevirtual 113, 3) := by decide +kernel
theorem dL_law_898 : decode cL_law 898 = .ok (.aload_n 2, 1) := by decide +kernel
theorem dL_law_899 : decode cL_law 899 = .ok (.aload_n 0, 1) := by decide +kernel
theorem dL_law_900 : decode cL_law 900 = .ok (.iload_n 3, 1) := by decide +kernel
theorem dL_law_901 : decode cL_law 901 = .ok (.iconst 1, 1) := by decide +kernel
theorem dL_law_902 : decode cL_law 902 = .ok (.iadd, 1) := by decide +kernel
theorem dL_law_903 : decode cL_law 903 = .ok (.iaload, 1) := by decide +kernel
theorem dL_law_904 : decode cL_law 904 = .ok (.invokevirtual 116, 3) := by decide +kernel
theorem dL_law_907 : decode cL_law 907 = .ok (.if_icmp .eq 51, 3) := by decide +kernel
theorem dL_law_910 : decode cL_law 910 = .ok (.iconst 0, 1) := by decide +kernel
theorem dL_law_911 : decode cL_law 911 = .ok (.ireturn, 1) := by decide +kernel
theorem dL_law_912 : decode cL_law 912 = .ok (.aload_n 1, 1) := by decide +kernel
theorem dL_law_913 : decode cL_law 913 = .ok (.aload_n 0, 1) := by decide +kernel
theorem dL_law_914 : decode cL_law 914 = .ok (.iload_n 3, 1) := by decide +kernel
theorem dL_law_915 : decode cL_law 915 = .ok (.iconst 1, 1) := by decide +kernel
theorem dL_law_916 : decode cL_law 916 = .ok (.iadd, 1) := by decide +kernel
theorem dL_law_917 : decode cL_law 917 = .ok (.iaload, 1) := by decide +kernel
theorem dL_law_918 : decode cL_law 918 = .ok (.invokevirtual 117, 3) := by decide +kernel
theorem dL_law_921 : decode cL_law 921 = .ok (.aload_n 2, 1) := by decide +kernel
theorem dL_law_922 : decode cL_law 922 = .ok (.aload_n 0, 1) := by decide +kernel
theorem dL_law_923 : decode cL_law 923 = .ok (.iload_n 3, 1) := by decide +kernel
theorem dL_law_924 : decode cL_law 924 = .ok (.iconst 1, 1) := by decide +kernel
theorem dL_law_925 : decode cL_law 925 = .ok (.iadd, 1) := by decide +kernel
theorem dL_law_926 : decode cL_law 926 = .ok (.iaload, 1) := by decide +kernel
theorem dL_law_927 : decode cL_law 927 = .ok (.invokevirtual 120, 3) := by decide +kernel
theorem dL_law_930 : decode cL_law 930 = .ok (.if_icmp .eq 28, 3) := by decide +kernel
theorem dL_law_933 : decode cL_law 933 = .ok (.iconst 0, 1) := by decide +kernel
theorem dL_law_934 : decode cL_law 934 = .ok (.ireturn, 1) := by decide +kernel
theorem dL_law_935 : decode cL_law 935 = .ok (.aload_n 1, 1) := by decide +kernel
theorem dL_law_936 : decode cL_law 936 = .ok (.aload_n 0, 1) := by decide +kernel
theorem dL_law_937 : decode cL_law 937 = .ok (.iload_n 3, 1) := by decide +kernel
theorem dL_law_938 : decode cL_law 938 = .ok (.iconst 1, 1) := by decide +kernel
theorem dL_law_939 : decode cL_law 939 = .ok (.iadd, 1) := by decide +kernel
theorem dL_law_940 : decode cL_law 940 = .ok (.iaload, 1) := by decide +kernel
theorem dL_law_941 : decode cL_law 941 = .ok (.invokevirtual 121, 3) := by decide +kernel
theorem dL_law_944 : decode cL_law 944 = .ok (.aload_n 2, 1) := by decide +kernel
theorem dL_law_945 : decode cL_law 945 = .ok (.aload_n 0, 1) := by decide +kernel
theorem dL_law_946 : decode cL_law 946 = .ok (.iload_n 3, 1) := by decide +kernel
theorem dL_law_947 : decode cL_law 947 = .ok (.iconst 1, 1) := by decide +kernel
theorem dL_law_948 : decode cL_law 948 = .ok (.iadd, 1) := by decide +kernel
theorem dL_law_949 : decode cL_law 949 = .ok (.iaload, 1) := by decide +kernel
theorem dL_law_950 : decode cL_law 950 = .ok (.invokevirtual 124, 3) := by decide +kernel
theorem dL_law_953 : decode cL_law 953 = .ok (.if_icmp .eq 5, 3) := by decide +kernel
theorem dL_law_956 : decode cL_law 956 = .ok (.iconst 0, 1) := by decide +kernel
theorem dL_law_957 : decode cL_law 957 = .ok (.ireturn, 1) := by decide +kernel
theorem dL_law_958 : decode cL_law 958 = .ok (.iinc 3 5, 3) := by decide +kernel
theorem dL_law_961 : decode cL_law 961 = .ok (.goto (-943), 3) := by decide +kernel
theorem dL_law_964 : decode cL_law 964 = .ok (.iconst 1, 1) := by decide +kernel
theorem dL_law_965 : decode cL_law 965 = .ok (.ireturn, 1) := by decide +kernel
end
section
def tb : List Cond := lw_tbl.filter goodWord
theorem tb_of {w : Cond} (h : w ∈ lw_tbl) (hg : goodWord w = true) : w ∈ tb := List.mem_filter.mpr ⟨h, hg⟩
theorem tb_lw {w : Cond} (h : w ∈ tb) : w ∈ lw_tbl := (List.mem_filter.mp h).1
theorem tb_good {y : Cond} {ws : List Cond} (h : ∀ w ∈ ws, w ∈ tb) : GoodIn (y :: tb) ws := fun w hw => ⟨List.mem_cons_of_mem _ (h w hw), good_of_word (List.mem_filter.mp (h w hw)).2⟩
end
section
theorem tw_0 : Cond.initialized RL ∈ tb := tb_of (List.mem_of_getElem? (i := 46) (by decide +kernel)) (by decide +kernel)
theorem tw_1 : Cond.initialized RX8 ∈ tb := tb_of (List.mem_of_getElem? (i := 47) (by decide +kernel)) (by decide +kernel)
theorem tw_2 : Cond.initialized RX0 ∈ tb := tb_of (List.mem_of_getElem? (i := 48) (by decide +kernel)) (by decide +kernel)
theorem tw_3 : Cond.initialized RX6 ∈ tb := tb_of (List.mem_of_getElem? (i := 49) (by decide +kernel)) (by decide +kernel)
theorem tw_4 : Cond.initialized RX2 ∈ tb := tb_of (List.mem_of_getElem? (i := 50) (by decide +kernel)) (by decide +kernel)
theorem tw_5 : Cond.initialized RX7 ∈ tb := tb_of (List.mem_of_getElem? (i := 51) (by decide +kernel)) (by decide +kernel)
theorem tw_6 : Cond.initialized RX4 ∈ tb := tb_of (List.mem_of_getElem? (i := 52) (by decide +kernel)) (by decide +kernel)
theorem tw_7 : Cond.initialized RX9 ∈ tb := tb_of (List.mem_of_getElem? (i := 53) (by decide +kernel)) (by decide +kernel)
theorem tw_8 : Cond.initialized "java/lang/System" ∈ tb := tb_of (List.mem_of_getElem? (i := 54) (by decide +kernel)) (by decide +kernel)
theorem tw_9 : Cond.initialized RX5 ∈ tb := tb_of (List.mem_of_getElem? (i := 55) (by decide +kernel)) (by decide +kernel)
theorem tw_10 : Cond.initialized "java/lang/Math" ∈ tb := tb_of (List.mem_of_getElem? (i := 56) (by decide +kernel)) (by decide +kernel)
theorem tw_11 : Cond.initialized RX1 ∈ tb := tb_of (List.mem_of_getElem? (i := 57) (by decide +kernel)) (by decide +kernel)
theorem tw_12 : Cond.initialized RX3 ∈ tb := tb_of (List.mem_of_getElem? (i := 58) (by decide +kernel)) (by decide +kernel)
theorem tw_13 : Cond.classLink RL 7 RX8 ∈ tb := tb_of (List.mem_of_getElem? (i := 59) (by decide +kernel)) (by decide +kernel)
theorem tw_14 : Cond.instantiable RX8 8 ∈ tb := tb_of (List.mem_of_getElem? (i := 60) (by decide +kernel)) (by decide +kernel)
theorem tw_15 : Cond.methodLink RL 9 yX8_init ∈ tb := tb_of (List.mem_of_getElem? (i := 61) (by decide +kernel)) (by decide +kernel)
theorem tw_16 : Cond.instanceMethod yX8_init ∈ tb := tb_of (List.mem_of_getElem? (i := 62) (by decide +kernel)) (by decide +kernel)
theorem tw_17 : Cond.code yX8_init cX8_init 2 none ∈ tb := tb_of (List.mem_of_getElem? (i := 63) (by decide +kernel)) (by decide +kernel)
theorem tw_18 : Cond.methodLink RX8 1 objectInit ∈ tb := tb_of (List.mem_of_getElem? (i := 64) (by decide +kernel)) (by decide +kernel)
theorem tw_19 : Cond.instanceMethod objectInit ∈ tb := tb_of (List.mem_of_getElem? (i := 65) (by decide +kernel)) (by decide +kernel)
theorem tw_20 : Cond.code objectInit ⟨#[0xb1]⟩ 1 none ∈ tb := tb_of (List.mem_of_getElem? (i := 66) (by decide +kernel)) (by decide +kernel)
theorem tw_21 : Cond.classLink RX8 7 RX0 ∈ tb := tb_of (List.mem_of_getElem? (i := 67) (by decide +kernel)) (by decide +kernel)
theorem tw_22 : Cond.instantiable RX0 8 ∈ tb := tb_of (List.mem_of_getElem? (i := 68) (by decide +kernel)) (by decide +kernel)
theorem tw_23 : Cond.methodLink RX8 9 yX0_init ∈ tb := tb_of (List.mem_of_getElem? (i := 69) (by decide +kernel)) (by decide +kernel)
theorem tw_24 : Cond.instanceMethod yX0_init ∈ tb := tb_of (List.mem_of_getElem? (i := 70) (by decide +kernel)) (by decide +kernel)
theorem tw_25 : Cond.code yX0_init cX0_init 2 none ∈ tb := tb_of (List.mem_of_getElem? (i := 71) (by decide +kernel)) (by decide +kernel)
theorem tw_26 : Cond.methodLink RX0 3 objectInit ∈ tb := tb_of (List.mem_of_getElem? (i := 72) (by decide +kernel)) (by decide +kernel)
theorem tw_27 : Cond.fieldLink RX0 9 RX0 "beats" "[I" ∈ tb := tb_of (List.mem_of_getElem? (i := 73) (by decide +kernel)) (by decide +kernel)
theorem tw_28 : Cond.fieldLink RX8 70 RX0 "beats" "[I" ∈ tb := tb_of (List.mem_of_getElem? (i := 74) (by decide +kernel)) (by decide +kernel)
theorem tw_29 : Cond.fieldLink RX0 15 RX0 "nicks" "[I" ∈ tb := tb_of (List.mem_of_getElem? (i := 75) (by decide +kernel)) (by decide +kernel)
theorem tw_30 : Cond.fieldLink RX8 74 RX0 "nicks" "[I" ∈ tb := tb_of (List.mem_of_getElem? (i := 76) (by decide +kernel)) (by decide +kernel)
theorem tw_31 : Cond.fieldLink RX0 18 RX0 "owners" "[I" ∈ tb := tb_of (List.mem_of_getElem? (i := 77) (by decide +kernel)) (by decide +kernel)
theorem tw_32 : Cond.fieldLink RX8 77 RX0 "owners" "[I" ∈ tb := tb_of (List.mem_of_getElem? (i := 78) (by decide +kernel)) (by decide +kernel)
theorem tw_33 : Cond.fieldLink RX0 21 RX0 "spots" "[I" ∈ tb := tb_of (List.mem_of_getElem? (i := 79) (by decide +kernel)) (by decide +kernel)
theorem tw_34 : Cond.fieldLink RX8 80 RX0 "spots" "[I" ∈ tb := tb_of (List.mem_of_getElem? (i := 80) (by decide +kernel)) (by decide +kernel)
theorem tw_35 : Cond.fieldLink RX0 24 RX0 "kept" "[I" ∈ tb := tb_of (List.mem_of_getElem? (i := 81) (by decide +kernel)) (by decide +kernel)
theorem tw_36 : Cond.fieldLink RX8 83 RX0 "kept" "[I" ∈ tb := tb_of (List.mem_of_getElem? (i := 82) (by decide +kernel)) (by decide +kernel)
theorem tw_37 : Cond.fieldLink RX0 27 RX0 "heard" "[I" ∈ tb := tb_of (List.mem_of_getElem? (i := 83) (by decide +kernel)) (by decide +kernel)
theorem tw_38 : Cond.fieldLink RX8 86 RX0 "heard" "[I" ∈ tb := tb_of (List.mem_of_getElem? (i := 84) (by decide +kernel)) (by decide +kernel)
theorem tw_39 : Cond.fieldLink RX0 30 RX0 "chosen" "[I" ∈ tb := tb_of (List.mem_of_getElem? (i := 85) (by decide +kernel)) (by decide +kernel)
theorem tw_40 : Cond.fieldLink RX8 89 RX0 "chosen" "[I" ∈ tb := tb_of (List.mem_of_getElem? (i := 86) (by decide +kernel)) (by decide +kernel)
theorem tw_41 : Cond.fieldLink RX0 39 RX0 "minute" "I" ∈ tb := tb_of (List.mem_of_getElem? (i := 87) (by decide +kernel)) (by decide +kernel)
theorem tw_42 : Cond.fieldLink RX8 128 RX0 "minute" "I" ∈ tb := tb_of (List.mem_of_getElem? (i := 88) (by decide +kernel)) (by decide +kernel)
theorem tw_60 : Cond.arrayClass .int ∈ tb := tb_of (List.mem_of_getElem? (i := 106) (by decide +kernel)) (by decide +kernel)
theorem tw_61 : Cond.classLink RX8 16 RX6 ∈ tb := tb_of (List.mem_of_getElem? (i := 107) (by decide +kernel)) (by decide +kernel)
theorem tw_62 : Cond.instantiable RX6 7 ∈ tb := tb_of (List.mem_of_getElem? (i := 108) (by decide +kernel)) (by decide +kernel)
theorem tw_63 : Cond.methodLink RX8 18 yX6_init ∈ tb := tb_of (List.mem_of_getElem? (i := 109) (by decide +kernel)) (by decide +kernel)
theorem tw_64 : Cond.instanceMethod yX6_init ∈ tb := tb_of (List.mem_of_getElem? (i := 110) (by decide +kernel)) (by decide +kernel)
theorem tw_65 : Cond.code yX6_init cX6_init 1 none ∈ tb := tb_of (List.mem_of_getElem? (i := 111) (by decide +kernel)) (by decide +kernel)
theorem tw_66 : Cond.methodLink RX6 3 objectInit ∈ tb := tb_of (List.mem_of_getElem? (i := 112) (by decide +kernel)) (by decide +kernel)
theorem tw_67 : Cond.fieldLink RX6 11 RX6 "beats" "[I" ∈ tb := tb_of (List.mem_of_getElem? (i := 113) (by decide +kernel)) (by decide +kernel)
theorem tw_68 : Cond.fieldLink RX6 15 RX6 "spans" "[I" ∈ tb := tb_of (List.mem_of_getElem? (i := 114) (by decide +kernel)) (by decide +kernel)
theorem tw_69 : Cond.fieldLink RX6 18 RX6 "areSo" "[Z" ∈ tb := tb_of (List.mem_of_getElem? (i := 115) (by decide +kernel)) (by decide +kernel)
theorem tw_70 : Cond.fieldLink RX6 22 RX6 "fittingByBeat" "[I" ∈ tb := tb_of (List.mem_of_getElem? (i := 116) (by decide +kernel)) (by decide +kernel)
theorem tw_71 : Cond.fieldLink RX6 25 RX6 "count" "I" ∈ tb := tb_of (List.mem_of_getElem? (i := 117) (by decide +kernel)) (by decide +kernel)
theorem tw_72 : Cond.fieldLink RX8 234 RX6 "count" "I" ∈ tb := tb_of (List.mem_of_getElem? (i := 118) (by decide +kernel)) (by decide +kernel)
theorem tw_73 : Cond.fieldLink RX6 33 RX6 "question" "I" ∈ tb := tb_of (List.mem_of_getElem? (i := 119) (by decide +kernel)) (by decide +kernel)
theorem tw_74 : Cond.fieldLink RX8 196 RX6 "question" "I" ∈ tb := tb_of (List.mem_of_getElem? (i := 120) (by decide +kernel)) (by decide +kernel)
theorem tw_75 : Cond.fieldLink RX6 36 RX6 "leftAtMost" "I" ∈ tb := tb_of (List.mem_of_getElem? (i := 121) (by decide +kernel)) (by decide +kernel)
theorem tw_76 : Cond.fieldLink RX8 199 RX6 "leftAtMost" "I" ∈ tb := tb_of (List.mem_of_getElem? (i := 122) (by decide +kernel)) (by decide +kernel)
theorem tw_92 : Cond.arrayClass .boolean ∈ tb := tb_of (List.mem_of_getElem? (i := 138) (by decide +kernel)) (by decide +kernel)
theorem tw_93 : Cond.classLink RX8 23 RX2 ∈ tb := tb_of (List.mem_of_getElem? (i := 139) (by decide +kernel)) (by decide +kernel)
theorem tw_94 : Cond.instantiable RX2 2 ∈ tb := tb_of (List.mem_of_getElem? (i := 140) (by decide +kernel)) (by decide +kernel)
theorem tw_95 : Cond.methodLink RX8 25 yX2_init ∈ tb := tb_of (List.mem_of_getElem? (i := 141) (by decide +kernel)) (by decide +kernel)
theorem tw_96 : Cond.instanceMethod yX2_init ∈ tb := tb_of (List.mem_of_getElem? (i := 142) (by decide +kernel)) (by decide +kernel)
theorem tw_97 : Cond.code yX2_init cX2_init 1 none ∈ tb := tb_of (List.mem_of_getElem? (i := 143) (by decide +kernel)) (by decide +kernel)
theorem tw_98 : Cond.methodLink RX2 3 objectInit ∈ tb := tb_of (List.mem_of_getElem? (i := 144) (by decide +kernel)) (by decide +kernel)
theorem tw_99 : Cond.fieldLink RX2 11 RX2 "signs" "[I" ∈ tb := tb_of (List.mem_of_getElem? (i := 145) (by decide +kernel)) (by decide +kernel)
theorem tw_100 : Cond.fieldLink RX7 31 RX2 "signs" "[I" ∈ tb := tb_of (List.mem_of_getElem? (i := 146) (by decide +kernel)) (by decide +kernel)
theorem tw_101 : Cond.fieldLink RX2 15 RX2 "count" "I" ∈ tb := tb_of (List.mem_of_getElem? (i := 147) (by decide +kernel)) (by decide +kernel)
theorem tw_102 : Cond.fieldLink RX7 22 RX2 "count" "I" ∈ tb := tb_of (List.mem_of_getElem? (i := 148) (by decide +kernel)) (by decide +kernel)
theorem tw_103 : Cond.fieldLink RX8 231 RX2 "count" "I" ∈ tb := tb_of (List.mem_of_getElem? (i := 149) (by decide +kernel)) (by decide +kernel)
theorem tw_109 : Cond.classLink RX8 30 RX7 ∈ tb := tb_of (List.mem_of_getElem? (i := 155) (by decide +kernel)) (by decide +kernel)
theorem tw_110 : Cond.instantiable RX7 7 ∈ tb := tb_of (List.mem_of_getElem? (i := 156) (by decide +kernel)) (by decide +kernel)
theorem tw_111 : Cond.methodLink RX8 32 yX7_init ∈ tb := tb_of (List.mem_of_getElem? (i := 157) (by decide +kernel)) (by decide +kernel)
theorem tw_112 : Cond.instanceMethod yX7_init ∈ tb := tb_of (List.mem_of_getElem? (i := 158) (by decide +kernel)) (by decide +kernel)
theorem tw_113 : Cond.code yX7_init cX7_init 1 none ∈ tb := tb_of (List.mem_of_getElem? (i := 159) (by decide +kernel)) (by decide +kernel)
theorem tw_114 : Cond.methodLink RX7 3 objectInit ∈ tb := tb_of (List.mem_of_getElem? (i := 160) (by decide +kernel)) (by decide +kernel)
theorem tw_115 : Cond.classLink RX7 9 RX0 ∈ tb := tb_of (List.mem_of_getElem? (i := 161) (by decide +kernel)) (by decide +kernel)
theorem tw_116 : Cond.methodLink RX7 11 yX0_init ∈ tb := tb_of (List.mem_of_getElem? (i := 162) (by decide +kernel)) (by decide +kernel)
theorem tw_117 : Cond.fieldLink RX7 12 RX7 "gallery" "LCradleHour$Gallery;" ∈ tb := tb_of (List.mem_of_getElem? (i := 163) (by decide +kernel)) (by decide +kernel)
theorem tw_118 : Cond.fieldLink RX8 116 RX7 "gallery" "LCradleHour$Gallery;" ∈ tb := tb_of (List.mem_of_getElem? (i := 164) (by decide +kernel)) (by decide +kernel)
theorem tw_119 : Cond.fieldLink RX7 64 RX7 "acts" "I" ∈ tb := tb_of (List.mem_of_getElem? (i := 165) (by decide +kernel)) (by decide +kernel)
theorem tw_120 : Cond.fieldLink RX8 141 RX7 "acts" "I" ∈ tb := tb_of (List.mem_of_getElem? (i := 166) (by decide +kernel)) (by decide +kernel)
theorem tw_121 : Cond.fieldLink RX7 28 RX7 "barredAct" "I" ∈ tb := tb_of (List.mem_of_getElem? (i := 167) (by decide +kernel)) (by decide +kernel)
theorem tw_122 : Cond.fieldLink RX8 106 RX7 "barredAct" "I" ∈ tb := tb_of (List.mem_of_getElem? (i := 168) (by decide +kernel)) (by decide +kernel)
theorem tw_123 : Cond.fieldLink RX7 67 RX7 "barredWhy" "I" ∈ tb := tb_of (List.mem_of_getElem? (i := 169) (by decide +kernel)) (by decide +kernel)
theorem tw_124 : Cond.fieldLink RX8 110 RX7 "barredWhy" "I" ∈ tb := tb_of (List.mem_of_getElem? (i := 170) (by decide +kernel)) (by decide +kernel)
theorem tw_125 : Cond.fieldLink RX7 70 RX7 "hearings" "I" ∈ tb := tb_of (List.mem_of_getElem? (i := 171) (by decide +kernel)) (by decide +kernel)
theorem tw_126 : Cond.fieldLink RX8 113 RX7 "hearings" "I" ∈ tb := tb_of (List.mem_of_getElem? (i := 172) (by decide +kernel)) (by decide +kernel)
theorem tw_127 : Cond.fieldLink RX7 73 RX7 "wrongAct" "I" ∈ tb := tb_of (List.mem_of_getElem? (i := 173) (by decide +kernel)) (by decide +kernel)
theorem tw_128 : Cond.fieldLink RX8 131 RX7 "wrongAct" "I" ∈ tb := tb_of (List.mem_of_getElem? (i := 174) (by decide +kernel)) (by decide +kernel)
theorem tw_129 : Cond.fieldLink RX7 76 RX7 "wrongHeir" "I" ∈ tb := tb_of (List.mem_of_getElem? (i := 175) (by decide +kernel)) (by decide +kernel)
theorem tw_130 : Cond.fieldLink RX8 134 RX7 "wrongHeir" "I" ∈ tb := tb_of (List.mem_of_getElem? (i := 176) (by decide +kernel)) (by decide +kernel)
theorem tw_146 : Cond.classLink RX8 37 RX4 ∈ tb := tb_of (List.mem_of_getElem? (i := 192) (by decide +kernel)) (by decide +kernel)
theorem tw_147 : Cond.instantiable RX4 3 ∈ tb := tb_of (List.mem_of_getElem? (i := 193) (by decide +kernel)) (by decide +kernel)
theorem tw_148 : Cond.methodLink RX8 39 yX4_init ∈ tb := tb_of (List.mem_of_getElem? (i := 194) (by decide +kernel)) (by decide +kernel)
theorem tw_149 : Cond.instanceMethod yX4_init ∈ tb := tb_of (List.mem_of_getElem? (i := 195) (by decide +kernel)) (by decide +kernel)
theorem tw_150 : Cond.code yX4_init cX4_init 1 none ∈ tb := tb_of (List.mem_of_getElem? (i := 196) (by decide +kernel)) (by decide +kernel)
theorem tw_151 : Cond.methodLink RX4 3 objectInit ∈ tb := tb_of (List.mem_of_getElem? (i := 197) (by decide +kernel)) (by decide +kernel)
theorem tw_152 : Cond.fieldLink RX4 9 RX4 "longestByBeat" "[I" ∈ tb := tb_of (List.mem_of_getElem? (i := 198) (by decide +kernel)) (by decide +kernel)
theorem tw_153 : Cond.fieldLink RX4 15 RX4 "most" "I" ∈ tb := tb_of (List.mem_of_getElem? (i := 199) (by decide +kernel)) (by decide +kernel)
theorem tw_154 : Cond.fieldLink RX8 180 RX4 "most" "I" ∈ tb := tb_of (List.mem_of_getElem? (i := 200) (by decide +kernel)) (by decide +kernel)
theorem tw_155 : Cond.fieldLink RX4 19 RX4 "first" "I" ∈ tb := tb_of (List.mem_of_getElem? (i := 201) (by decide +kernel)) (by decide +kernel)
theorem tw_156 : Cond.fieldLink RX8 183 RX4 "first" "I" ∈ tb := tb_of (List.mem_of_getElem? (i := 202) (by decide +kernel)) (by decide +kernel)
theorem tw_166 : Cond.fieldLink RX8 10 RX8 "now" "LCradleHour$Gallery;" ∈ tb := tb_of (List.mem_of_getElem? (i := 212) (by decide +kernel)) (by decide +kernel)
theorem tw_167 : Cond.fieldLink RX8 19 RX8 "sights" "LCradleHour$Sights;" ∈ tb := tb_of (List.mem_of_getElem? (i := 213) (by decide +kernel)) (by decide +kernel)
theorem tw_168 : Cond.fieldLink RX8 26 RX8 "pad" "LCradleHour$Pad;" ∈ tb := tb_of (List.mem_of_getElem? (i := 214) (by decide +kernel)) (by decide +kernel)
theorem tw_169 : Cond.fieldLink RX8 33 RX8 "trial" "LCradleHour$Trial;" ∈ tb := tb_of (List.mem_of_getElem? (i := 215) (by decide +kernel)) (by decide +kernel)
theorem tw_170 : Cond.fieldLink RX8 40 RX8 "rising" "LCradleHour$Rising;" ∈ tb := tb_of (List.mem_of_getElem? (i := 216) (by decide +kernel)) (by decide +kernel)
theorem tw_171 : Cond.fieldLink RX8 44 RX8 "galleryImages" "[LCradleHour$Gallery;" ∈ tb := tb_of (List.mem_of_getElem? (i := 217) (by decide +kernel)) (by decide +kernel)
theorem tw_172 : Cond.fieldLink RX8 48 RX8 "sightsImages" "[LCradleHour$Sights;" ∈ tb := tb_of (List.mem_of_getElem? (i := 218) (by decide +kernel)) (by decide +kernel)
theorem tw_173 : Cond.fieldLink RX8 52 RX8 "imageIsKept" "[Z" ∈ tb := tb_of (List.mem_of_getElem? (i := 219) (by decide +kernel)) (by decide +kernel)
theorem tw_191 : Cond.methodLink RL 13 yX8_cradle ∈ tb := tb_of (List.mem_of_getElem? (i := 237) (by decide +kernel)) (by decide +kernel)
theorem tw_192 : Cond.instanceMethod yX8_cradle ∈ tb := tb_of (List.mem_of_getElem? (i := 238) (by decide +kernel)) (by decide +kernel)
theorem tw_193 : Cond.selects RX8 yX8_cradle yX8_cradle ∈ tb := tb_of (List.mem_of_getElem? (i := 239) (by decide +kernel)) (by decide +kernel)
theorem tw_194 : Cond.code yX8_cradle cX8_cradle 6 (some .int) ∈ tb := tb_of (List.mem_of_getElem? (i := 240) (by decide +kernel)) (by decide +kernel)
theorem tw_195 : Cond.methodLink RX8 56 yX8_isPlace ∈ tb := tb_of (List.mem_of_getElem? (i := 241) (by decide +kernel)) (by decide +kernel)
theorem tw_196 : Cond.static yX8_isPlace ∈ tb := tb_of (List.mem_of_getElem? (i := 242) (by decide +kernel)) (by decide +kernel)
theorem tw_197 : Cond.code yX8_isPlace cX8_isPlace 1 (some .boolean) ∈ tb := tb_of (List.mem_of_getElem? (i := 243) (by decide +kernel)) (by decide +kernel)
theorem tw_198 : Cond.methodLink RX8 66 yX8_isWithin ∈ tb := tb_of (List.mem_of_getElem? (i := 244) (by decide +kernel)) (by decide +kernel)
theorem tw_199 : Cond.static yX8_isWithin ∈ tb := tb_of (List.mem_of_getElem? (i := 245) (by decide +kernel)) (by decide +kernel)
theorem tw_200 : Cond.code yX8_isWithin cX8_isWithin 3 (some .boolean) ∈ tb := tb_of (List.mem_of_getElem? (i := 246) (by decide +kernel)) (by decide +kernel)
theorem tw_201 : Cond.methodLink RX8 60 yX8_isHeir ∈ tb := tb_of (List.mem_of_getElem? (i := 247) (by decide +kernel)) (by decide +kernel)
theorem tw_202 : Cond.static yX8_isHeir ∈ tb := tb_of (List.mem_of_getElem? (i := 248) (by decide +kernel)) (by decide +kernel)
theorem tw_203 : Cond.code yX8_isHeir cX8_isHeir 1 (some .boolean) ∈ tb := tb_of (List.mem_of_getElem? (i := 249) (by decide +kernel)) (by decide +kernel)
theorem tw_204 : Cond.methodLink RX8 63 yX8_isBeat ∈ tb := tb_of (List.mem_of_getElem? (i := 250) (by decide +kernel)) (by decide +kernel)
theorem tw_205 : Cond.static yX8_isBeat ∈ tb := tb_of (List.mem_of_getElem? (i := 251) (by decide +kernel)) (by decide +kernel)
theorem tw_206 : Cond.code yX8_isBeat cX8_isBeat 1 (some .boolean) ∈ tb := tb_of (List.mem_of_getElem? (i := 252) (by decide +kernel)) (by decide +kernel)
theorem tw_207 : Cond.methodLink RL 18 yX8_heir ∈ tb := tb_of (List.mem_of_getElem? (i := 253) (by decide +kernel)) (by decide +kernel)
theorem tw_208 : Cond.instanceMethod yX8_heir ∈ tb := tb_of (List.mem_of_getElem? (i := 254) (by decide +kernel)) (by decide +kernel)
theorem tw_209 : Cond.selects RX8 yX8_heir yX8_heir ∈ tb := tb_of (List.mem_of_getElem? (i := 255) (by decide +kernel)) (by decide +kernel)
theorem tw_210 : Cond.code yX8_heir cX8_heir 5 (some .int) ∈ tb := tb_of (List.mem_of_getElem? (i := 256) (by decide +kernel)) (by decide +kernel)
theorem tw_211 : Cond.methodLink RL 23 yX8_say ∈ tb := tb_of (List.mem_of_getElem? (i := 257) (by decide +kernel)) (by decide +kernel)
theorem tw_212 : Cond.instanceMethod yX8_say ∈ tb := tb_of (List.mem_of_getElem? (i := 258) (by decide +kernel)) (by decide +kernel)
theorem tw_213 : Cond.selects RX8 yX8_say yX8_say ∈ tb := tb_of (List.mem_of_getElem? (i := 259) (by decide +kernel)) (by decide +kernel)
theorem tw_214 : Cond.code yX8_say cX8_say 2 (some .int) ∈ tb := tb_of (List.mem_of_getElem? (i := 260) (by decide +kernel)) (by decide +kernel)
theorem tw_215 : Cond.methodLink RX8 92 yX2_add ∈ tb := tb_of (List.mem_of_getElem? (i := 261) (by decide +kernel)) (by decide +kernel)
theorem tw_216 : Cond.instanceMethod yX2_add ∈ tb := tb_of (List.mem_of_getElem? (i := 262) (by decide +kernel)) (by decide +kernel)
theorem tw_217 : Cond.selects RX2 yX2_add yX2_add ∈ tb := tb_of (List.mem_of_getElem? (i := 263) (by decide +kernel)) (by decide +kernel)
theorem tw_218 : Cond.code yX2_add cX2_add 2 (some .int) ∈ tb := tb_of (List.mem_of_getElem? (i := 264) (by decide +kernel)) (by decide +kernel)
theorem tw_219 : Cond.methodLink RL 28 yX8_wipe ∈ tb := tb_of (List.mem_of_getElem? (i := 265) (by decide +kernel)) (by decide +kernel)
theorem tw_220 : Cond.instanceMethod yX8_wipe ∈ tb := tb_of (List.mem_of_getElem? (i := 266) (by decide +kernel)) (by decide +kernel)
theorem tw_221 : Cond.selects RX8 yX8_wipe yX8_wipe ∈ tb := tb_of (List.mem_of_getElem? (i := 267) (by decide +kernel)) (by decide +kernel)
theorem tw_222 : Cond.code yX8_wipe cX8_wipe 1 (some .int) ∈ tb := tb_of (List.mem_of_getElem? (i := 268) (by decide +kernel)) (by decide +kernel)
theorem tw_223 : Cond.methodLink RX8 96 yX2_clear ∈ tb := tb_of (List.mem_of_getElem? (i := 269) (by decide +kernel)) (by decide +kernel)
theorem tw_224 : Cond.instanceMethod yX2_clear ∈ tb := tb_of (List.mem_of_getElem? (i := 270) (by decide +kernel)) (by decide +kernel)
theorem tw_225 : Cond.selects RX2 yX2_clear yX2_clear ∈ tb := tb_of (List.mem_of_getElem? (i := 271) (by decide +kernel)) (by decide +kernel)
theorem tw_226 : Cond.code yX2_clear cX2_clear 2 (some .int) ∈ tb := tb_of (List.mem_of_getElem? (i := 272) (by decide +kernel)) (by decide +kernel)
theorem tw_227 : Cond.methodLink RL 33 yX8_fault ∈ tb := tb_of (List.mem_of_getElem? (i := 273) (by decide +kernel)) (by decide +kernel)
theorem tw_228 : Cond.instanceMethod yX8_fault ∈ tb := tb_of (List.mem_of_getElem? (i := 274) (by decide +kernel)) (by decide +kernel)
theorem tw_229 : Cond.selects RX8 yX8_fault yX8_fault ∈ tb := tb_of (List.mem_of_getElem? (i := 275) (by decide +kernel)) (by decide +kernel)
theorem tw_230 : Cond.code yX8_fault cX8_fault 1 (some .int) ∈ tb := tb_of (List.mem_of_getElem? (i := 276) (by decide +kernel)) (by decide +kernel)
theorem tw_231 : Cond.methodLink RX8 100 yX2_flaw ∈ tb := tb_of (List.mem_of_getElem? (i := 277) (by decide +kernel)) (by decide +kernel)
theorem tw_232 : Cond.instanceMethod yX2_flaw ∈ tb := tb_of (List.mem_of_getElem? (i := 278) (by decide +kernel)) (by decide +kernel)
theorem tw_233 : Cond.selects RX2 yX2_flaw yX2_flaw ∈ tb := tb_of (List.mem_of_getElem? (i := 279) (by decide +kernel)) (by decide +kernel)
theorem tw_234 : Cond.code yX2_flaw cX2_flaw 3 (some .int) ∈ tb := tb_of (List.mem_of_getElem? (i := 280) (by decide +kernel)) (by decide +kernel)
theorem tw_235 : Cond.methodLink RX2 19 yX2_awaitedBehind ∈ tb := tb_of (List.mem_of_getElem? (i := 281) (by decide +kernel)) (by decide +kernel)
theorem tw_236 : Cond.static yX2_awaitedBehind ∈ tb := tb_of (List.mem_of_getElem? (i := 282) (by decide +kernel)) (by decide +kernel)
theorem tw_237 : Cond.code yX2_awaitedBehind cX2_awaitedBehind 2 (some .int) ∈ tb := tb_of (List.mem_of_getElem? (i := 283) (by decide +kernel)) (by decide +kernel)
theorem tw_238 : Cond.methodLink RX2 23 yX2_isLetter ∈ tb := tb_of (List.mem_of_getElem? (i := 284) (by decide +kernel)) (by decide +kernel)
theorem tw_239 : Cond.static yX2_isLetter ∈ tb := tb_of (List.mem_of_getElem? (i := 285) (by decide +kernel)) (by decide +kernel)
theorem tw_240 : Cond.code yX2_isLetter cX2_isLetter 1 (some .boolean) ∈ tb := tb_of (List.mem_of_getElem? (i := 286) (by decide +kernel)) (by decide +kernel)
theorem tw_242 : Cond.methodLink RX2 27 yX2_isDigit ∈ tb := tb_of (List.mem_of_getElem? (i := 288) (by decide +kernel)) (by decide +kernel)
theorem tw_243 : Cond.static yX2_isDigit ∈ tb := tb_of (List.mem_of_getElem? (i := 289) (by decide +kernel)) (by decide +kernel)
theorem tw_244 : Cond.code yX2_isDigit cX2_isDigit 1 (some .boolean) ∈ tb := tb_of (List.mem_of_getElem? (i := 290) (by decide +kernel)) (by decide +kernel)
theorem tw_245 : Cond.methodLink RX2 30 yX2_isWay ∈ tb := tb_of (List.mem_of_getElem? (i := 291) (by decide +kernel)) (by decide +kernel)
theorem tw_246 : Cond.static yX2_isWay ∈ tb := tb_of (List.mem_of_getElem? (i := 292) (by decide +kernel)) (by decide +kernel)
theorem tw_247 : Cond.code yX2_isWay cX2_isWay 1 (some .boolean) ∈ tb := tb_of (List.mem_of_getElem? (i := 293) (by decide +kernel)) (by decide +kernel)
theorem tw_248 : Cond.methodLink RX2 33 yX2_isPlainDeed ∈ tb := tb_of (List.mem_of_getElem? (i := 294) (by decide +kernel)) (by decide +kernel)
theorem tw_249 : Cond.static yX2_isPlainDeed ∈ tb := tb_of (List.mem_of_getElem? (i := 295) (by decide +kernel)) (by decide +kernel)
theorem tw_250 : Cond.code yX2_isPlainDeed cX2_isPlainDeed 1 (some .boolean) ∈ tb := tb_of (List.mem_of_getElem? (i := 296) (by decide +kernel)) (by decide +kernel)
theorem tw_251 : Cond.methodLink RL 37 yX8_judge ∈ tb := tb_of (List.mem_of_getElem? (i := 297) (by decide +kernel)) (by decide +kernel)
theorem tw_252 : Cond.instanceMethod yX8_judge ∈ tb := tb_of (List.mem_of_getElem? (i := 298) (by decide +kernel)) (by decide +kernel)
theorem tw_253 : Cond.selects RX8 yX8_judge yX8_judge ∈ tb := tb_of (List.mem_of_getElem? (i := 299) (by decide +kernel)) (by decide +kernel)
theorem tw_254 : Cond.code yX8_judge cX8_judge 3 (some .int) ∈ tb := tb_of (List.mem_of_getElem? (i := 300) (by decide +kernel)) (by decide +kernel)
theorem tw_255 : Cond.methodLink RX8 103 yX8_followText ∈ tb := tb_of (List.mem_of_getElem? (i := 301) (by decide +kernel)) (by decide +kernel)
theorem tw_257 : Cond.instanceMethod yX8_followText ∈ tb := tb_of (List.mem_of_getElem? (i := 303) (by decide +kernel)) (by decide +kernel)
theorem tw_258 : Cond.code yX8_followText cX8_followText 1 (some .int) ∈ tb := tb_of (List.mem_of_getElem? (i := 304) (by decide +kernel)) (by decide +kernel)
theorem tw_259 : Cond.methodLink RX8 235 yX7_follow ∈ tb := tb_of (List.mem_of_getElem? (i := 305) (by decide +kernel)) (by decide +kernel)
theorem tw_260 : Cond.instanceMethod yX7_follow ∈ tb := tb_of (List.mem_of_getElem? (i := 306) (by decide +kernel)) (by decide +kernel)
theorem tw_261 : Cond.selects RX7 yX7_follow yX7_follow ∈ tb := tb_of (List.mem_of_getElem? (i := 307) (by decide +kernel)) (by decide +kernel)
theorem tw_262 : Cond.code yX7_follow cX7_follow 7 none ∈ tb := tb_of (List.mem_of_getElem? (i := 308) (by decide +kernel)) (by decide +kernel)
theorem tw_263 : Cond.methodLink RX7 18 yX7_begin ∈ tb := tb_of (List.mem_of_getElem? (i := 309) (by decide +kernel)) (by decide +kernel)
theorem tw_265 : Cond.instanceMethod yX7_begin ∈ tb := tb_of (List.mem_of_getElem? (i := 311) (by decide +kernel)) (by decide +kernel)
theorem tw_266 : Cond.code yX7_begin cX7_begin 2 none ∈ tb := tb_of (List.mem_of_getElem? (i := 312) (by decide +kernel)) (by decide +kernel)
theorem tw_267 : Cond.methodLink RX7 61 yX0_copyFrom ∈ tb := tb_of (List.mem_of_getElem? (i := 313) (by decide +kernel)) (by decide +kernel)
theorem tw_268 : Cond.instanceMethod yX0_copyFrom ∈ tb := tb_of (List.mem_of_getElem? (i := 314) (by decide +kernel)) (by decide +kernel)
theorem tw_269 : Cond.selects RX0 yX0_copyFrom yX0_copyFrom ∈ tb := tb_of (List.mem_of_getElem? (i := 315) (by decide +kernel)) (by decide +kernel)
theorem tw_270 : Cond.code yX0_copyFrom cX0_copyFrom 2 none ∈ tb := tb_of (List.mem_of_getElem? (i := 316) (by decide +kernel)) (by decide +kernel)
theorem tw_271 : Cond.methodLink RX0 33 arraycopyName ∈ tb := tb_of (List.mem_of_getElem? (i := 317) (by decide +kernel)) (by decide +kernel)
theorem tw_272 : Cond.static arraycopyName ∈ tb := tb_of (List.mem_of_getElem? (i := 318) (by decide +kernel)) (by decide +kernel)
theorem tw_273 : Cond.native arraycopyName ∈ tb := tb_of (List.mem_of_getElem? (i := 319) (by decide +kernel)) (by decide +kernel)
theorem tw_274 : Cond.methodLink RX7 35 yX7_attempt ∈ tb := tb_of (List.mem_of_getElem? (i := 320) (by decide +kernel)) (by decide +kernel)
theorem tw_276 : Cond.instanceMethod yX7_attempt ∈ tb := tb_of (List.mem_of_getElem? (i := 322) (by decide +kernel)) (by decide +kernel)
theorem tw_277 : Cond.code yX7_attempt cX7_attempt 5 none ∈ tb := tb_of (List.mem_of_getElem? (i := 323) (by decide +kernel)) (by decide +kernel)
theorem tw_278 : Cond.methodLink RX7 54 yX0_bar ∈ tb := tb_of (List.mem_of_getElem? (i := 324) (by decide +kernel)) (by decide +kernel)
theorem tw_279 : Cond.instanceMethod yX0_bar ∈ tb := tb_of (List.mem_of_getElem? (i := 325) (by decide +kernel)) (by decide +kernel)
theorem tw_280 : Cond.selects RX0 yX0_bar yX0_bar ∈ tb := tb_of (List.mem_of_getElem? (i := 326) (by decide +kernel)) (by decide +kernel)
theorem tw_281 : Cond.code yX0_bar cX0_bar 5 (some .int) ∈ tb := tb_of (List.mem_of_getElem? (i := 327) (by decide +kernel)) (by decide +kernel)
theorem tw_283 : Cond.methodLink RX0 47 yX0_isChosen ∈ tb := tb_of (List.mem_of_getElem? (i := 329) (by decide +kernel)) (by decide +kernel)
theorem tw_285 : Cond.instanceMethod yX0_isChosen ∈ tb := tb_of (List.mem_of_getElem? (i := 331) (by decide +kernel)) (by decide +kernel)
theorem tw_286 : Cond.code yX0_isChosen cX0_isChosen 3 (some .boolean) ∈ tb := tb_of (List.mem_of_getElem? (i := 332) (by decide +kernel)) (by decide +kernel)
theorem tw_287 : Cond.methodLink RX7 79 yX0_hearsOwnBeat ∈ tb := tb_of (List.mem_of_getElem? (i := 333) (by decide +kernel)) (by decide +kernel)
theorem tw_288 : Cond.instanceMethod yX0_hearsOwnBeat ∈ tb := tb_of (List.mem_of_getElem? (i := 334) (by decide +kernel)) (by decide +kernel)
theorem tw_289 : Cond.selects RX0 yX0_hearsOwnBeat yX0_hearsOwnBeat ∈ tb := tb_of (List.mem_of_getElem? (i := 335) (by decide +kernel)) (by decide +kernel)
theorem tw_290 : Cond.code yX0_hearsOwnBeat cX0_hearsOwnBeat 2 (some .boolean) ∈ tb := tb_of (List.mem_of_getElem? (i := 336) (by decide +kernel)) (by decide +kernel)
theorem tw_291 : Cond.methodLink RX7 82 yX0_standsAtOwn ∈ tb := tb_of (List.mem_of_getElem? (i := 337) (by decide +kernel)) (by decide +kernel)
theorem tw_292 : Cond.instanceMethod yX0_standsAtOwn ∈ tb := tb_of (List.mem_of_getElem? (i := 338) (by decide +kernel)) (by decide +kernel)
theorem tw_293 : Cond.selects RX0 yX0_standsAtOwn yX0_standsAtOwn ∈ tb := tb_of (List.mem_of_getElem? (i := 339) (by decide +kernel)) (by decide +kernel)
theorem tw_294 : Cond.code yX0_standsAtOwn cX0_standsAtOwn 2 (some .boolean) ∈ tb := tb_of (List.mem_of_getElem? (i := 340) (by decide +kernel)) (by decide +kernel)
theorem tw_295 : Cond.methodLink RX7 58 yX0_act ∈ tb := tb_of (List.mem_of_getElem? (i := 341) (by decide +kernel)) (by decide +kernel)
theorem tw_296 : Cond.instanceMethod yX0_act ∈ tb := tb_of (List.mem_of_getElem? (i := 342) (by decide +kernel)) (by decide +kernel)
theorem tw_297 : Cond.selects RX0 yX0_act yX0_act ∈ tb := tb_of (List.mem_of_getElem? (i := 343) (by decide +kernel)) (by decide +kernel)
theorem tw_298 : Cond.code yX0_act cX0_act 5 none ∈ tb := tb_of (List.mem_of_getElem? (i := 344) (by decide +kernel)) (by decide +kernel)
theorem tw_299 : Cond.methodLink RX0 50 yX0_listen ∈ tb := tb_of (List.mem_of_getElem? (i := 345) (by decide +kernel)) (by decide +kernel)
theorem tw_301 : Cond.instanceMethod yX0_listen ∈ tb := tb_of (List.mem_of_getElem? (i := 347) (by decide +kernel)) (by decide +kernel)
theorem tw_302 : Cond.code yX0_listen cX0_listen 2 none ∈ tb := tb_of (List.mem_of_getElem? (i := 348) (by decide +kernel)) (by decide +kernel)
theorem tw_303 : Cond.methodLink RX0 60 yX0_hearsOwnBeat ∈ tb := tb_of (List.mem_of_getElem? (i := 349) (by decide +kernel)) (by decide +kernel)
theorem tw_304 : Cond.methodLink RX0 54 yX0_changeWithNext ∈ tb := tb_of (List.mem_of_getElem? (i := 350) (by decide +kernel)) (by decide +kernel)
theorem tw_306 : Cond.instanceMethod yX0_changeWithNext ∈ tb := tb_of (List.mem_of_getElem? (i := 352) (by decide +kernel)) (by decide +kernel)
theorem tw_307 : Cond.code yX0_changeWithNext cX0_changeWithNext 2 none ∈ tb := tb_of (List.mem_of_getElem? (i := 353) (by decide +kernel)) (by decide +kernel)
theorem tw_308 : Cond.methodLink RX0 63 yX0_swapWithNext ∈ tb := tb_of (List.mem_of_getElem? (i := 354) (by decide +kernel)) (by decide +kernel)
theorem tw_309 : Cond.static yX0_swapWithNext ∈ tb := tb_of (List.mem_of_getElem? (i := 355) (by decide +kernel)) (by decide +kernel)
theorem tw_310 : Cond.code yX0_swapWithNext cX0_swapWithNext 3 none ∈ tb := tb_of (List.mem_of_getElem? (i := 356) (by decide +kernel)) (by decide +kernel)
theorem tw_311 : Cond.methodLink RX0 57 yX0_letMinutePass ∈ tb := tb_of (List.mem_of_getElem? (i := 357) (by decide +kernel)) (by decide +kernel)
theorem tw_313 : Cond.instanceMethod yX0_letMinutePass ∈ tb := tb_of (List.mem_of_getElem? (i := 359) (by decide +kernel)) (by decide +kernel)
theorem tw_314 : Cond.code yX0_letMinutePass cX0_letMinutePass 3 none ∈ tb := tb_of (List.mem_of_getElem? (i := 360) (by decide +kernel)) (by decide +kernel)
theorem tw_315 : Cond.methodLink RX7 39 yX2_isLetter ∈ tb := tb_of (List.mem_of_getElem? (i := 361) (by decide +kernel)) (by decide +kernel)
theorem tw_316 : Cond.methodLink RX7 43 yX2_isWay ∈ tb := tb_of (List.mem_of_getElem? (i := 362) (by decide +kernel)) (by decide +kernel)
theorem tw_317 : Cond.methodLink RX7 46 yX2_isDigit ∈ tb := tb_of (List.mem_of_getElem? (i := 363) (by decide +kernel)) (by decide +kernel)
theorem tw_318 : Cond.methodLink RL 41 yX8_behind ∈ tb := tb_of (List.mem_of_getElem? (i := 364) (by decide +kernel)) (by decide +kernel)
theorem tw_319 : Cond.instanceMethod yX8_behind ∈ tb := tb_of (List.mem_of_getElem? (i := 365) (by decide +kernel)) (by decide +kernel)
theorem tw_320 : Cond.selects RX8 yX8_behind yX8_behind ∈ tb := tb_of (List.mem_of_getElem? (i := 366) (by decide +kernel)) (by decide +kernel)
theorem tw_321 : Cond.code yX8_behind cX8_behind 4 (some .int) ∈ tb := tb_of (List.mem_of_getElem? (i := 367) (by decide +kernel)) (by decide +kernel)
theorem tw_322 : Cond.methodLink RL 46 yX8_stands ∈ tb := tb_of (List.mem_of_getElem? (i := 368) (by decide +kernel)) (by decide +kernel)
theorem tw_323 : Cond.instanceMethod yX8_stands ∈ tb := tb_of (List.mem_of_getElem? (i := 369) (by decide +kernel)) (by decide +kernel)
theorem tw_324 : Cond.selects RX8 yX8_stands yX8_stands ∈ tb := tb_of (List.mem_of_getElem? (i := 370) (by decide +kernel)) (by decide +kernel)
theorem tw_325 : Cond.code yX8_stands cX8_stands 4 (some .int) ∈ tb := tb_of (List.mem_of_getElem? (i := 371) (by decide +kernel)) (by decide +kernel)
theorem tw_326 : Cond.methodLink RL 50 yX8_house ∈ tb := tb_of (List.mem_of_getElem? (i := 372) (by decide +kernel)) (by decide +kernel)
theorem tw_327 : Cond.instanceMethod yX8_house ∈ tb := tb_of (List.mem_of_getElem? (i := 373) (by decide +kernel)) (by decide +kernel)
theorem tw_328 : Cond.selects RX8 yX8_house yX8_house ∈ tb := tb_of (List.mem_of_getElem? (i := 374) (by decide +kernel)) (by decide +kernel)
theorem tw_329 : Cond.code yX8_house cX8_house 3 (some .int) ∈ tb := tb_of (List.mem_of_getElem? (i := 375) (by decide +kernel)) (by decide +kernel)
theorem tw_330 : Cond.methodLink RX8 119 yX0_chosenBits ∈ tb := tb_of (List.mem_of_getElem? (i := 376) (by decide +kernel)) (by decide +kernel)
theorem tw_331 : Cond.instanceMethod yX0_chosenBits ∈ tb := tb_of (List.mem_of_getElem? (i := 377) (by decide +kernel)) (by decide +kernel)
theorem tw_332 : Cond.selects RX0 yX0_chosenBits yX0_chosenBits ∈ tb := tb_of (List.mem_of_getElem? (i := 378) (by decide +kernel)) (by decide +kernel)
theorem tw_333 : Cond.code yX0_chosenBits cX0_chosenBits 3 (some .int) ∈ tb := tb_of (List.mem_of_getElem? (i := 379) (by decide +kernel)) (by decide +kernel)
theorem tw_334 : Cond.methodLink RX8 122 yX0_rightBits ∈ tb := tb_of (List.mem_of_getElem? (i := 380) (by decide +kernel)) (by decide +kernel)
theorem tw_335 : Cond.instanceMethod yX0_rightBits ∈ tb := tb_of (List.mem_of_getElem? (i := 381) (by decide +kernel)) (by decide +kernel)
theorem tw_336 : Cond.selects RX0 yX0_rightBits yX0_rightBits ∈ tb := tb_of (List.mem_of_getElem? (i := 382) (by decide +kernel)) (by decide +kernel)
theorem tw_337 : Cond.code yX0_rightBits cX0_rightBits 3 (some .int) ∈ tb := tb_of (List.mem_of_getElem? (i := 383) (by decide +kernel)) (by decide +kernel)
theorem tw_338 : Cond.methodLink RX8 125 yX0_nickCount ∈ tb := tb_of (List.mem_of_getElem? (i := 384) (by decide +kernel)) (by decide +kernel)
theorem tw_339 : Cond.instanceMethod yX0_nickCount ∈ tb := tb_of (List.mem_of_getElem? (i := 385) (by decide +kernel)) (by decide +kernel)
theorem tw_340 : Cond.selects RX0 yX0_nickCount yX0_nickCount ∈ tb := tb_of (List.mem_of_getElem? (i := 386) (by decide +kernel)) (by decide +kernel)
theorem tw_341 : Cond.code yX0_nickCount cX0_nickCount 3 (some .int) ∈ tb := tb_of (List.mem_of_getElem? (i := 387) (by decide +kernel)) (by decide +kernel)
theorem tw_342 : Cond.methodLink RL 54 yX8_wrong ∈ tb := tb_of (List.mem_of_getElem? (i := 388) (by decide +kernel)) (by decide +kernel)
theorem tw_343 : Cond.instanceMethod yX8_wrong ∈ tb := tb_of (List.mem_of_getElem? (i := 389) (by decide +kernel)) (by decide +kernel)
theorem tw_344 : Cond.selects RX8 yX8_wrong yX8_wrong ∈ tb := tb_of (List.mem_of_getElem? (i := 390) (by decide +kernel)) (by decide +kernel)
theorem tw_345 : Cond.code yX8_wrong cX8_wrong 3 (some .int) ∈ tb := tb_of (List.mem_of_getElem? (i := 391) (by decide +kernel)) (by decide +kernel)
theorem tw_346 : Cond.methodLink RL 58 yX8_done ∈ tb := tb_of (List.mem_of_getElem? (i := 392) (by decide +kernel)) (by decide +kernel)
theorem tw_347 : Cond.instanceMethod yX8_done ∈ tb := tb_of (List.mem_of_getElem? (i := 393) (by decide +kernel)) (by decide +kernel)
theorem tw_348 : Cond.selects RX8 yX8_done yX8_done ∈ tb := tb_of (List.mem_of_getElem? (i := 394) (by decide +kernel)) (by decide +kernel)
theorem tw_349 : Cond.code yX8_done cX8_done 2 (some .int) ∈ tb := tb_of (List.mem_of_getElem? (i := 395) (by decide +kernel)) (by decide +kernel)
theorem tw_350 : Cond.methodLink RX8 137 yX0_copyFrom ∈ tb := tb_of (List.mem_of_getElem? (i := 396) (by decide +kernel)) (by decide +kernel)
theorem tw_351 : Cond.methodLink RL 62 yX8_seek ∈ tb := tb_of (List.mem_of_getElem? (i := 397) (by decide +kernel)) (by decide +kernel)
theorem tw_352 : Cond.instanceMethod yX8_seek ∈ tb := tb_of (List.mem_of_getElem? (i := 398) (by decide +kernel)) (by decide +kernel)
theorem tw_353 : Cond.selects RX8 yX8_seek yX8_seek ∈ tb := tb_of (List.mem_of_getElem? (i := 399) (by decide +kernel)) (by decide +kernel)
theorem tw_354 : Cond.code yX8_seek cX8_seek 5 (some .long) ∈ tb := tb_of (List.mem_of_getElem? (i := 400) (by decide +kernel)) (by decide +kernel)
theorem tw_355 : Cond.methodLink RX8 144 yX5_isAsTold ∈ tb := tb_of (List.mem_of_getElem? (i := 401) (by decide +kernel)) (by decide +kernel)
theorem tw_356 : Cond.static yX5_isAsTold ∈ tb := tb_of (List.mem_of_getElem? (i := 402) (by decide +kernel)) (by decide +kernel)
theorem tw_357 : Cond.code yX5_isAsTold cX5_isAsTold 3 (some .boolean) ∈ tb := tb_of (List.mem_of_getElem? (i := 403) (by decide +kernel)) (by decide +kernel)
theorem tw_359 : Cond.methodLink RX5 15 yX5_isRow ∈ tb := tb_of (List.mem_of_getElem? (i := 405) (by decide +kernel)) (by decide +kernel)
theorem tw_360 : Cond.static yX5_isRow ∈ tb := tb_of (List.mem_of_getElem? (i := 406) (by decide +kernel)) (by decide +kernel)
theorem tw_361 : Cond.code yX5_isRow cX5_isRow 3 (some .boolean) ∈ tb := tb_of (List.mem_of_getElem? (i := 407) (by decide +kernel)) (by decide +kernel)
theorem tw_362 : Cond.fieldLink RX5 19 RX5 "TENS" "[I" ∈ tb := tb_of (List.mem_of_getElem? (i := 408) (by decide +kernel)) (by decide +kernel)
theorem tw_364 : Cond.methodLink RX5 23 yX5_digit ∈ tb := tb_of (List.mem_of_getElem? (i := 410) (by decide +kernel)) (by decide +kernel)
theorem tw_365 : Cond.static yX5_digit ∈ tb := tb_of (List.mem_of_getElem? (i := 411) (by decide +kernel)) (by decide +kernel)
theorem tw_366 : Cond.code yX5_digit cX5_digit 3 (some .int) ∈ tb := tb_of (List.mem_of_getElem? (i := 412) (by decide +kernel)) (by decide +kernel)
theorem tw_367 : Cond.constantLong RX8 149 (-1000000000000000002) ∈ tb := tb_of (List.mem_of_getElem? (i := 413) (by decide +kernel)) (by decide +kernel)
theorem tw_368 : Cond.methodLink RX8 151 yX5_leastSum ∈ tb := tb_of (List.mem_of_getElem? (i := 414) (by decide +kernel)) (by decide +kernel)
theorem tw_369 : Cond.static yX5_leastSum ∈ tb := tb_of (List.mem_of_getElem? (i := 415) (by decide +kernel)) (by decide +kernel)
theorem tw_370 : Cond.code yX5_leastSum cX5_leastSum 9 (some .long) ∈ tb := tb_of (List.mem_of_getElem? (i := 416) (by decide +kernel)) (by decide +kernel)
theorem tw_371 : Cond.methodLink RX5 27 Lib.Math.min.name ∈ tb := tb_of (List.mem_of_getElem? (i := 417) (by decide +kernel)) (by decide +kernel)
theorem tw_372 : Cond.static Lib.Math.min.name ∈ tb := tb_of (List.mem_of_getElem? (i := 418) (by decide +kernel)) (by decide +kernel)
theorem tw_373 : Cond.code Lib.Math.min.name Lib.Math.min.code 2 (some .int) ∈ tb := tb_of (List.mem_of_getElem? (i := 419) (by decide +kernel)) (by decide +kernel)
theorem tw_374 : Cond.methodLink RX8 155 yX5_digitSum ∈ tb := tb_of (List.mem_of_getElem? (i := 420) (by decide +kernel)) (by decide +kernel)
theorem tw_375 : Cond.static yX5_digitSum ∈ tb := tb_of (List.mem_of_getElem? (i := 421) (by decide +kernel)) (by decide +kernel)
theorem tw_376 : Cond.code yX5_digitSum cX5_digitSum 5 (some .long) ∈ tb := tb_of (List.mem_of_getElem? (i := 422) (by decide +kernel)) (by decide +kernel)
theorem tw_377 : Cond.methodLink RX8 159 yX8_lowestTerm ∈ tb := tb_of (List.mem_of_getElem? (i := 423) (by decide +kernel)) (by decide +kernel)
theorem tw_378 : Cond.static yX8_lowestTerm ∈ tb := tb_of (List.mem_of_getElem? (i := 424) (by decide +kernel)) (by decide +kernel)
theorem tw_379 : Cond.code yX8_lowestTerm cX8_lowestTerm 9 (some .long) ∈ tb := tb_of (List.mem_of_getElem? (i := 425) (by decide +kernel)) (by decide +kernel)
theorem tw_380 : Cond.methodLink RX8 239 yX8_commonDivisor ∈ tb := tb_of (List.mem_of_getElem? (i := 426) (by decide +kernel)) (by decide +kernel)
theorem tw_381 : Cond.static yX8_commonDivisor ∈ tb := tb_of (List.mem_of_getElem? (i := 427) (by decide +kernel)) (by decide +kernel)
theorem tw_382 : Cond.code yX8_commonDivisor cX8_commonDivisor 11 (some .long) ∈ tb := tb_of (List.mem_of_getElem? (i := 428) (by decide +kernel)) (by decide +kernel)
theorem tw_383 : Cond.methodLink RL 67 yX8_looks ∈ tb := tb_of (List.mem_of_getElem? (i := 429) (by decide +kernel)) (by decide +kernel)
theorem tw_384 : Cond.instanceMethod yX8_looks ∈ tb := tb_of (List.mem_of_getElem? (i := 430) (by decide +kernel)) (by decide +kernel)
theorem tw_385 : Cond.selects RX8 yX8_looks yX8_looks ∈ tb := tb_of (List.mem_of_getElem? (i := 431) (by decide +kernel)) (by decide +kernel)
theorem tw_386 : Cond.code yX8_looks cX8_looks 4 (some .int) ∈ tb := tb_of (List.mem_of_getElem? (i := 432) (by decide +kernel)) (by decide +kernel)
theorem tw_387 : Cond.methodLink RX8 163 yX5_first ∈ tb := tb_of (List.mem_of_getElem? (i := 433) (by decide +kernel)) (by decide +kernel)
theorem tw_388 : Cond.static yX5_first ∈ tb := tb_of (List.mem_of_getElem? (i := 434) (by decide +kernel)) (by decide +kernel)
theorem tw_389 : Cond.code yX5_first cX5_first 7 (some .int) ∈ tb := tb_of (List.mem_of_getElem? (i := 435) (by decide +kernel)) (by decide +kernel)
theorem tw_390 : Cond.methodLink RL 71 yX8_mix ∈ tb := tb_of (List.mem_of_getElem? (i := 436) (by decide +kernel)) (by decide +kernel)
theorem tw_391 : Cond.instanceMethod yX8_mix ∈ tb := tb_of (List.mem_of_getElem? (i := 437) (by decide +kernel)) (by decide +kernel)
theorem tw_392 : Cond.selects RX8 yX8_mix yX8_mix ∈ tb := tb_of (List.mem_of_getElem? (i := 438) (by decide +kernel)) (by decide +kernel)
theorem tw_393 : Cond.code yX8_mix cX8_mix 5 (some .int) ∈ tb := tb_of (List.mem_of_getElem? (i := 439) (by decide +kernel)) (by decide +kernel)
theorem tw_394 : Cond.constant RX8 167 (999999999) ∈ tb := tb_of (List.mem_of_getElem? (i := 440) (by decide +kernel)) (by decide +kernel)
theorem tw_395 : Cond.methodLink RX8 168 yX1_placeBehind ∈ tb := tb_of (List.mem_of_getElem? (i := 441) (by decide +kernel)) (by decide +kernel)
theorem tw_396 : Cond.static yX1_placeBehind ∈ tb := tb_of (List.mem_of_getElem? (i := 442) (by decide +kernel)) (by decide +kernel)
theorem tw_397 : Cond.code yX1_placeBehind cX1_placeBehind 7 (some .int) ∈ tb := tb_of (List.mem_of_getElem? (i := 443) (by decide +kernel)) (by decide +kernel)
theorem tw_398 : Cond.methodLink RX8 173 yX1_round ∈ tb := tb_of (List.mem_of_getElem? (i := 444) (by decide +kernel)) (by decide +kernel)
theorem tw_399 : Cond.static yX1_round ∈ tb := tb_of (List.mem_of_getElem? (i := 445) (by decide +kernel)) (by decide +kernel)
theorem tw_400 : Cond.code yX1_round cX1_round 5 (some .int) ∈ tb := tb_of (List.mem_of_getElem? (i := 446) (by decide +kernel)) (by decide +kernel)
theorem tw_401 : Cond.methodLink RL 75 yX8_rises ∈ tb := tb_of (List.mem_of_getElem? (i := 447) (by decide +kernel)) (by decide +kernel)
theorem tw_402 : Cond.instanceMethod yX8_rises ∈ tb := tb_of (List.mem_of_getElem? (i := 448) (by decide +kernel)) (by decide +kernel)
theorem tw_403 : Cond.selects RX8 yX8_rises yX8_rises ∈ tb := tb_of (List.mem_of_getElem? (i := 449) (by decide +kernel)) (by decide +kernel)
theorem tw_404 : Cond.code yX8_rises cX8_rises 3 (some .int) ∈ tb := tb_of (List.mem_of_getElem? (i := 450) (by decide +kernel)) (by decide +kernel)
theorem tw_405 : Cond.methodLink RX8 176 yX4_measure ∈ tb := tb_of (List.mem_of_getElem? (i := 451) (by decide +kernel)) (by decide +kernel)
theorem tw_406 : Cond.instanceMethod yX4_measure ∈ tb := tb_of (List.mem_of_getElem? (i := 452) (by decide +kernel)) (by decide +kernel)
theorem tw_407 : Cond.selects RX4 yX4_measure yX4_measure ∈ tb := tb_of (List.mem_of_getElem? (i := 453) (by decide +kernel)) (by decide +kernel)
theorem tw_408 : Cond.code yX4_measure cX4_measure 6 none ∈ tb := tb_of (List.mem_of_getElem? (i := 454) (by decide +kernel)) (by decide +kernel)
theorem tw_410 : Cond.methodLink RX4 26 yX4_longestFrom ∈ tb := tb_of (List.mem_of_getElem? (i := 456) (by decide +kernel)) (by decide +kernel)
theorem tw_412 : Cond.instanceMethod yX4_longestFrom ∈ tb := tb_of (List.mem_of_getElem? (i := 458) (by decide +kernel)) (by decide +kernel)
theorem tw_413 : Cond.code yX4_longestFrom cX4_longestFrom 4 (some .int) ∈ tb := tb_of (List.mem_of_getElem? (i := 459) (by decide +kernel)) (by decide +kernel)
theorem tw_414 : Cond.methodLink RX4 30 Lib.Math.max.name ∈ tb := tb_of (List.mem_of_getElem? (i := 460) (by decide +kernel)) (by decide +kernel)
theorem tw_415 : Cond.static Lib.Math.max.name ∈ tb := tb_of (List.mem_of_getElem? (i := 461) (by decide +kernel)) (by decide +kernel)
theorem tw_416 : Cond.code Lib.Math.max.name Lib.Math.max.code 2 (some .int) ∈ tb := tb_of (List.mem_of_getElem? (i := 462) (by decide +kernel)) (by decide +kernel)
theorem tw_417 : Cond.methodLink RL 79 yX8_like ∈ tb := tb_of (List.mem_of_getElem? (i := 463) (by decide +kernel)) (by decide +kernel)
theorem tw_418 : Cond.instanceMethod yX8_like ∈ tb := tb_of (List.mem_of_getElem? (i := 464) (by decide +kernel)) (by decide +kernel)
theorem tw_419 : Cond.selects RX8 yX8_like yX8_like ∈ tb := tb_of (List.mem_of_getElem? (i := 465) (by decide +kernel)) (by decide +kernel)
theorem tw_420 : Cond.code yX8_like cX8_like 4 (some .int) ∈ tb := tb_of (List.mem_of_getElem? (i := 466) (by decide +kernel)) (by decide +kernel)
theorem tw_421 : Cond.methodLink RX8 185 yX6_add ∈ tb := tb_of (List.mem_of_getElem? (i := 467) (by decide +kernel)) (by decide +kernel)
theorem tw_422 : Cond.instanceMethod yX6_add ∈ tb := tb_of (List.mem_of_getElem? (i := 468) (by decide +kernel)) (by decide +kernel)
theorem tw_423 : Cond.selects RX6 yX6_add yX6_add ∈ tb := tb_of (List.mem_of_getElem? (i := 469) (by decide +kernel)) (by decide +kernel)
theorem tw_424 : Cond.code yX6_add cX6_add 4 (some .int) ∈ tb := tb_of (List.mem_of_getElem? (i := 470) (by decide +kernel)) (by decide +kernel)
theorem tw_425 : Cond.methodLink RL 84 yX8_forget ∈ tb := tb_of (List.mem_of_getElem? (i := 471) (by decide +kernel)) (by decide +kernel)
theorem tw_426 : Cond.instanceMethod yX8_forget ∈ tb := tb_of (List.mem_of_getElem? (i := 472) (by decide +kernel)) (by decide +kernel)
theorem tw_427 : Cond.selects RX8 yX8_forget yX8_forget ∈ tb := tb_of (List.mem_of_getElem? (i := 473) (by decide +kernel)) (by decide +kernel)
theorem tw_428 : Cond.code yX8_forget cX8_forget 1 (some .int) ∈ tb := tb_of (List.mem_of_getElem? (i := 474) (by decide +kernel)) (by decide +kernel)
theorem tw_429 : Cond.methodLink RX8 188 yX6_clear ∈ tb := tb_of (List.mem_of_getElem? (i := 475) (by decide +kernel)) (by decide +kernel)
theorem tw_430 : Cond.instanceMethod yX6_clear ∈ tb := tb_of (List.mem_of_getElem? (i := 476) (by decide +kernel)) (by decide +kernel)
theorem tw_431 : Cond.selects RX6 yX6_clear yX6_clear ∈ tb := tb_of (List.mem_of_getElem? (i := 477) (by decide +kernel)) (by decide +kernel)
theorem tw_432 : Cond.code yX6_clear cX6_clear 2 (some .int) ∈ tb := tb_of (List.mem_of_getElem? (i := 478) (by decide +kernel)) (by decide +kernel)
theorem tw_433 : Cond.methodLink RL 88 yX8_own ∈ tb := tb_of (List.mem_of_getElem? (i := 479) (by decide +kernel)) (by decide +kernel)
theorem tw_434 : Cond.instanceMethod yX8_own ∈ tb := tb_of (List.mem_of_getElem? (i := 480) (by decide +kernel)) (by decide +kernel)
theorem tw_435 : Cond.selects RX8 yX8_own yX8_own ∈ tb := tb_of (List.mem_of_getElem? (i := 481) (by decide +kernel)) (by decide +kernel)
theorem tw_436 : Cond.code yX8_own cX8_own 4 (some .int) ∈ tb := tb_of (List.mem_of_getElem? (i := 482) (by decide +kernel)) (by decide +kernel)
theorem tw_437 : Cond.methodLink RX8 189 yX6_fit ∈ tb := tb_of (List.mem_of_getElem? (i := 483) (by decide +kernel)) (by decide +kernel)
theorem tw_438 : Cond.instanceMethod yX6_fit ∈ tb := tb_of (List.mem_of_getElem? (i := 484) (by decide +kernel)) (by decide +kernel)
theorem tw_439 : Cond.selects RX6 yX6_fit yX6_fit ∈ tb := tb_of (List.mem_of_getElem? (i := 485) (by decide +kernel)) (by decide +kernel)
theorem tw_440 : Cond.code yX6_fit cX6_fit 3 (some .boolean) ∈ tb := tb_of (List.mem_of_getElem? (i := 486) (by decide +kernel)) (by decide +kernel)
theorem tw_441 : Cond.methodLink RX6 29 yX6_isNear ∈ tb := tb_of (List.mem_of_getElem? (i := 487) (by decide +kernel)) (by decide +kernel)
theorem tw_442 : Cond.static yX6_isNear ∈ tb := tb_of (List.mem_of_getElem? (i := 488) (by decide +kernel)) (by decide +kernel)
theorem tw_443 : Cond.code yX6_isNear cX6_isNear 3 (some .boolean) ∈ tb := tb_of (List.mem_of_getElem? (i := 489) (by decide +kernel)) (by decide +kernel)
theorem tw_444 : Cond.methodLink RX6 59 Lib.Math.abs.name ∈ tb := tb_of (List.mem_of_getElem? (i := 490) (by decide +kernel)) (by decide +kernel)
theorem tw_445 : Cond.static Lib.Math.abs.name ∈ tb := tb_of (List.mem_of_getElem? (i := 491) (by decide +kernel)) (by decide +kernel)
theorem tw_446 : Cond.code Lib.Math.abs.name Lib.Math.abs.code 1 (some .int) ∈ tb := tb_of (List.mem_of_getElem? (i := 492) (by decide +kernel)) (by decide +kernel)
theorem tw_447 : Cond.methodLink RL 92 yX8_ask ∈ tb := tb_of (List.mem_of_getElem? (i := 493) (by decide +kernel)) (by decide +kernel)
theorem tw_448 : Cond.instanceMethod yX8_ask ∈ tb := tb_of (List.mem_of_getElem? (i := 494) (by decide +kernel)) (by decide +kernel)
theorem tw_449 : Cond.selects RX8 yX8_ask yX8_ask ∈ tb := tb_of (List.mem_of_getElem? (i := 495) (by decide +kernel)) (by decide +kernel)
theorem tw_450 : Cond.code yX8_ask cX8_ask 2 (some .int) ∈ tb := tb_of (List.mem_of_getElem? (i := 496) (by decide +kernel)) (by decide +kernel)
theorem tw_451 : Cond.methodLink RX8 192 yX6_findQuestion ∈ tb := tb_of (List.mem_of_getElem? (i := 497) (by decide +kernel)) (by decide +kernel)
theorem tw_452 : Cond.instanceMethod yX6_findQuestion ∈ tb := tb_of (List.mem_of_getElem? (i := 498) (by decide +kernel)) (by decide +kernel)
theorem tw_453 : Cond.selects RX6 yX6_findQuestion yX6_findQuestion ∈ tb := tb_of (List.mem_of_getElem? (i := 499) (by decide +kernel)) (by decide +kernel)
theorem tw_454 : Cond.code yX6_findQuestion cX6_findQuestion 7 none ∈ tb := tb_of (List.mem_of_getElem? (i := 500) (by decide +kernel)) (by decide +kernel)
theorem tw_455 : Cond.methodLink RX6 39 yX6_countFitting ∈ tb := tb_of (List.mem_of_getElem? (i := 501) (by decide +kernel)) (by decide +kernel)
theorem tw_457 : Cond.instanceMethod yX6_countFitting ∈ tb := tb_of (List.mem_of_getElem? (i := 503) (by decide +kernel)) (by decide +kernel)
theorem tw_458 : Cond.code yX6_countFitting cX6_countFitting 5 (some .int) ∈ tb := tb_of (List.mem_of_getElem? (i := 504) (by decide +kernel)) (by decide +kernel)
theorem tw_460 : Cond.methodLink RX6 56 yX6_fit ∈ tb := tb_of (List.mem_of_getElem? (i := 506) (by decide +kernel)) (by decide +kernel)
theorem tw_461 : Cond.methodLink RX6 43 yX6_countNear ∈ tb := tb_of (List.mem_of_getElem? (i := 507) (by decide +kernel)) (by decide +kernel)
theorem tw_463 : Cond.instanceMethod yX6_countNear ∈ tb := tb_of (List.mem_of_getElem? (i := 509) (by decide +kernel)) (by decide +kernel)
theorem tw_464 : Cond.code yX6_countNear cX6_countNear 5 (some .int) ∈ tb := tb_of (List.mem_of_getElem? (i := 510) (by decide +kernel)) (by decide +kernel)
theorem tw_465 : Cond.methodLink RX6 47 Lib.Math.max.name ∈ tb := tb_of (List.mem_of_getElem? (i := 511) (by decide +kernel)) (by decide +kernel)
theorem tw_466 : Cond.methodLink RL 96 yX8_take ∈ tb := tb_of (List.mem_of_getElem? (i := 512) (by decide +kernel)) (by decide +kernel)
theorem tw_467 : Cond.instanceMethod yX8_take ∈ tb := tb_of (List.mem_of_getElem? (i := 513) (by decide +kernel)) (by decide +kernel)
theorem tw_468 : Cond.selects RX8 yX8_take yX8_take ∈ tb := tb_of (List.mem_of_getElem? (i := 514) (by decide +kernel)) (by decide +kernel)
theorem tw_469 : Cond.code yX8_take cX8_take 4 (some .int) ∈ tb := tb_of (List.mem_of_getElem? (i := 515) (by decide +kernel)) (by decide +kernel)
theorem tw_470 : Cond.methodLink RX8 202 yX8_firstTaking ∈ tb := tb_of (List.mem_of_getElem? (i := 516) (by decide +kernel)) (by decide +kernel)
theorem tw_471 : Cond.static yX8_firstTaking ∈ tb := tb_of (List.mem_of_getElem? (i := 517) (by decide +kernel)) (by decide +kernel)
theorem tw_472 : Cond.code yX8_firstTaking cX8_firstTaking 3 (some .int) ∈ tb := tb_of (List.mem_of_getElem? (i := 518) (by decide +kernel)) (by decide +kernel)
theorem tw_473 : Cond.methodLink RL 100 yX8_pass ∈ tb := tb_of (List.mem_of_getElem? (i := 519) (by decide +kernel)) (by decide +kernel)
theorem tw_474 : Cond.instanceMethod yX8_pass ∈ tb := tb_of (List.mem_of_getElem? (i := 520) (by decide +kernel)) (by decide +kernel)
theorem tw_475 : Cond.selects RX8 yX8_pass yX8_pass ∈ tb := tb_of (List.mem_of_getElem? (i := 521) (by decide +kernel)) (by decide +kernel)
theorem tw_476 : Cond.code yX8_pass cX8_pass 4 (some .long) ∈ tb := tb_of (List.mem_of_getElem? (i := 522) (by decide +kernel)) (by decide +kernel)
theorem tw_477 : Cond.methodLink RX8 207 yX3_weight ∈ tb := tb_of (List.mem_of_getElem? (i := 523) (by decide +kernel)) (by decide +kernel)
theorem tw_478 : Cond.static yX3_weight ∈ tb := tb_of (List.mem_of_getElem? (i := 524) (by decide +kernel)) (by decide +kernel)
theorem tw_479 : Cond.code yX3_weight cX3_weight 5 (some .long) ∈ tb := tb_of (List.mem_of_getElem? (i := 525) (by decide +kernel)) (by decide +kernel)
theorem tw_480 : Cond.constantLong RX3 9 (232792560) ∈ tb := tb_of (List.mem_of_getElem? (i := 526) (by decide +kernel)) (by decide +kernel)
theorem tw_481 : Cond.methodLink RX8 210 yX3_whole ∈ tb := tb_of (List.mem_of_getElem? (i := 527) (by decide +kernel)) (by decide +kernel)
theorem tw_482 : Cond.static yX3_whole ∈ tb := tb_of (List.mem_of_getElem? (i := 528) (by decide +kernel)) (by decide +kernel)
theorem tw_483 : Cond.code yX3_whole cX3_whole 1 (some .long) ∈ tb := tb_of (List.mem_of_getElem? (i := 529) (by decide +kernel)) (by decide +kernel)
theorem tw_484 : Cond.methodLink RL 105 yX8_passes ∈ tb := tb_of (List.mem_of_getElem? (i := 530) (by decide +kernel)) (by decide +kernel)
theorem tw_485 : Cond.instanceMethod yX8_passes ∈ tb := tb_of (List.mem_of_getElem? (i := 531) (by decide +kernel)) (by decide +kernel)
theorem tw_486 : Cond.selects RX8 yX8_passes yX8_passes ∈ tb := tb_of (List.mem_of_getElem? (i := 532) (by decide +kernel)) (by decide +kernel)
theorem tw_487 : Cond.code yX8_passes cX8_passes 2 (some .int) ∈ tb := tb_of (List.mem_of_getElem? (i := 533) (by decide +kernel)) (by decide +kernel)
theorem tw_488 : Cond.methodLink RX8 214 yX3_best ∈ tb := tb_of (List.mem_of_getElem? (i := 534) (by decide +kernel)) (by decide +kernel)
theorem tw_489 : Cond.static yX3_best ∈ tb := tb_of (List.mem_of_getElem? (i := 535) (by decide +kernel)) (by decide +kernel)
theorem tw_490 : Cond.code yX3_best cX3_best 3 (some .int) ∈ tb := tb_of (List.mem_of_getElem? (i := 536) (by decide +kernel)) (by decide +kernel)
theorem tw_491 : Cond.methodLink RX3 11 yX3_weight ∈ tb := tb_of (List.mem_of_getElem? (i := 537) (by decide +kernel)) (by decide +kernel)
theorem tw_492 : Cond.methodLink RL 109 yX8_hour ∈ tb := tb_of (List.mem_of_getElem? (i := 538) (by decide +kernel)) (by decide +kernel)
theorem tw_493 : Cond.instanceMethod yX8_hour ∈ tb := tb_of (List.mem_of_getElem? (i := 539) (by decide +kernel)) (by decide +kernel)
theorem tw_494 : Cond.selects RX8 yX8_hour yX8_hour ∈ tb := tb_of (List.mem_of_getElem? (i := 540) (by decide +kernel)) (by decide +kernel)
theorem tw_495 : Cond.code yX8_hour cX8_hour 4 (some .int) ∈ tb := tb_of (List.mem_of_getElem? (i := 541) (by decide +kernel)) (by decide +kernel)
theorem tw_496 : Cond.methodLink RX8 217 yX7_draw ∈ tb := tb_of (List.mem_of_getElem? (i := 542) (by decide +kernel)) (by decide +kernel)
theorem tw_497 : Cond.instanceMethod yX7_draw ∈ tb := tb_of (List.mem_of_getElem? (i := 543) (by decide +kernel)) (by decide +kernel)
theorem tw_498 : Cond.selects RX7 yX7_draw yX7_draw ∈ tb := tb_of (List.mem_of_getElem? (i := 544) (by decide +kernel)) (by decide +kernel)
theorem tw_499 : Cond.code yX7_draw cX7_draw 8 none ∈ tb := tb_of (List.mem_of_getElem? (i := 545) (by decide +kernel)) (by decide +kernel)
theorem tw_500 : Cond.constant RX7 49 (65537) ∈ tb := tb_of (List.mem_of_getElem? (i := 546) (by decide +kernel)) (by decide +kernel)
theorem tw_501 : Cond.methodLink RX7 50 yX7_drawnKind ∈ tb := tb_of (List.mem_of_getElem? (i := 547) (by decide +kernel)) (by decide +kernel)
theorem tw_502 : Cond.static yX7_drawnKind ∈ tb := tb_of (List.mem_of_getElem? (i := 548) (by decide +kernel)) (by decide +kernel)
theorem tw_503 : Cond.code yX7_drawnKind cX7_drawnKind 2 (some .int) ∈ tb := tb_of (List.mem_of_getElem? (i := 549) (by decide +kernel)) (by decide +kernel)
theorem tw_504 : Cond.methodLink RL 113 yX8_image ∈ tb := tb_of (List.mem_of_getElem? (i := 550) (by decide +kernel)) (by decide +kernel)
theorem tw_505 : Cond.instanceMethod yX8_image ∈ tb := tb_of (List.mem_of_getElem? (i := 551) (by decide +kernel)) (by decide +kernel)
theorem tw_506 : Cond.selects RX8 yX8_image yX8_image ∈ tb := tb_of (List.mem_of_getElem? (i := 552) (by decide +kernel)) (by decide +kernel)
theorem tw_507 : Cond.code yX8_image cX8_image 2 (some .int) ∈ tb := tb_of (List.mem_of_getElem? (i := 553) (by decide +kernel)) (by decide +kernel)
theorem tw_508 : Cond.methodLink RX8 221 yX6_copyFrom ∈ tb := tb_of (List.mem_of_getElem? (i := 554) (by decide +kernel)) (by decide +kernel)
theorem tw_509 : Cond.instanceMethod yX6_copyFrom ∈ tb := tb_of (List.mem_of_getElem? (i := 555) (by decide +kernel)) (by decide +kernel)
theorem tw_510 : Cond.selects RX6 yX6_copyFrom yX6_copyFrom ∈ tb := tb_of (List.mem_of_getElem? (i := 556) (by decide +kernel)) (by decide +kernel)
theorem tw_511 : Cond.code yX6_copyFrom cX6_copyFrom 3 none ∈ tb := tb_of (List.mem_of_getElem? (i := 557) (by decide +kernel)) (by decide +kernel)
theorem tw_512 : Cond.methodLink RL 117 yX8_restore ∈ tb := tb_of (List.mem_of_getElem? (i := 558) (by decide +kernel)) (by decide +kernel)
theorem tw_513 : Cond.instanceMethod yX8_restore ∈ tb := tb_of (List.mem_of_getElem? (i := 559) (by decide +kernel)) (by decide +kernel)
theorem tw_514 : Cond.selects RX8 yX8_restore yX8_restore ∈ tb := tb_of (List.mem_of_getElem? (i := 560) (by decide +kernel)) (by decide +kernel)
theorem tw_515 : Cond.code yX8_restore cX8_restore 2 (some .int) ∈ tb := tb_of (List.mem_of_getElem? (i := 561) (by decide +kernel)) (by decide +kernel)
theorem tw_516 : Cond.methodLink RL 121 yX8_told ∈ tb := tb_of (List.mem_of_getElem? (i := 562) (by decide +kernel)) (by decide +kernel)
theorem tw_517 : Cond.instanceMethod yX8_told ∈ tb := tb_of (List.mem_of_getElem? (i := 563) (by decide +kernel)) (by decide +kernel)
theorem tw_518 : Cond.selects RX8 yX8_told yX8_told ∈ tb := tb_of (List.mem_of_getElem? (i := 564) (by decide +kernel)) (by decide +kernel)
theorem tw_519 : Cond.code yX8_told cX8_told 2 (some .int) ∈ tb := tb_of (List.mem_of_getElem? (i := 565) (by decide +kernel)) (by decide +kernel)
theorem tw_520 : Cond.methodLink RX8 224 yX8_toldOfPlace ∈ tb := tb_of (List.mem_of_getElem? (i := 566) (by decide +kernel)) (by decide +kernel)
theorem tw_522 : Cond.instanceMethod yX8_toldOfPlace ∈ tb := tb_of (List.mem_of_getElem? (i := 568) (by decide +kernel)) (by decide +kernel)
theorem tw_523 : Cond.code yX8_toldOfPlace cX8_toldOfPlace 3 (some .int) ∈ tb := tb_of (List.mem_of_getElem? (i := 569) (by decide +kernel)) (by decide +kernel)
theorem tw_524 : Cond.methodLink RX8 228 yX8_toldOfHeir ∈ tb := tb_of (List.mem_of_getElem? (i := 570) (by decide +kernel)) (by decide +kernel)
theorem tw_526 : Cond.instanceMethod yX8_toldOfHeir ∈ tb := tb_of (List.mem_of_getElem? (i := 572) (by decide +kernel)) (by decide +kernel)
theorem tw_527 : Cond.code yX8_toldOfHeir cX8_toldOfHeir 3 (some .int) ∈ tb := tb_of (List.mem_of_getElem? (i := 573) (by decide +kernel)) (by decide +kernel)
theorem tw_528 : Cond.classLink RL 10 RX9 ∈ tb := tb_of (List.mem_of_getElem? (i := 574) (by decide +kernel)) (by decide +kernel)
theorem tw_529 : Cond.instantiable RX9 33 ∈ tb := tb_of (List.mem_of_getElem? (i := 575) (by decide +kernel)) (by decide +kernel)
theorem tw_530 : Cond.methodLink RL 12 yX9_init ∈ tb := tb_of (List.mem_of_getElem? (i := 576) (by decide +kernel)) (by decide +kernel)
theorem tw_531 : Cond.instanceMethod yX9_init ∈ tb := tb_of (List.mem_of_getElem? (i := 577) (by decide +kernel)) (by decide +kernel)
theorem tw_532 : Cond.code yX9_init cX9_init 2 none ∈ tb := tb_of (List.mem_of_getElem? (i := 578) (by decide +kernel)) (by decide +kernel)
theorem tw_533 : Cond.methodLink RX9 1 objectInit ∈ tb := tb_of (List.mem_of_getElem? (i := 579) (by decide +kernel)) (by decide +kernel)
theorem tw_534 : Cond.fieldLink RX9 7 RX9 "beat" "[I" ∈ tb := tb_of (List.mem_of_getElem? (i := 580) (by decide +kernel)) (by decide +kernel)
theorem tw_535 : Cond.fieldLink RX9 13 RX9 "nick" "[I" ∈ tb := tb_of (List.mem_of_getElem? (i := 581) (by decide +kernel)) (by decide +kernel)
theorem tw_536 : Cond.fieldLink RX9 16 RX9 "owner" "[I" ∈ tb := tb_of (List.mem_of_getElem? (i := 582) (by decide +kernel)) (by decide +kernel)
theorem tw_537 : Cond.fieldLink RX9 19 RX9 "place" "[I" ∈ tb := tb_of (List.mem_of_getElem? (i := 583) (by decide +kernel)) (by decide +kernel)
theorem tw_538 : Cond.fieldLink RX9 22 RX9 "kept" "[I" ∈ tb := tb_of (List.mem_of_getElem? (i := 584) (by decide +kernel)) (by decide +kernel)
theorem tw_539 : Cond.fieldLink RX9 25 RX9 "heard" "[I" ∈ tb := tb_of (List.mem_of_getElem? (i := 585) (by decide +kernel)) (by decide +kernel)
theorem tw_540 : Cond.fieldLink RX9 28 RX9 "chosen" "[I" ∈ tb := tb_of (List.mem_of_getElem? (i := 586) (by decide +kernel)) (by decide +kernel)
theorem tw_541 : Cond.fieldLink RX9 129 RX9 "minutes" "I" ∈ tb := tb_of (List.mem_of_getElem? (i := 587) (by decide +kernel)) (by decide +kernel)
theorem tw_542 : Cond.fieldLink RX9 31 RX9 "sightBeat" "[I" ∈ tb := tb_of (List.mem_of_getElem? (i := 588) (by decide +kernel)) (by decide +kernel)
theorem tw_543 : Cond.fieldLink RX9 34 RX9 "sightOff" "[I" ∈ tb := tb_of (List.mem_of_getElem? (i := 589) (by decide +kernel)) (by decide +kernel)
theorem tw_544 : Cond.fieldLink RX9 37 RX9 "sightIs" "[I" ∈ tb := tb_of (List.mem_of_getElem? (i := 590) (by decide +kernel)) (by decide +kernel)
theorem tw_545 : Cond.fieldLink RX9 250 RX9 "sights" "I" ∈ tb := tb_of (List.mem_of_getElem? (i := 591) (by decide +kernel)) (by decide +kernel)
theorem tw_546 : Cond.fieldLink RX9 40 RX9 "pad" "[I" ∈ tb := tb_of (List.mem_of_getElem? (i := 592) (by decide +kernel)) (by decide +kernel)
theorem tw_547 : Cond.fieldLink RX9 97 RX9 "padMany" "I" ∈ tb := tb_of (List.mem_of_getElem? (i := 593) (by decide +kernel)) (by decide +kernel)
theorem tw_548 : Cond.fieldLink RX9 43 RX9 "act" "[I" ∈ tb := tb_of (List.mem_of_getElem? (i := 594) (by decide +kernel)) (by decide +kernel)
theorem tw_549 : Cond.fieldLink RX9 46 RX9 "who" "[I" ∈ tb := tb_of (List.mem_of_getElem? (i := 595) (by decide +kernel)) (by decide +kernel)
theorem tw_550 : Cond.fieldLink RX9 49 RX9 "much" "[I" ∈ tb := tb_of (List.mem_of_getElem? (i := 596) (by decide +kernel)) (by decide +kernel)
theorem tw_551 : Cond.fieldLink RX9 101 RX9 "acts" "I" ∈ tb := tb_of (List.mem_of_getElem? (i := 597) (by decide +kernel)) (by decide +kernel)
theorem tw_552 : Cond.fieldLink RX9 135 RX9 "heardMany" "I" ∈ tb := tb_of (List.mem_of_getElem? (i := 598) (by decide +kernel)) (by decide +kernel)
theorem tw_553 : Cond.fieldLink RX9 141 RX9 "wrongNow" "I" ∈ tb := tb_of (List.mem_of_getElem? (i := 599) (by decide +kernel)) (by decide +kernel)
theorem tw_554 : Cond.fieldLink RX9 52 RX9 "had" "[I" ∈ tb := tb_of (List.mem_of_getElem? (i := 600) (by decide +kernel)) (by decide +kernel)
theorem tw_555 : Cond.fieldLink RX9 167 RX9 "badAct" "I" ∈ tb := tb_of (List.mem_of_getElem? (i := 601) (by decide +kernel)) (by decide +kernel)
theorem tw_556 : Cond.fieldLink RX9 170 RX9 "badWhy" "I" ∈ tb := tb_of (List.mem_of_getElem? (i := 602) (by decide +kernel)) (by decide +kernel)
theorem tw_557 : Cond.fieldLink RX9 161 RX9 "wrongAct" "I" ∈ tb := tb_of (List.mem_of_getElem? (i := 603) (by decide +kernel)) (by decide +kernel)
theorem tw_558 : Cond.fieldLink RX9 164 RX9 "wrongHeir" "I" ∈ tb := tb_of (List.mem_of_getElem? (i := 604) (by decide +kernel)) (by decide +kernel)
theorem tw_559 : Cond.fieldLink RX9 55 RX9 "odd" "[I" ∈ tb := tb_of (List.mem_of_getElem? (i := 605) (by decide +kernel)) (by decide +kernel)
theorem tw_560 : Cond.fieldLink RX9 58 RX9 "span" "[I" ∈ tb := tb_of (List.mem_of_getElem? (i := 606) (by decide +kernel)) (by decide +kernel)
theorem tw_561 : Cond.fieldLink RX9 61 RX9 "rise" "[I" ∈ tb := tb_of (List.mem_of_getElem? (i := 607) (by decide +kernel)) (by decide +kernel)
theorem tw_562 : Cond.fieldLink RX9 64 RX9 "wins" "[Z" ∈ tb := tb_of (List.mem_of_getElem? (i := 608) (by decide +kernel)) (by decide +kernel)
theorem tw_563 : Cond.fieldLink RX9 68 RX9 "stored" "[I" ∈ tb := tb_of (List.mem_of_getElem? (i := 609) (by decide +kernel)) (by decide +kernel)
theorem tw_564 : Cond.fieldLink RX9 71 RX9 "isStored" "[Z" ∈ tb := tb_of (List.mem_of_getElem? (i := 610) (by decide +kernel)) (by decide +kernel)
theorem tw_565 : Cond.fieldLink RX9 292 RX9 "storedAt" "I" ∈ tb := tb_of (List.mem_of_getElem? (i := 611) (by decide +kernel)) (by decide +kernel)
theorem tw_566 : Cond.fieldLink RX9 288 RX9 "isWriting" "Z" ∈ tb := tb_of (List.mem_of_getElem? (i := 612) (by decide +kernel)) (by decide +kernel)
theorem tw_634 : Cond.methodLink RL 17 yX9_cradle ∈ tb := tb_of (List.mem_of_getElem? (i := 680) (by decide +kernel)) (by decide +kernel)
theorem tw_635 : Cond.instanceMethod yX9_cradle ∈ tb := tb_of (List.mem_of_getElem? (i := 681) (by decide +kernel)) (by decide +kernel)
theorem tw_636 : Cond.selects RX9 yX9_cradle yX9_cradle ∈ tb := tb_of (List.mem_of_getElem? (i := 682) (by decide +kernel)) (by decide +kernel)
theorem tw_637 : Cond.code yX9_cradle cX9_cradle 6 (some .int) ∈ tb := tb_of (List.mem_of_getElem? (i := 683) (by decide +kernel)) (by decide +kernel)
theorem tw_638 : Cond.methodLink RX9 82 yX9_isPlace ∈ tb := tb_of (List.mem_of_getElem? (i := 684) (by decide +kernel)) (by decide +kernel)
theorem tw_639 : Cond.static yX9_isPlace ∈ tb := tb_of (List.mem_of_getElem? (i := 685) (by decide +kernel)) (by decide +kernel)
theorem tw_640 : Cond.code yX9_isPlace cX9_isPlace 1 (some .boolean) ∈ tb := tb_of (List.mem_of_getElem? (i := 686) (by decide +kernel)) (by decide +kernel)
theorem tw_641 : Cond.constantLong RX9 74 (39) ∈ tb := tb_of (List.mem_of_getElem? (i := 687) (by decide +kernel)) (by decide +kernel)
theorem tw_642 : Cond.methodLink RX9 76 yX9_in ∈ tb := tb_of (List.mem_of_getElem? (i := 688) (by decide +kernel)) (by decide +kernel)
theorem tw_643 : Cond.static yX9_in ∈ tb := tb_of (List.mem_of_getElem? (i := 689) (by decide +kernel)) (by decide +kernel)
theorem tw_644 : Cond.code yX9_in cX9_in 6 (some .boolean) ∈ tb := tb_of (List.mem_of_getElem? (i := 690) (by decide +kernel)) (by decide +kernel)
theorem tw_645 : Cond.constantLong RX9 86 (-1) ∈ tb := tb_of (List.mem_of_getElem? (i := 691) (by decide +kernel)) (by decide +kernel)
theorem tw_646 : Cond.constantLong RX9 80 (5) ∈ tb := tb_of (List.mem_of_getElem? (i := 692) (by decide +kernel)) (by decide +kernel)
theorem tw_647 : Cond.constantLong RX9 88 (9) ∈ tb := tb_of (List.mem_of_getElem? (i := 693) (by decide +kernel)) (by decide +kernel)
theorem tw_648 : Cond.methodLink RL 22 yX9_heir ∈ tb := tb_of (List.mem_of_getElem? (i := 694) (by decide +kernel)) (by decide +kernel)
theorem tw_649 : Cond.instanceMethod yX9_heir ∈ tb := tb_of (List.mem_of_getElem? (i := 695) (by decide +kernel)) (by decide +kernel)
theorem tw_650 : Cond.selects RX9 yX9_heir yX9_heir ∈ tb := tb_of (List.mem_of_getElem? (i := 696) (by decide +kernel)) (by decide +kernel)
theorem tw_651 : Cond.code yX9_heir cX9_heir 5 (some .int) ∈ tb := tb_of (List.mem_of_getElem? (i := 697) (by decide +kernel)) (by decide +kernel)
theorem tw_652 : Cond.methodLink RX9 90 yX9_isHeir ∈ tb := tb_of (List.mem_of_getElem? (i := 698) (by decide +kernel)) (by decide +kernel)
theorem tw_653 : Cond.static yX9_isHeir ∈ tb := tb_of (List.mem_of_getElem? (i := 699) (by decide +kernel)) (by decide +kernel)
theorem tw_654 : Cond.code yX9_isHeir cX9_isHeir 1 (some .boolean) ∈ tb := tb_of (List.mem_of_getElem? (i := 700) (by decide +kernel)) (by decide +kernel)
theorem tw_655 : Cond.methodLink RL 27 yX9_say ∈ tb := tb_of (List.mem_of_getElem? (i := 701) (by decide +kernel)) (by decide +kernel)
theorem tw_656 : Cond.instanceMethod yX9_say ∈ tb := tb_of (List.mem_of_getElem? (i := 702) (by decide +kernel)) (by decide +kernel)
theorem tw_657 : Cond.selects RX9 yX9_say yX9_say ∈ tb := tb_of (List.mem_of_getElem? (i := 703) (by decide +kernel)) (by decide +kernel)
theorem tw_658 : Cond.code yX9_say cX9_say 2 (some .int) ∈ tb := tb_of (List.mem_of_getElem? (i := 704) (by decide +kernel)) (by decide +kernel)
theorem tw_659 : Cond.constantLong RX9 93 (33) ∈ tb := tb_of (List.mem_of_getElem? (i := 705) (by decide +kernel)) (by decide +kernel)
theorem tw_660 : Cond.constantLong RX9 95 (126) ∈ tb := tb_of (List.mem_of_getElem? (i := 706) (by decide +kernel)) (by decide +kernel)
theorem tw_661 : Cond.methodLink RL 32 yX9_wipe ∈ tb := tb_of (List.mem_of_getElem? (i := 707) (by decide +kernel)) (by decide +kernel)
theorem tw_662 : Cond.instanceMethod yX9_wipe ∈ tb := tb_of (List.mem_of_getElem? (i := 708) (by decide +kernel)) (by decide +kernel)
theorem tw_663 : Cond.selects RX9 yX9_wipe yX9_wipe ∈ tb := tb_of (List.mem_of_getElem? (i := 709) (by decide +kernel)) (by decide +kernel)
theorem tw_664 : Cond.code yX9_wipe cX9_wipe 2 (some .int) ∈ tb := tb_of (List.mem_of_getElem? (i := 710) (by decide +kernel)) (by decide +kernel)
theorem tw_665 : Cond.methodLink RL 36 yX9_fault ∈ tb := tb_of (List.mem_of_getElem? (i := 711) (by decide +kernel)) (by decide +kernel)
theorem tw_666 : Cond.instanceMethod yX9_fault ∈ tb := tb_of (List.mem_of_getElem? (i := 712) (by decide +kernel)) (by decide +kernel)
theorem tw_667 : Cond.selects RX9 yX9_fault yX9_fault ∈ tb := tb_of (List.mem_of_getElem? (i := 713) (by decide +kernel)) (by decide +kernel)
theorem tw_668 : Cond.code yX9_fault cX9_fault 3 (some .int) ∈ tb := tb_of (List.mem_of_getElem? (i := 714) (by decide +kernel)) (by decide +kernel)
theorem tw_669 : Cond.methodLink RX9 126 yX9_readOn ∈ tb := tb_of (List.mem_of_getElem? (i := 715) (by decide +kernel)) (by decide +kernel)
theorem tw_671 : Cond.instanceMethod yX9_readOn ∈ tb := tb_of (List.mem_of_getElem? (i := 717) (by decide +kernel)) (by decide +kernel)
theorem tw_672 : Cond.code yX9_readOn cX9_readOn 3 (some .int) ∈ tb := tb_of (List.mem_of_getElem? (i := 718) (by decide +kernel)) (by decide +kernel)
theorem tw_673 : Cond.methodLink RX9 120 yX9_begin ∈ tb := tb_of (List.mem_of_getElem? (i := 719) (by decide +kernel)) (by decide +kernel)
theorem tw_675 : Cond.instanceMethod yX9_begin ∈ tb := tb_of (List.mem_of_getElem? (i := 721) (by decide +kernel)) (by decide +kernel)
theorem tw_676 : Cond.code yX9_begin cX9_begin 3 (some .int) ∈ tb := tb_of (List.mem_of_getElem? (i := 722) (by decide +kernel)) (by decide +kernel)
theorem tw_677 : Cond.constantLong RX9 104 (65) ∈ tb := tb_of (List.mem_of_getElem? (i := 723) (by decide +kernel)) (by decide +kernel)
theorem tw_678 : Cond.constantLong RX9 106 (70) ∈ tb := tb_of (List.mem_of_getElem? (i := 724) (by decide +kernel)) (by decide +kernel)
theorem tw_679 : Cond.methodLink RX9 108 yX9_close ∈ tb := tb_of (List.mem_of_getElem? (i := 725) (by decide +kernel)) (by decide +kernel)
theorem tw_681 : Cond.instanceMethod yX9_close ∈ tb := tb_of (List.mem_of_getElem? (i := 727) (by decide +kernel)) (by decide +kernel)
theorem tw_682 : Cond.code yX9_close cX9_close 2 (some .int) ∈ tb := tb_of (List.mem_of_getElem? (i := 728) (by decide +kernel)) (by decide +kernel)
theorem tw_683 : Cond.methodLink RX9 123 yX9_deed ∈ tb := tb_of (List.mem_of_getElem? (i := 729) (by decide +kernel)) (by decide +kernel)
theorem tw_685 : Cond.instanceMethod yX9_deed ∈ tb := tb_of (List.mem_of_getElem? (i := 731) (by decide +kernel)) (by decide +kernel)
theorem tw_686 : Cond.code yX9_deed cX9_deed 2 (some .int) ∈ tb := tb_of (List.mem_of_getElem? (i := 732) (by decide +kernel)) (by decide +kernel)
theorem tw_687 : Cond.methodLink RX9 116 yX9_count ∈ tb := tb_of (List.mem_of_getElem? (i := 733) (by decide +kernel)) (by decide +kernel)
theorem tw_689 : Cond.instanceMethod yX9_count ∈ tb := tb_of (List.mem_of_getElem? (i := 735) (by decide +kernel)) (by decide +kernel)
theorem tw_690 : Cond.code yX9_count cX9_count 3 (some .int) ∈ tb := tb_of (List.mem_of_getElem? (i := 736) (by decide +kernel)) (by decide +kernel)
theorem tw_691 : Cond.constantLong RX9 112 (49) ∈ tb := tb_of (List.mem_of_getElem? (i := 737) (by decide +kernel)) (by decide +kernel)
theorem tw_692 : Cond.constantLong RX9 114 (57) ∈ tb := tb_of (List.mem_of_getElem? (i := 738) (by decide +kernel)) (by decide +kernel)
theorem tw_693 : Cond.methodLink RL 40 yX9_judge ∈ tb := tb_of (List.mem_of_getElem? (i := 739) (by decide +kernel)) (by decide +kernel)
theorem tw_694 : Cond.instanceMethod yX9_judge ∈ tb := tb_of (List.mem_of_getElem? (i := 740) (by decide +kernel)) (by decide +kernel)
theorem tw_695 : Cond.selects RX9 yX9_judge yX9_judge ∈ tb := tb_of (List.mem_of_getElem? (i := 741) (by decide +kernel)) (by decide +kernel)
theorem tw_696 : Cond.code yX9_judge cX9_judge 3 (some .int) ∈ tb := tb_of (List.mem_of_getElem? (i := 742) (by decide +kernel)) (by decide +kernel)
theorem tw_697 : Cond.constantLong RX9 190 (2) ∈ tb := tb_of (List.mem_of_getElem? (i := 743) (by decide +kernel)) (by decide +kernel)
theorem tw_698 : Cond.methodLink RX9 192 yX9_refusal ∈ tb := tb_of (List.mem_of_getElem? (i := 744) (by decide +kernel)) (by decide +kernel)
theorem tw_700 : Cond.instanceMethod yX9_refusal ∈ tb := tb_of (List.mem_of_getElem? (i := 746) (by decide +kernel)) (by decide +kernel)
theorem tw_701 : Cond.code yX9_refusal cX9_refusal 1 (some .int) ∈ tb := tb_of (List.mem_of_getElem? (i := 747) (by decide +kernel)) (by decide +kernel)
theorem tw_702 : Cond.methodLink RX9 180 yX9_keepNow ∈ tb := tb_of (List.mem_of_getElem? (i := 748) (by decide +kernel)) (by decide +kernel)
theorem tw_704 : Cond.instanceMethod yX9_keepNow ∈ tb := tb_of (List.mem_of_getElem? (i := 750) (by decide +kernel)) (by decide +kernel)
theorem tw_705 : Cond.code yX9_keepNow cX9_keepNow 2 none ∈ tb := tb_of (List.mem_of_getElem? (i := 751) (by decide +kernel)) (by decide +kernel)
theorem tw_706 : Cond.methodLink RX9 183 yX9_fault ∈ tb := tb_of (List.mem_of_getElem? (i := 752) (by decide +kernel)) (by decide +kernel)
theorem tw_707 : Cond.methodLink RX9 187 yX9_goHours ∈ tb := tb_of (List.mem_of_getElem? (i := 753) (by decide +kernel)) (by decide +kernel)
theorem tw_709 : Cond.instanceMethod yX9_goHours ∈ tb := tb_of (List.mem_of_getElem? (i := 755) (by decide +kernel)) (by decide +kernel)
theorem tw_710 : Cond.code yX9_goHours cX9_goHours 3 none ∈ tb := tb_of (List.mem_of_getElem? (i := 756) (by decide +kernel)) (by decide +kernel)
theorem tw_711 : Cond.methodLink RX9 173 yX9_whyNot ∈ tb := tb_of (List.mem_of_getElem? (i := 757) (by decide +kernel)) (by decide +kernel)
theorem tw_713 : Cond.instanceMethod yX9_whyNot ∈ tb := tb_of (List.mem_of_getElem? (i := 759) (by decide +kernel)) (by decide +kernel)
theorem tw_714 : Cond.code yX9_whyNot cX9_whyNot 4 (some .int) ∈ tb := tb_of (List.mem_of_getElem? (i := 760) (by decide +kernel)) (by decide +kernel)
theorem tw_715 : Cond.methodLink RX9 132 yX9_isChosen ∈ tb := tb_of (List.mem_of_getElem? (i := 761) (by decide +kernel)) (by decide +kernel)
theorem tw_717 : Cond.instanceMethod yX9_isChosen ∈ tb := tb_of (List.mem_of_getElem? (i := 763) (by decide +kernel)) (by decide +kernel)
theorem tw_718 : Cond.code yX9_isChosen cX9_isChosen 4 (some .boolean) ∈ tb := tb_of (List.mem_of_getElem? (i := 764) (by decide +kernel)) (by decide +kernel)
theorem tw_719 : Cond.methodLink RX9 177 yX9_goOne ∈ tb := tb_of (List.mem_of_getElem? (i := 765) (by decide +kernel)) (by decide +kernel)
theorem tw_721 : Cond.instanceMethod yX9_goOne ∈ tb := tb_of (List.mem_of_getElem? (i := 767) (by decide +kernel)) (by decide +kernel)
theorem tw_722 : Cond.code yX9_goOne cX9_goOne 2 none ∈ tb := tb_of (List.mem_of_getElem? (i := 768) (by decide +kernel)) (by decide +kernel)
theorem tw_723 : Cond.methodLink RX9 157 yX9_happen ∈ tb := tb_of (List.mem_of_getElem? (i := 769) (by decide +kernel)) (by decide +kernel)
theorem tw_725 : Cond.instanceMethod yX9_happen ∈ tb := tb_of (List.mem_of_getElem? (i := 771) (by decide +kernel)) (by decide +kernel)
theorem tw_726 : Cond.code yX9_happen cX9_happen 4 none ∈ tb := tb_of (List.mem_of_getElem? (i := 772) (by decide +kernel)) (by decide +kernel)
theorem tw_727 : Cond.methodLink RX9 144 yX9_listen ∈ tb := tb_of (List.mem_of_getElem? (i := 773) (by decide +kernel)) (by decide +kernel)
theorem tw_729 : Cond.instanceMethod yX9_listen ∈ tb := tb_of (List.mem_of_getElem? (i := 775) (by decide +kernel)) (by decide +kernel)
theorem tw_730 : Cond.code yX9_listen cX9_listen 2 none ∈ tb := tb_of (List.mem_of_getElem? (i := 776) (by decide +kernel)) (by decide +kernel)
theorem tw_731 : Cond.methodLink RX9 138 yX9_less ∈ tb := tb_of (List.mem_of_getElem? (i := 777) (by decide +kernel)) (by decide +kernel)
theorem tw_732 : Cond.static yX9_less ∈ tb := tb_of (List.mem_of_getElem? (i := 778) (by decide +kernel)) (by decide +kernel)
theorem tw_733 : Cond.code yX9_less cX9_less 2 (some .int) ∈ tb := tb_of (List.mem_of_getElem? (i := 779) (by decide +kernel)) (by decide +kernel)
theorem tw_734 : Cond.methodLink RX9 148 yX9_swap ∈ tb := tb_of (List.mem_of_getElem? (i := 780) (by decide +kernel)) (by decide +kernel)
theorem tw_736 : Cond.instanceMethod yX9_swap ∈ tb := tb_of (List.mem_of_getElem? (i := 782) (by decide +kernel)) (by decide +kernel)
theorem tw_737 : Cond.code yX9_swap cX9_swap 5 none ∈ tb := tb_of (List.mem_of_getElem? (i := 783) (by decide +kernel)) (by decide +kernel)
theorem tw_738 : Cond.methodLink RX9 151 yX9_choose ∈ tb := tb_of (List.mem_of_getElem? (i := 784) (by decide +kernel)) (by decide +kernel)
theorem tw_740 : Cond.instanceMethod yX9_choose ∈ tb := tb_of (List.mem_of_getElem? (i := 786) (by decide +kernel)) (by decide +kernel)
theorem tw_741 : Cond.code yX9_choose cX9_choose 2 none ∈ tb := tb_of (List.mem_of_getElem? (i := 787) (by decide +kernel)) (by decide +kernel)
theorem tw_742 : Cond.methodLink RX9 154 yX9_passMinute ∈ tb := tb_of (List.mem_of_getElem? (i := 788) (by decide +kernel)) (by decide +kernel)
theorem tw_744 : Cond.instanceMethod yX9_passMinute ∈ tb := tb_of (List.mem_of_getElem? (i := 790) (by decide +kernel)) (by decide +kernel)
theorem tw_745 : Cond.code yX9_passMinute cX9_passMinute 3 none ∈ tb := tb_of (List.mem_of_getElem? (i := 791) (by decide +kernel)) (by decide +kernel)
theorem tw_746 : Cond.methodLink RX9 195 yX9_back ∈ tb := tb_of (List.mem_of_getElem? (i := 792) (by decide +kernel)) (by decide +kernel)
theorem tw_748 : Cond.instanceMethod yX9_back ∈ tb := tb_of (List.mem_of_getElem? (i := 794) (by decide +kernel)) (by decide +kernel)
theorem tw_749 : Cond.code yX9_back cX9_back 3 (some .int) ∈ tb := tb_of (List.mem_of_getElem? (i := 795) (by decide +kernel)) (by decide +kernel)
theorem tw_750 : Cond.methodLink RL 45 yX9_behind ∈ tb := tb_of (List.mem_of_getElem? (i := 796) (by decide +kernel)) (by decide +kernel)
theorem tw_751 : Cond.instanceMethod yX9_behind ∈ tb := tb_of (List.mem_of_getElem? (i := 797) (by decide +kernel)) (by decide +kernel)
theorem tw_752 : Cond.selects RX9 yX9_behind yX9_behind ∈ tb := tb_of (List.mem_of_getElem? (i := 798) (by decide +kernel)) (by decide +kernel)
theorem tw_753 : Cond.code yX9_behind cX9_behind 4 (some .int) ∈ tb := tb_of (List.mem_of_getElem? (i := 799) (by decide +kernel)) (by decide +kernel)
theorem tw_754 : Cond.methodLink RL 49 yX9_stands ∈ tb := tb_of (List.mem_of_getElem? (i := 800) (by decide +kernel)) (by decide +kernel)
theorem tw_755 : Cond.instanceMethod yX9_stands ∈ tb := tb_of (List.mem_of_getElem? (i := 801) (by decide +kernel)) (by decide +kernel)
theorem tw_756 : Cond.selects RX9 yX9_stands yX9_stands ∈ tb := tb_of (List.mem_of_getElem? (i := 802) (by decide +kernel)) (by decide +kernel)
theorem tw_757 : Cond.code yX9_stands cX9_stands 4 (some .int) ∈ tb := tb_of (List.mem_of_getElem? (i := 803) (by decide +kernel)) (by decide +kernel)
theorem tw_758 : Cond.methodLink RL 53 yX9_house ∈ tb := tb_of (List.mem_of_getElem? (i := 804) (by decide +kernel)) (by decide +kernel)
theorem tw_759 : Cond.instanceMethod yX9_house ∈ tb := tb_of (List.mem_of_getElem? (i := 805) (by decide +kernel)) (by decide +kernel)
theorem tw_760 : Cond.selects RX9 yX9_house yX9_house ∈ tb := tb_of (List.mem_of_getElem? (i := 806) (by decide +kernel)) (by decide +kernel)
theorem tw_761 : Cond.code yX9_house cX9_house 3 (some .int) ∈ tb := tb_of (List.mem_of_getElem? (i := 807) (by decide +kernel)) (by decide +kernel)
theorem tw_762 : Cond.constantLong RX9 207 (3) ∈ tb := tb_of (List.mem_of_getElem? (i := 808) (by decide +kernel)) (by decide +kernel)
theorem tw_763 : Cond.methodLink RX9 209 yX9_ofHouse ∈ tb := tb_of (List.mem_of_getElem? (i := 809) (by decide +kernel)) (by decide +kernel)
theorem tw_765 : Cond.instanceMethod yX9_ofHouse ∈ tb := tb_of (List.mem_of_getElem? (i := 811) (by decide +kernel)) (by decide +kernel)
theorem tw_766 : Cond.code yX9_ofHouse cX9_ofHouse 2 (some .int) ∈ tb := tb_of (List.mem_of_getElem? (i := 812) (by decide +kernel)) (by decide +kernel)
theorem tw_767 : Cond.methodLink RX9 198 yX9_whoChose ∈ tb := tb_of (List.mem_of_getElem? (i := 813) (by decide +kernel)) (by decide +kernel)
theorem tw_769 : Cond.instanceMethod yX9_whoChose ∈ tb := tb_of (List.mem_of_getElem? (i := 815) (by decide +kernel)) (by decide +kernel)
theorem tw_770 : Cond.code yX9_whoChose cX9_whoChose 3 (some .int) ∈ tb := tb_of (List.mem_of_getElem? (i := 816) (by decide +kernel)) (by decide +kernel)
theorem tw_771 : Cond.methodLink RX9 201 yX9_whoRight ∈ tb := tb_of (List.mem_of_getElem? (i := 817) (by decide +kernel)) (by decide +kernel)
theorem tw_773 : Cond.instanceMethod yX9_whoRight ∈ tb := tb_of (List.mem_of_getElem? (i := 819) (by decide +kernel)) (by decide +kernel)
theorem tw_774 : Cond.code yX9_whoRight cX9_whoRight 4 (some .int) ∈ tb := tb_of (List.mem_of_getElem? (i := 820) (by decide +kernel)) (by decide +kernel)
theorem tw_775 : Cond.methodLink RX9 204 yX9_nickMany ∈ tb := tb_of (List.mem_of_getElem? (i := 821) (by decide +kernel)) (by decide +kernel)
theorem tw_777 : Cond.instanceMethod yX9_nickMany ∈ tb := tb_of (List.mem_of_getElem? (i := 823) (by decide +kernel)) (by decide +kernel)
theorem tw_778 : Cond.code yX9_nickMany cX9_nickMany 3 (some .int) ∈ tb := tb_of (List.mem_of_getElem? (i := 824) (by decide +kernel)) (by decide +kernel)
theorem tw_779 : Cond.methodLink RL 57 yX9_wrong ∈ tb := tb_of (List.mem_of_getElem? (i := 825) (by decide +kernel)) (by decide +kernel)
theorem tw_780 : Cond.instanceMethod yX9_wrong ∈ tb := tb_of (List.mem_of_getElem? (i := 826) (by decide +kernel)) (by decide +kernel)
theorem tw_781 : Cond.selects RX9 yX9_wrong yX9_wrong ∈ tb := tb_of (List.mem_of_getElem? (i := 827) (by decide +kernel)) (by decide +kernel)
theorem tw_782 : Cond.code yX9_wrong cX9_wrong 3 (some .int) ∈ tb := tb_of (List.mem_of_getElem? (i := 828) (by decide +kernel)) (by decide +kernel)
theorem tw_783 : Cond.methodLink RL 61 yX9_done ∈ tb := tb_of (List.mem_of_getElem? (i := 829) (by decide +kernel)) (by decide +kernel)
theorem tw_784 : Cond.instanceMethod yX9_done ∈ tb := tb_of (List.mem_of_getElem? (i := 830) (by decide +kernel)) (by decide +kernel)
theorem tw_785 : Cond.selects RX9 yX9_done yX9_done ∈ tb := tb_of (List.mem_of_getElem? (i := 831) (by decide +kernel)) (by decide +kernel)
theorem tw_786 : Cond.code yX9_done cX9_done 2 (some .int) ∈ tb := tb_of (List.mem_of_getElem? (i := 832) (by decide +kernel)) (by decide +kernel)
theorem tw_787 : Cond.methodLink RL 66 yX9_seek ∈ tb := tb_of (List.mem_of_getElem? (i := 833) (by decide +kernel)) (by decide +kernel)
theorem tw_788 : Cond.instanceMethod yX9_seek ∈ tb := tb_of (List.mem_of_getElem? (i := 834) (by decide +kernel)) (by decide +kernel)
theorem tw_789 : Cond.selects RX9 yX9_seek yX9_seek ∈ tb := tb_of (List.mem_of_getElem? (i := 835) (by decide +kernel)) (by decide +kernel)
theorem tw_790 : Cond.code yX9_seek cX9_seek 5 (some .long) ∈ tb := tb_of (List.mem_of_getElem? (i := 836) (by decide +kernel)) (by decide +kernel)
theorem tw_791 : Cond.methodLink RX9 219 yX9_readBoth ∈ tb := tb_of (List.mem_of_getElem? (i := 837) (by decide +kernel)) (by decide +kernel)
theorem tw_793 : Cond.instanceMethod yX9_readBoth ∈ tb := tb_of (List.mem_of_getElem? (i := 839) (by decide +kernel)) (by decide +kernel)
theorem tw_794 : Cond.code yX9_readBoth cX9_readBoth 7 (some .boolean) ∈ tb := tb_of (List.mem_of_getElem? (i := 840) (by decide +kernel)) (by decide +kernel)
theorem tw_795 : Cond.methodLink RX9 212 yX9_isRow ∈ tb := tb_of (List.mem_of_getElem? (i := 841) (by decide +kernel)) (by decide +kernel)
theorem tw_796 : Cond.static yX9_isRow ∈ tb := tb_of (List.mem_of_getElem? (i := 842) (by decide +kernel)) (by decide +kernel)
theorem tw_797 : Cond.code yX9_isRow cX9_isRow 5 (some .boolean) ∈ tb := tb_of (List.mem_of_getElem? (i := 843) (by decide +kernel)) (by decide +kernel)
theorem tw_798 : Cond.constantLong RX9 223 (-1000000000000000002) ∈ tb := tb_of (List.mem_of_getElem? (i := 844) (by decide +kernel)) (by decide +kernel)
theorem tw_799 : Cond.methodLink RX9 225 yX9_timeOf ∈ tb := tb_of (List.mem_of_getElem? (i := 845) (by decide +kernel)) (by decide +kernel)
theorem tw_801 : Cond.instanceMethod yX9_timeOf ∈ tb := tb_of (List.mem_of_getElem? (i := 847) (by decide +kernel)) (by decide +kernel)
theorem tw_802 : Cond.code yX9_timeOf cX9_timeOf 6 (some .int) ∈ tb := tb_of (List.mem_of_getElem? (i := 848) (by decide +kernel)) (by decide +kernel)
theorem tw_803 : Cond.methodLink RX9 216 yX9_nextOf ∈ tb := tb_of (List.mem_of_getElem? (i := 849) (by decide +kernel)) (by decide +kernel)
theorem tw_805 : Cond.instanceMethod yX9_nextOf ∈ tb := tb_of (List.mem_of_getElem? (i := 851) (by decide +kernel)) (by decide +kernel)
theorem tw_806 : Cond.code yX9_nextOf cX9_nextOf 7 (some .int) ∈ tb := tb_of (List.mem_of_getElem? (i := 852) (by decide +kernel)) (by decide +kernel)
theorem tw_807 : Cond.methodLink RX9 228 yX9_sumOf ∈ tb := tb_of (List.mem_of_getElem? (i := 853) (by decide +kernel)) (by decide +kernel)
theorem tw_809 : Cond.instanceMethod yX9_sumOf ∈ tb := tb_of (List.mem_of_getElem? (i := 855) (by decide +kernel)) (by decide +kernel)
theorem tw_810 : Cond.code yX9_sumOf cX9_sumOf 4 (some .int) ∈ tb := tb_of (List.mem_of_getElem? (i := 856) (by decide +kernel)) (by decide +kernel)
theorem tw_811 : Cond.methodLink RX9 231 yX9_lowest ∈ tb := tb_of (List.mem_of_getElem? (i := 857) (by decide +kernel)) (by decide +kernel)
theorem tw_812 : Cond.static yX9_lowest ∈ tb := tb_of (List.mem_of_getElem? (i := 858) (by decide +kernel)) (by decide +kernel)
theorem tw_813 : Cond.code yX9_lowest cX9_lowest 11 (some .long) ∈ tb := tb_of (List.mem_of_getElem? (i := 859) (by decide +kernel)) (by decide +kernel)
theorem tw_814 : Cond.methodLink RL 70 yX9_looks ∈ tb := tb_of (List.mem_of_getElem? (i := 860) (by decide +kernel)) (by decide +kernel)
theorem tw_815 : Cond.instanceMethod yX9_looks ∈ tb := tb_of (List.mem_of_getElem? (i := 861) (by decide +kernel)) (by decide +kernel)
theorem tw_816 : Cond.selects RX9 yX9_looks yX9_looks ∈ tb := tb_of (List.mem_of_getElem? (i := 862) (by decide +kernel)) (by decide +kernel)
theorem tw_817 : Cond.code yX9_looks cX9_looks 4 (some .int) ∈ tb := tb_of (List.mem_of_getElem? (i := 863) (by decide +kernel)) (by decide +kernel)
theorem tw_818 : Cond.methodLink RL 74 yX9_mix ∈ tb := tb_of (List.mem_of_getElem? (i := 864) (by decide +kernel)) (by decide +kernel)
theorem tw_819 : Cond.instanceMethod yX9_mix ∈ tb := tb_of (List.mem_of_getElem? (i := 865) (by decide +kernel)) (by decide +kernel)
theorem tw_820 : Cond.selects RX9 yX9_mix yX9_mix ∈ tb := tb_of (List.mem_of_getElem? (i := 866) (by decide +kernel)) (by decide +kernel)
theorem tw_821 : Cond.code yX9_mix cX9_mix 8 (some .int) ∈ tb := tb_of (List.mem_of_getElem? (i := 867) (by decide +kernel)) (by decide +kernel)
theorem tw_822 : Cond.constantLong RX9 238 (998) ∈ tb := tb_of (List.mem_of_getElem? (i := 868) (by decide +kernel)) (by decide +kernel)
theorem tw_823 : Cond.constantLong RX9 240 (999999999) ∈ tb := tb_of (List.mem_of_getElem? (i := 869) (by decide +kernel)) (by decide +kernel)
theorem tw_824 : Cond.methodLink RX9 242 yX9_orderOf ∈ tb := tb_of (List.mem_of_getElem? (i := 870) (by decide +kernel)) (by decide +kernel)
theorem tw_825 : Cond.static yX9_orderOf ∈ tb := tb_of (List.mem_of_getElem? (i := 871) (by decide +kernel)) (by decide +kernel)
theorem tw_826 : Cond.code yX9_orderOf cX9_orderOf 3 (some .int) ∈ tb := tb_of (List.mem_of_getElem? (i := 872) (by decide +kernel)) (by decide +kernel)
theorem tw_827 : Cond.methodLink RX9 235 yX9_mixedOnce ∈ tb := tb_of (List.mem_of_getElem? (i := 873) (by decide +kernel)) (by decide +kernel)
theorem tw_828 : Cond.static yX9_mixedOnce ∈ tb := tb_of (List.mem_of_getElem? (i := 874) (by decide +kernel)) (by decide +kernel)
theorem tw_829 : Cond.code yX9_mixedOnce cX9_mixedOnce 2 (some .int) ∈ tb := tb_of (List.mem_of_getElem? (i := 875) (by decide +kernel)) (by decide +kernel)
theorem tw_830 : Cond.methodLink RL 78 yX9_rises ∈ tb := tb_of (List.mem_of_getElem? (i := 876) (by decide +kernel)) (by decide +kernel)
theorem tw_831 : Cond.instanceMethod yX9_rises ∈ tb := tb_of (List.mem_of_getElem? (i := 877) (by decide +kernel)) (by decide +kernel)
theorem tw_832 : Cond.selects RX9 yX9_rises yX9_rises ∈ tb := tb_of (List.mem_of_getElem? (i := 878) (by decide +kernel)) (by decide +kernel)
theorem tw_833 : Cond.code yX9_rises cX9_rises 5 (some .int) ∈ tb := tb_of (List.mem_of_getElem? (i := 879) (by decide +kernel)) (by decide +kernel)
theorem tw_834 : Cond.methodLink RX9 245 yX9_riseFrom ∈ tb := tb_of (List.mem_of_getElem? (i := 880) (by decide +kernel)) (by decide +kernel)
theorem tw_836 : Cond.instanceMethod yX9_riseFrom ∈ tb := tb_of (List.mem_of_getElem? (i := 882) (by decide +kernel)) (by decide +kernel)
theorem tw_837 : Cond.code yX9_riseFrom cX9_riseFrom 4 (some .int) ∈ tb := tb_of (List.mem_of_getElem? (i := 883) (by decide +kernel)) (by decide +kernel)
theorem tw_838 : Cond.methodLink RL 83 yX9_like ∈ tb := tb_of (List.mem_of_getElem? (i := 884) (by decide +kernel)) (by decide +kernel)
theorem tw_839 : Cond.instanceMethod yX9_like ∈ tb := tb_of (List.mem_of_getElem? (i := 885) (by decide +kernel)) (by decide +kernel)
theorem tw_840 : Cond.selects RX9 yX9_like yX9_like ∈ tb := tb_of (List.mem_of_getElem? (i := 886) (by decide +kernel)) (by decide +kernel)
theorem tw_841 : Cond.code yX9_like cX9_like 4 (some .int) ∈ tb := tb_of (List.mem_of_getElem? (i := 887) (by decide +kernel)) (by decide +kernel)
theorem tw_842 : Cond.constantLong RX9 248 (8) ∈ tb := tb_of (List.mem_of_getElem? (i := 888) (by decide +kernel)) (by decide +kernel)
theorem tw_843 : Cond.methodLink RL 87 yX9_forget ∈ tb := tb_of (List.mem_of_getElem? (i := 889) (by decide +kernel)) (by decide +kernel)
theorem tw_844 : Cond.instanceMethod yX9_forget ∈ tb := tb_of (List.mem_of_getElem? (i := 890) (by decide +kernel)) (by decide +kernel)
theorem tw_845 : Cond.selects RX9 yX9_forget yX9_forget ∈ tb := tb_of (List.mem_of_getElem? (i := 891) (by decide +kernel)) (by decide +kernel)
theorem tw_846 : Cond.code yX9_forget cX9_forget 2 (some .int) ∈ tb := tb_of (List.mem_of_getElem? (i := 892) (by decide +kernel)) (by decide +kernel)
theorem tw_847 : Cond.methodLink RL 91 yX9_own ∈ tb := tb_of (List.mem_of_getElem? (i := 893) (by decide +kernel)) (by decide +kernel)
theorem tw_848 : Cond.instanceMethod yX9_own ∈ tb := tb_of (List.mem_of_getElem? (i := 894) (by decide +kernel)) (by decide +kernel)
theorem tw_849 : Cond.selects RX9 yX9_own yX9_own ∈ tb := tb_of (List.mem_of_getElem? (i := 895) (by decide +kernel)) (by decide +kernel)
theorem tw_850 : Cond.code yX9_own cX9_own 4 (some .int) ∈ tb := tb_of (List.mem_of_getElem? (i := 896) (by decide +kernel)) (by decide +kernel)
theorem tw_851 : Cond.methodLink RX9 256 yX9_isFit ∈ tb := tb_of (List.mem_of_getElem? (i := 897) (by decide +kernel)) (by decide +kernel)
theorem tw_853 : Cond.instanceMethod yX9_isFit ∈ tb := tb_of (List.mem_of_getElem? (i := 899) (by decide +kernel)) (by decide +kernel)
theorem tw_854 : Cond.code yX9_isFit cX9_isFit 4 (some .boolean) ∈ tb := tb_of (List.mem_of_getElem? (i := 900) (by decide +kernel)) (by decide +kernel)
theorem tw_855 : Cond.methodLink RX9 253 yX9_isLike ∈ tb := tb_of (List.mem_of_getElem? (i := 901) (by decide +kernel)) (by decide +kernel)
theorem tw_856 : Cond.static yX9_isLike ∈ tb := tb_of (List.mem_of_getElem? (i := 902) (by decide +kernel)) (by decide +kernel)
theorem tw_857 : Cond.code yX9_isLike cX9_isLike 3 (some .boolean) ∈ tb := tb_of (List.mem_of_getElem? (i := 903) (by decide +kernel)) (by decide +kernel)
theorem tw_858 : Cond.methodLink RL 95 yX9_ask ∈ tb := tb_of (List.mem_of_getElem? (i := 904) (by decide +kernel)) (by decide +kernel)
theorem tw_859 : Cond.instanceMethod yX9_ask ∈ tb := tb_of (List.mem_of_getElem? (i := 905) (by decide +kernel)) (by decide +kernel)
theorem tw_860 : Cond.selects RX9 yX9_ask yX9_ask ∈ tb := tb_of (List.mem_of_getElem? (i := 906) (by decide +kernel)) (by decide +kernel)
theorem tw_861 : Cond.code yX9_ask cX9_ask 6 (some .int) ∈ tb := tb_of (List.mem_of_getElem? (i := 907) (by decide +kernel)) (by decide +kernel)
theorem tw_862 : Cond.methodLink RX9 259 yX9_mostLeft ∈ tb := tb_of (List.mem_of_getElem? (i := 908) (by decide +kernel)) (by decide +kernel)
theorem tw_864 : Cond.instanceMethod yX9_mostLeft ∈ tb := tb_of (List.mem_of_getElem? (i := 910) (by decide +kernel)) (by decide +kernel)
theorem tw_865 : Cond.code yX9_mostLeft cX9_mostLeft 7 (some .int) ∈ tb := tb_of (List.mem_of_getElem? (i := 911) (by decide +kernel)) (by decide +kernel)
theorem tw_866 : Cond.methodLink RL 99 yX9_take ∈ tb := tb_of (List.mem_of_getElem? (i := 912) (by decide +kernel)) (by decide +kernel)
theorem tw_867 : Cond.instanceMethod yX9_take ∈ tb := tb_of (List.mem_of_getElem? (i := 913) (by decide +kernel)) (by decide +kernel)
theorem tw_868 : Cond.selects RX9 yX9_take yX9_take ∈ tb := tb_of (List.mem_of_getElem? (i := 914) (by decide +kernel)) (by decide +kernel)
theorem tw_869 : Cond.code yX9_take cX9_take 4 (some .int) ∈ tb := tb_of (List.mem_of_getElem? (i := 915) (by decide +kernel)) (by decide +kernel)
theorem tw_870 : Cond.constantLong RX9 262 (999) ∈ tb := tb_of (List.mem_of_getElem? (i := 916) (by decide +kernel)) (by decide +kernel)
theorem tw_871 : Cond.methodLink RX9 264 yX9_leastTake ∈ tb := tb_of (List.mem_of_getElem? (i := 917) (by decide +kernel)) (by decide +kernel)
theorem tw_873 : Cond.instanceMethod yX9_leastTake ∈ tb := tb_of (List.mem_of_getElem? (i := 919) (by decide +kernel)) (by decide +kernel)
theorem tw_874 : Cond.code yX9_leastTake cX9_leastTake 4 (some .int) ∈ tb := tb_of (List.mem_of_getElem? (i := 920) (by decide +kernel)) (by decide +kernel)
theorem tw_875 : Cond.methodLink RL 104 yX9_pass ∈ tb := tb_of (List.mem_of_getElem? (i := 921) (by decide +kernel)) (by decide +kernel)
theorem tw_876 : Cond.instanceMethod yX9_pass ∈ tb := tb_of (List.mem_of_getElem? (i := 922) (by decide +kernel)) (by decide +kernel)
theorem tw_877 : Cond.selects RX9 yX9_pass yX9_pass ∈ tb := tb_of (List.mem_of_getElem? (i := 923) (by decide +kernel)) (by decide +kernel)
theorem tw_878 : Cond.code yX9_pass cX9_pass 4 (some .long) ∈ tb := tb_of (List.mem_of_getElem? (i := 924) (by decide +kernel)) (by decide +kernel)
theorem tw_879 : Cond.constantLong RX9 269 (20) ∈ tb := tb_of (List.mem_of_getElem? (i := 925) (by decide +kernel)) (by decide +kernel)
theorem tw_880 : Cond.methodLink RX9 271 yX9_likely ∈ tb := tb_of (List.mem_of_getElem? (i := 926) (by decide +kernel)) (by decide +kernel)
theorem tw_881 : Cond.static yX9_likely ∈ tb := tb_of (List.mem_of_getElem? (i := 927) (by decide +kernel)) (by decide +kernel)
theorem tw_882 : Cond.code yX9_likely cX9_likely 5 (some .long) ∈ tb := tb_of (List.mem_of_getElem? (i := 928) (by decide +kernel)) (by decide +kernel)
theorem tw_883 : Cond.constantLong RX9 267 (232792560) ∈ tb := tb_of (List.mem_of_getElem? (i := 929) (by decide +kernel)) (by decide +kernel)
theorem tw_884 : Cond.methodLink RL 108 yX9_passes ∈ tb := tb_of (List.mem_of_getElem? (i := 930) (by decide +kernel)) (by decide +kernel)
theorem tw_885 : Cond.instanceMethod yX9_passes ∈ tb := tb_of (List.mem_of_getElem? (i := 931) (by decide +kernel)) (by decide +kernel)
theorem tw_886 : Cond.selects RX9 yX9_passes yX9_passes ∈ tb := tb_of (List.mem_of_getElem? (i := 932) (by decide +kernel)) (by decide +kernel)
theorem tw_887 : Cond.code yX9_passes cX9_passes 4 (some .int) ∈ tb := tb_of (List.mem_of_getElem? (i := 933) (by decide +kernel)) (by decide +kernel)
theorem tw_888 : Cond.methodLink RL 112 yX9_hour ∈ tb := tb_of (List.mem_of_getElem? (i := 934) (by decide +kernel)) (by decide +kernel)
theorem tw_889 : Cond.instanceMethod yX9_hour ∈ tb := tb_of (List.mem_of_getElem? (i := 935) (by decide +kernel)) (by decide +kernel)
theorem tw_890 : Cond.selects RX9 yX9_hour yX9_hour ∈ tb := tb_of (List.mem_of_getElem? (i := 936) (by decide +kernel)) (by decide +kernel)
theorem tw_891 : Cond.code yX9_hour cX9_hour 9 (some .int) ∈ tb := tb_of (List.mem_of_getElem? (i := 937) (by decide +kernel)) (by decide +kernel)
theorem tw_892 : Cond.constantLong RX9 275 (9999) ∈ tb := tb_of (List.mem_of_getElem? (i := 938) (by decide +kernel)) (by decide +kernel)
theorem tw_893 : Cond.constantLong RX9 277 (99) ∈ tb := tb_of (List.mem_of_getElem? (i := 939) (by decide +kernel)) (by decide +kernel)
theorem tw_894 : Cond.constantLong RX9 279 (75) ∈ tb := tb_of (List.mem_of_getElem? (i := 940) (by decide +kernel)) (by decide +kernel)
theorem tw_895 : Cond.constantLong RX9 281 (74) ∈ tb := tb_of (List.mem_of_getElem? (i := 941) (by decide +kernel)) (by decide +kernel)
theorem tw_896 : Cond.constantLong RX9 283 (65537) ∈ tb := tb_of (List.mem_of_getElem? (i := 942) (by decide +kernel)) (by decide +kernel)
theorem tw_897 : Cond.methodLink RX9 285 yX9_actBy ∈ tb := tb_of (List.mem_of_getElem? (i := 943) (by decide +kernel)) (by decide +kernel)
theorem tw_898 : Cond.static yX9_actBy ∈ tb := tb_of (List.mem_of_getElem? (i := 944) (by decide +kernel)) (by decide +kernel)
theorem tw_899 : Cond.code yX9_actBy cX9_actBy 2 (some .int) ∈ tb := tb_of (List.mem_of_getElem? (i := 945) (by decide +kernel)) (by decide +kernel)
theorem tw_900 : Cond.methodLink RL 116 yX9_image ∈ tb := tb_of (List.mem_of_getElem? (i := 946) (by decide +kernel)) (by decide +kernel)
theorem tw_901 : Cond.instanceMethod yX9_image ∈ tb := tb_of (List.mem_of_getElem? (i := 947) (by decide +kernel)) (by decide +kernel)
theorem tw_902 : Cond.selects RX9 yX9_image yX9_image ∈ tb := tb_of (List.mem_of_getElem? (i := 948) (by decide +kernel)) (by decide +kernel)
theorem tw_903 : Cond.code yX9_image cX9_image 2 (some .int) ∈ tb := tb_of (List.mem_of_getElem? (i := 949) (by decide +kernel)) (by decide +kernel)
theorem tw_904 : Cond.methodLink RX9 302 yX9_passAll ∈ tb := tb_of (List.mem_of_getElem? (i := 950) (by decide +kernel)) (by decide +kernel)
theorem tw_906 : Cond.instanceMethod yX9_passAll ∈ tb := tb_of (List.mem_of_getElem? (i := 952) (by decide +kernel)) (by decide +kernel)
theorem tw_907 : Cond.code yX9_passAll cX9_passAll 1 none ∈ tb := tb_of (List.mem_of_getElem? (i := 953) (by decide +kernel)) (by decide +kernel)
theorem tw_908 : Cond.methodLink RX9 295 yX9_put ∈ tb := tb_of (List.mem_of_getElem? (i := 954) (by decide +kernel)) (by decide +kernel)
theorem tw_910 : Cond.instanceMethod yX9_put ∈ tb := tb_of (List.mem_of_getElem? (i := 956) (by decide +kernel)) (by decide +kernel)
theorem tw_911 : Cond.code yX9_put cX9_put 3 (some .int) ∈ tb := tb_of (List.mem_of_getElem? (i := 957) (by decide +kernel)) (by decide +kernel)
theorem tw_912 : Cond.methodLink RX9 298 yX9_passRow ∈ tb := tb_of (List.mem_of_getElem? (i := 958) (by decide +kernel)) (by decide +kernel)
theorem tw_914 : Cond.instanceMethod yX9_passRow ∈ tb := tb_of (List.mem_of_getElem? (i := 960) (by decide +kernel)) (by decide +kernel)
theorem tw_915 : Cond.code yX9_passRow cX9_passRow 4 none ∈ tb := tb_of (List.mem_of_getElem? (i := 961) (by decide +kernel)) (by decide +kernel)
theorem tw_916 : Cond.methodLink RL 120 yX9_restore ∈ tb := tb_of (List.mem_of_getElem? (i := 962) (by decide +kernel)) (by decide +kernel)
theorem tw_917 : Cond.instanceMethod yX9_restore ∈ tb := tb_of (List.mem_of_getElem? (i := 963) (by decide +kernel)) (by decide +kernel)
theorem tw_918 : Cond.selects RX9 yX9_restore yX9_restore ∈ tb := tb_of (List.mem_of_getElem? (i := 964) (by decide +kernel)) (by decide +kernel)
theorem tw_919 : Cond.code yX9_restore cX9_restore 2 (some .int) ∈ tb := tb_of (List.mem_of_getElem? (i := 965) (by decide +kernel)) (by decide +kernel)
theorem tw_920 : Cond.methodLink RL 124 yX9_told ∈ tb := tb_of (List.mem_of_getElem? (i := 966) (by decide +kernel)) (by decide +kernel)
theorem tw_921 : Cond.instanceMethod yX9_told ∈ tb := tb_of (List.mem_of_getElem? (i := 967) (by decide +kernel)) (by decide +kernel)
theorem tw_922 : Cond.selects RX9 yX9_told yX9_told ∈ tb := tb_of (List.mem_of_getElem? (i := 968) (by decide +kernel)) (by decide +kernel)
theorem tw_923 : Cond.code yX9_told cX9_told 2 (some .int) ∈ tb := tb_of (List.mem_of_getElem? (i := 969) (by decide +kernel)) (by decide +kernel)
theorem tw_924 : Cond.constantLong RX9 305 (100) ∈ tb := tb_of (List.mem_of_getElem? (i := 970) (by decide +kernel)) (by decide +kernel)
theorem tw_925 : Cond.constantLong RX9 307 (399) ∈ tb := tb_of (List.mem_of_getElem? (i := 971) (by decide +kernel)) (by decide +kernel)
theorem tw_926 : Cond.methodLink RX9 309 yX9_toldOfPlace ∈ tb := tb_of (List.mem_of_getElem? (i := 972) (by decide +kernel)) (by decide +kernel)
theorem tw_928 : Cond.instanceMethod yX9_toldOfPlace ∈ tb := tb_of (List.mem_of_getElem? (i := 974) (by decide +kernel)) (by decide +kernel)
theorem tw_929 : Cond.code yX9_toldOfPlace cX9_toldOfPlace 3 (some .int) ∈ tb := tb_of (List.mem_of_getElem? (i := 975) (by decide +kernel)) (by decide +kernel)
theorem tw_930 : Cond.constantLong RX9 312 (10) ∈ tb := tb_of (List.mem_of_getElem? (i := 976) (by decide +kernel)) (by decide +kernel)
theorem tw_931 : Cond.methodLink RX9 314 yX9_toldOfHeir ∈ tb := tb_of (List.mem_of_getElem? (i := 977) (by decide +kernel)) (by decide +kernel)
theorem tw_933 : Cond.instanceMethod yX9_toldOfHeir ∈ tb := tb_of (List.mem_of_getElem? (i := 979) (by decide +kernel)) (by decide +kernel)
theorem tw_934 : Cond.code yX9_toldOfHeir cX9_toldOfHeir 3 (some .int) ∈ tb := tb_of (List.mem_of_getElem? (i := 980) (by decide +kernel)) (by decide +kernel)
theorem ts_0 : Cond.selects RX8 yX8_followText yX8_followText ∈ tb := tb_of (List.mem_of_getElem? (i := 0) (by decide +kernel)) (by decide +kernel)
theorem ts_1 : Cond.selects RX7 yX7_begin yX7_begin ∈ tb := tb_of (List.mem_of_getElem? (i := 1) (by decide +kernel)) (by decide +kernel)
theorem ts_2 : Cond.selects RX7 yX7_attempt yX7_attempt ∈ tb := tb_of (List.mem_of_getElem? (i := 2) (by decide +kernel)) (by decide +kernel)
theorem ts_3 : Cond.selects RX0 yX0_isChosen yX0_isChosen ∈ tb := tb_of (List.mem_of_getElem? (i := 3) (by decide +kernel)) (by decide +kernel)
theorem ts_4 : Cond.selects RX0 yX0_listen yX0_listen ∈ tb := tb_of (List.mem_of_getElem? (i := 4) (by decide +kernel)) (by decide +kernel)
theorem ts_5 : Cond.selects RX0 yX0_changeWithNext yX0_changeWithNext ∈ tb := tb_of (List.mem_of_getElem? (i := 5) (by decide +kernel)) (by decide +kernel)
theorem ts_6 : Cond.selects RX0 yX0_letMinutePass yX0_letMinutePass ∈ tb := tb_of (List.mem_of_getElem? (i := 6) (by decide +kernel)) (by decide +kernel)
theorem ts_7 : Cond.selects RX4 yX4_longestFrom yX4_longestFrom ∈ tb := tb_of (List.mem_of_getElem? (i := 7) (by decide +kernel)) (by decide +kernel)
theorem ts_8 : Cond.selects RX6 yX6_countFitting yX6_countFitting ∈ tb := tb_of (List.mem_of_getElem? (i := 8) (by decide +kernel)) (by decide +kernel)
theorem ts_9 : Cond.selects RX6 yX6_countNear yX6_countNear ∈ tb := tb_of (List.mem_of_getElem? (i := 9) (by decide +kernel)) (by decide +kernel)
theorem ts_10 : Cond.selects RX8 yX8_toldOfPlace yX8_toldOfPlace ∈ tb := tb_of (List.mem_of_getElem? (i := 10) (by decide +kernel)) (by decide +kernel)
theorem ts_11 : Cond.selects RX8 yX8_toldOfHeir yX8_toldOfHeir ∈ tb := tb_of (List.mem_of_getElem? (i := 11) (by decide +kernel)) (by decide +kernel)
theorem ts_12 : Cond.selects RX9 yX9_readOn yX9_readOn ∈ tb := tb_of (List.mem_of_getElem? (i := 12) (by decide +kernel)) (by decide +kernel)
theorem ts_13 : Cond.selects RX9 yX9_begin yX9_begin ∈ tb := tb_of (List.mem_of_getElem? (i := 13) (by decide +kernel)) (by decide +kernel)
theorem ts_14 : Cond.selects RX9 yX9_close yX9_close ∈ tb := tb_of (List.mem_of_getElem? (i := 14) (by decide +kernel)) (by decide +kernel)
theorem ts_15 : Cond.selects RX9 yX9_deed yX9_deed ∈ tb := tb_of (List.mem_of_getElem? (i := 15) (by decide +kernel)) (by decide +kernel)
theorem ts_16 : Cond.selects RX9 yX9_count yX9_count ∈ tb := tb_of (List.mem_of_getElem? (i := 16) (by decide +kernel)) (by decide +kernel)
theorem ts_17 : Cond.selects RX9 yX9_refusal yX9_refusal ∈ tb := tb_of (List.mem_of_getElem? (i := 17) (by decide +kernel)) (by decide +kernel)
theorem ts_18 : Cond.selects RX9 yX9_keepNow yX9_keepNow ∈ tb := tb_of (List.mem_of_getElem? (i := 18) (by decide +kernel)) (by decide +kernel)
theorem ts_19 : Cond.selects RX9 yX9_goHours yX9_goHours ∈ tb := tb_of (List.mem_of_getElem? (i := 19) (by decide +kernel)) (by decide +kernel)
theorem ts_20 : Cond.selects RX9 yX9_whyNot yX9_whyNot ∈ tb := tb_of (List.mem_of_getElem? (i := 20) (by decide +kernel)) (by decide +kernel)
theorem ts_21 : Cond.selects RX9 yX9_isChosen yX9_isChosen ∈ tb := tb_of (List.mem_of_getElem? (i := 21) (by decide +kernel)) (by decide +kernel)
theorem ts_22 : Cond.selects RX9 yX9_goOne yX9_goOne ∈ tb := tb_of (List.mem_of_getElem? (i := 22) (by decide +kernel)) (by decide +kernel)
theorem ts_23 : Cond.selects RX9 yX9_happen yX9_happen ∈ tb := tb_of (List.mem_of_getElem? (i := 23) (by decide +kernel)) (by decide +kernel)
theorem ts_24 : Cond.selects RX9 yX9_listen yX9_listen ∈ tb := tb_of (List.mem_of_getElem? (i := 24) (by decide +kernel)) (by decide +kernel)
theorem ts_25 : Cond.selects RX9 yX9_swap yX9_swap ∈ tb := tb_of (List.mem_of_getElem? (i := 25) (by decide +kernel)) (by decide +kernel)
theorem ts_26 : Cond.selects RX9 yX9_choose yX9_choose ∈ tb := tb_of (List.mem_of_getElem? (i := 26) (by decide +kernel)) (by decide +kernel)
theorem ts_27 : Cond.selects RX9 yX9_passMinute yX9_passMinute ∈ tb := tb_of (List.mem_of_getElem? (i := 27) (by decide +kernel)) (by decide +kernel)
theorem ts_28 : Cond.selects RX9 yX9_back yX9_back ∈ tb := tb_of (List.mem_of_getElem? (i := 28) (by decide +kernel)) (by decide +kernel)
theorem ts_29 : Cond.selects RX9 yX9_ofHouse yX9_ofHouse ∈ tb := tb_of (List.mem_of_getElem? (i := 29) (by decide +kernel)) (by decide +kernel)
theorem ts_30 : Cond.selects RX9 yX9_whoChose yX9_whoChose ∈ tb := tb_of (List.mem_of_getElem? (i := 30) (by decide +kernel)) (by decide +kernel)
theorem ts_31 : Cond.selects RX9 yX9_whoRight yX9_whoRight ∈ tb := tb_of (List.mem_of_getElem? (i := 31) (by decide +kernel)) (by decide +kernel)
theorem ts_32 : Cond.selects RX9 yX9_nickMany yX9_nickMany ∈ tb := tb_of (List.mem_of_getElem? (i := 32) (by decide +kernel)) (by decide +kernel)
theorem ts_33 : Cond.selects RX9 yX9_readBoth yX9_readBoth ∈ tb := tb_of (List.mem_of_getElem? (i := 33) (by decide +kernel)) (by decide +kernel)
theorem ts_34 : Cond.selects RX9 yX9_timeOf yX9_timeOf ∈ tb := tb_of (List.mem_of_getElem? (i := 34) (by decide +kernel)) (by decide +kernel)
theorem ts_35 : Cond.selects RX9 yX9_nextOf yX9_nextOf ∈ tb := tb_of (List.mem_of_getElem? (i := 35) (by decide +kernel)) (by decide +kernel)
theorem ts_36 : Cond.selects RX9 yX9_sumOf yX9_sumOf ∈ tb := tb_of (List.mem_of_getElem? (i := 36) (by decide +kernel)) (by decide +kernel)
theorem ts_37 : Cond.selects RX9 yX9_riseFrom yX9_riseFrom ∈ tb := tb_of (List.mem_of_getElem? (i := 37) (by decide +kernel)) (by decide +kernel)
theorem ts_38 : Cond.selects RX9 yX9_isFit yX9_isFit ∈ tb := tb_of (List.mem_of_getElem? (i := 38) (by decide +kernel)) (by decide +kernel)
theorem ts_39 : Cond.selects RX9 yX9_mostLeft yX9_mostLeft ∈ tb := tb_of (List.mem_of_getElem? (i := 39) (by decide +kernel)) (by decide +kernel)
theorem ts_40 : Cond.selects RX9 yX9_leastTake yX9_leastTake ∈ tb := tb_of (List.mem_of_getElem? (i := 40) (by decide +kernel)) (by decide +kernel)
theorem ts_41 : Cond.selects RX9 yX9_passAll yX9_passAll ∈ tb := tb_of (List.mem_of_getElem? (i := 41) (by decide +kernel)) (by decide +kernel)
theorem ts_42 : Cond.selects RX9 yX9_put yX9_put ∈ tb := tb_of (List.mem_of_getElem? (i := 42) (by decide +kernel)) (by decide +kernel)
theorem ts_43 : Cond.selects RX9 yX9_passRow yX9_passRow ∈ tb := tb_of (List.mem_of_getElem? (i := 43) (by decide +kernel)) (by decide +kernel)
theorem ts_44 : Cond.selects RX9 yX9_toldOfPlace yX9_toldOfPlace ∈ tb := tb_of (List.mem_of_getElem? (i := 44) (by decide +kernel)) (by decide +kernel)
theorem ts_45 : Cond.selects RX9 yX9_toldOfHeir yX9_toldOfHeir ∈ tb := tb_of (List.mem_of_getElem? (i := 45) (by decide +kernel)) (by decide +kernel)
theorem in_X0 : ∀ w ∈ u_ws RX0 TX0 8, w ∈ tb := by decide +kernel
theorem in_X2 : ∀ w ∈ u_ws RX2 TX2 2, w ∈ tb := by decide +kernel
theorem in_X4 : ∀ w ∈ u_ws RX4 TX4 3, w ∈ tb := by decide +kernel
theorem in_X6 : ∀ w ∈ u_ws RX6 TX6 7, w ∈ tb := by decide +kernel
theorem in_X7 : ∀ w ∈ u_ws RX7 TX7 7, w ∈ tb := by decide +kernel
theorem in_X8 : ∀ w ∈ u_ws RX8 TX8 8, w ∈ tb := by decide +kernel
theorem in_X9 : ∀ w ∈ u_ws RX9 TX9 33, w ∈ tb := by decide +kernel
end
section
/-! THE WALK'S OWN JUDGEMENT. GG X D Q n ws lv pc st o: whenever the pure computation o comes to a result, the machine, at pc with locals lv, stack st and the cells ws, comes to an end that Q says of that result. Guards of o (gu: an index in range, gd: a divisor that isn't 0) are just what the machine would throw at. -/
def gu {ρ : Type} (i : Int32) (N : Nat) (o : Option ρ) : Option ρ := if i < 0 ∨ N ≤ i.toNatClampNeg then none else o
def gd {ρ : Type} (y : Int32) (o : Option ρ) : Option ρ := if y = 0 then none else o
def gdL {ρ : Type} (y : Int64) (o : Option ρ) : Option ρ := if y = 0 then none else o
def gz {ρ : Type} (v : Int32) (o : Option ρ) : Option ρ := if v = 0 ∨ v = 1 then o else none
def bi {α ρ : Type} (e : α) (k : α → Option ρ) : Option ρ := k e
def jn {α ρ : Type} (A : Option α) (k : α → Option ρ) : Option ρ := A.bind k
def tyL (T : Nat → ClassId) : List (ClassId × FieldType) := [(T 0, .int), (T 1, .boolean), (T 2, .object RX0), (T 3, .object RX6)]
def tens : Nat → Int32 := fun j => match j with
  | 0 => 1
  | 1 => 10
  | 2 => 100
  | 3 => 1000
  | 4 => 10000
  | 5 => 100000
  | 6 => 1000000
  | 7 => 10000000
  | 8 => 100000000
  | _ => 1000000000
def tensV : Nat → Value := fun j => .int (tens j)
def nestQ : List (String × Nat × MethodName × String) := [(RX2, 36, yX8_isWithin, "CradleHour"), (RX0, 43, yX8_isPlace, "CradleHour"), (RX5, 9, yX8_isWithin, "CradleHour"), (RX4, 22, yX8_isBeat, "CradleHour"), (RX6, 52, yX8_isBeat, "CradleHour")]
/-- what stays outside every world: the one static row, the links among nest mates, the classes of arrays of our own objects -/
def SE (A : Nat → Prop) (U : State) (H : Heap) : Prop := (∃ t : Nat, va_Z RX5 "TENS" "[I" (.ref t) A U H ∧ va_T .int t 10 tensV A U H) ∧ va_AO RX0 U ∧ va_AO RX6 U ∧ ∀ q ∈ nestQ, va_Nw (.methodLinkNest q.1 q.2.1 q.2.2.1 q.2.2.2) U
theorem SE.warm {A : Nat → Prop} {s U : State} {H : Heap} (hW : s.WarmedH U.vm) (h : SE A s H) : SE A U H := by
  obtain ⟨⟨t, h1, h2⟩, h3, h4, h5⟩ := h
  exact ⟨⟨t, va_Z.moved hW.alike h1, va_T.moved hW.alike h2⟩, va_AO.moved hW.alike h3, va_AO.moved hW.alike h4, fun q hq => va_Nw.warmM hW (h5 q hq)⟩
theorem SE.kept {A : Nat → Prop} {U : State} {H H1 : Heap} (h : SE A U H) (hq : ∀ a : Nat, a < H.size → ¬ A a → H1[a]? = H[a]?) : SE A U H1 := by
  obtain ⟨⟨t, h1, h2⟩, h3⟩ := h
  exact ⟨⟨t, h1.kept hq, h2.kept hq⟩, h3⟩
theorem SE.narrow {A B : Nat → Prop} {U : State} {H : Heap} (h : SE A U H) (hAB : ∀ q, B q → A q) : SE B U H := by
  obtain ⟨⟨t, h1, h2⟩, h3⟩ := h
  exact ⟨⟨t, h1.narrow hAB, h2.narrow hAB⟩, h3⟩
theorem SE.calling {A : Nat → Prop} {U : State} {g : JFrame} {mk : MethodId} {a : Array Value} (h : SE A U U.heap) : SE A (U.calling g mk a) (U.calling g mk a).heap := by
  obtain ⟨⟨t, h1, h2⟩, h3, h4, h5⟩ := h
  exact ⟨⟨t, va_Z.moved (u := U) (U := U.calling g mk a) (Vm.Alike.refl U.vm) h1, va_T.moved (u := U) (U := U.calling g mk a) (Vm.Alike.refl U.vm) h2⟩, va_AO.moved (u := U) (U := U.calling g mk a) (Vm.Alike.refl U.vm) h3, va_AO.moved (u := U) (U := U.calling g mk a) (Vm.Alike.refl U.vm) h4, fun q hq => va_Nw.same rfl (rfl : U.vm = (U.calling g mk a).vm) (h5 q hq)⟩
abbrev KX : Type := Program × Launch × Env × Room × State × MethodId × Array Value × List Frame × Method × Code × (Nat → Prop) × Nat
def kxL (X : KX) : Nat := match X with
  | (_, _, _, _, _, _, _, _, _, _, _, nL) => nL
def kxM (X : KX) : Method := match X with
  | (_, _, _, _, _, _, _, _, meth, _, _, _) => meth
def Cx (X : KX) (D : va_G) (T : Nat → ClassId) (cc : ByteArray) (own : String) (rm : Room) : Prop := match X with
  | (p, _, _, R, s, m, args, _, meth, c, A, nL) => p.tables.exec = Jvm.exec ∧ c.code = cc ∧ c.maxLocals = nL ∧ s.vm.findClass own = some m.cls ∧ (∀ w ∈ tb, w.before args s = true) ∧ va_K D vwCl (tyL T) s ∧ (∀ q, s.heap.size ≤ q → A q) ∧ meth.locks = false ∧ R = rm ∧ SE A s s.heap
def GG {ρ : Type} (X : KX) (D : va_G) (Q : ρ → State → Prop) (n : Nat × Nat) (ws : va_W) (lv : List (Nat × Value)) (pc : Nat) (st : List Value) (o : Option ρ) : Prop := match X with
  | (p, l, e, R, s, m, args, below, meth, c, A, nL) => ∀ res, o = some res → ∀ (H : Heap) (locs : List Loc) (ls : Array Slot), va_P D vwCl ws H → va_D A ws → va_S A s.heap H locs → lv_has ls nL lv → W p l e R s m args below meth c H locs n.1 n.2 (Q res) (F0 m pc ls st)
section GGR
variable {ρ : Type} {X : KX} {D : va_G} {T : Nat → ClassId} {Q : ρ → State → Prop} {n : Nat × Nat} {ws ws' : va_W} {lv lv' : List (Nat × Value)} {pc : Nat} {st : List Value} {o o1 o2 : Option ρ} {cc : ByteArray} {own : String} {rm : Room}
theorem gg_iconst (C : Cx X D T cc own rm) {z : Int} {v : Int32} (hd : decode cc pc = .ok (.iconst z, 1)) (hv : Int32.ofInt z = v) (kk : GG X D Q n ws lv (pc + 1) (.int v :: st) o) : GG X D Q n ws lv pc (st) o := by
  obtain ⟨p, l, e, R, s, m, args, below, meth, c, A, nL⟩ := X
  obtain ⟨hx, hb, hml, hown, hts, hK, hA, hlk, hR, hSE⟩ := C
  intro res h H locs ls hP hD hS hL
  exact lv_iconst hx hb hd hv (kk res h H locs ls hP hD hS hL)
theorem gg_bipush (C : Cx X D T cc own rm) {z : Int} {v : Int32} (hd : decode cc pc = .ok (.bipush z, 2)) (hv : (Int8.ofInt z).toInt32 = v) (kk : GG X D Q n ws lv (pc + 2) (.int v :: st) o) : GG X D Q n ws lv pc (st) o := by
  obtain ⟨p, l, e, R, s, m, args, below, meth, c, A, nL⟩ := X
  obtain ⟨hx, hb, hml, hown, hts, hK, hA, hlk, hR, hSE⟩ := C
  intro res h H locs ls hP hD hS hL
  exact lv_bipush hx hb hd hv (kk res h H locs ls hP hD hS hL)
theorem gg_sipush (C : Cx X D T cc own rm) {z : Int} {v : Int32} (hd : decode cc pc = .ok (.sipush z, 3)) (hv : (Int16.ofInt z).toInt32 = v) (kk : GG X D Q n ws lv (pc + 3) (.int v :: st) o) : GG X D Q n ws lv pc (st) o := by
  obtain ⟨p, l, e, R, s, m, args, below, meth, c, A, nL⟩ := X
  obtain ⟨hx, hb, hml, hown, hts, hK, hA, hlk, hR, hSE⟩ := C
  intro res h H locs ls hP hD hS hL
  exact lv_sipush hx hb hd hv (kk res h H locs ls hP hD hS hL)
theorem gg_lconst (C : Cx X D T cc own rm) {z : Fin 2} {v : Int64} (hd : decode cc pc = .ok (.lconst z, 1)) (hv : Int64.ofNat (z : Nat) = v) (kk : GG X D Q n ws lv (pc + 1) (.long v :: st) o) : GG X D Q n ws lv pc (st) o := by
  obtain ⟨p, l, e, R, s, m, args, below, meth, c, A, nL⟩ := X
  obtain ⟨hx, hb, hml, hown, hts, hK, hA, hlk, hR, hSE⟩ := C
  intro res h H locs ls hP hD hS hL
  exact lv_lconst hx hb hd hv (kk res h H locs ls hP hD hS hL)
theorem gg_iadd (C : Cx X D T cc own rm) {x y : Int32} (hd : decode cc pc = .ok (.iadd, 1))  (kk : GG X D Q n ws lv (pc + 1) (.int (x + y) :: st) o) : GG X D Q n ws lv pc (.int y :: .int x :: st) o := by
  obtain ⟨p, l, e, R, s, m, args, below, meth, c, A, nL⟩ := X
  obtain ⟨hx, hb, hml, hown, hts, hK, hA, hlk, hR, hSE⟩ := C
  intro res h H locs ls hP hD hS hL
  exact lv_iadd hx hb hd  (kk res h H locs ls hP hD hS hL)
theorem gg_isub (C : Cx X D T cc own rm) {x y : Int32} (hd : decode cc pc = .ok (.isub, 1))  (kk : GG X D Q n ws lv (pc + 1) (.int (x - y) :: st) o) : GG X D Q n ws lv pc (.int y :: .int x :: st) o := by
  obtain ⟨p, l, e, R, s, m, args, below, meth, c, A, nL⟩ := X
  obtain ⟨hx, hb, hml, hown, hts, hK, hA, hlk, hR, hSE⟩ := C
  intro res h H locs ls hP hD hS hL
  exact lv_isub hx hb hd  (kk res h H locs ls hP hD hS hL)
theorem gg_imul (C : Cx X D T cc own rm) {x y : Int32} (hd : decode cc pc = .ok (.imul, 1))  (kk : GG X D Q n ws lv (pc + 1) (.int (x * y) :: st) o) : GG X D Q n ws lv pc (.int y :: .int x :: st) o := by
  obtain ⟨p, l, e, R, s, m, args, below, meth, c, A, nL⟩ := X
  obtain ⟨hx, hb, hml, hown, hts, hK, hA, hlk, hR, hSE⟩ := C
  intro res h H locs ls hP hD hS hL
  exact lv_imul hx hb hd  (kk res h H locs ls hP hD hS hL)
theorem gg_iand (C : Cx X D T cc own rm) {x y : Int32} (hd : decode cc pc = .ok (.iand, 1))  (kk : GG X D Q n ws lv (pc + 1) (.int (x &&& y) :: st) o) : GG X D Q n ws lv pc (.int y :: .int x :: st) o := by
  obtain ⟨p, l, e, R, s, m, args, below, meth, c, A, nL⟩ := X
  obtain ⟨hx, hb, hml, hown, hts, hK, hA, hlk, hR, hSE⟩ := C
  intro res h H locs ls hP hD hS hL
  exact lv_iand hx hb hd  (kk res h H locs ls hP hD hS hL)
theorem gg_ior (C : Cx X D T cc own rm) {x y : Int32} (hd : decode cc pc = .ok (.ior, 1))  (kk : GG X D Q n ws lv (pc + 1) (.int (x ||| y) :: st) o) : GG X D Q n ws lv pc (.int y :: .int x :: st) o := by
  obtain ⟨p, l, e, R, s, m, args, below, meth, c, A, nL⟩ := X
  obtain ⟨hx, hb, hml, hown, hts, hK, hA, hlk, hR, hSE⟩ := C
  intro res h H locs ls hP hD hS hL
  exact lv_ior hx hb hd  (kk res h H locs ls hP hD hS hL)
theorem gg_ixor (C : Cx X D T cc own rm) {x y : Int32} (hd : decode cc pc = .ok (.ixor, 1))  (kk : GG X D Q n ws lv (pc + 1) (.int (x ^^^ y) :: st) o) : GG X D Q n ws lv pc (.int y :: .int x :: st) o := by
  obtain ⟨p, l, e, R, s, m, args, below, meth, c, A, nL⟩ := X
  obtain ⟨hx, hb, hml, hown, hts, hK, hA, hlk, hR, hSE⟩ := C
  intro res h H locs ls hP hD hS hL
  exact lv_ixor hx hb hd  (kk res h H locs ls hP hD hS hL)
theorem gg_ishl (C : Cx X D T cc own rm) {x y : Int32} (hd : decode cc pc = .ok (.ishl, 1))  (kk : GG X D Q n ws lv (pc + 1) (.int (x <<< (y &&& 31)) :: st) o) : GG X D Q n ws lv pc (.int y :: .int x :: st) o := by
  obtain ⟨p, l, e, R, s, m, args, below, meth, c, A, nL⟩ := X
  obtain ⟨hx, hb, hml, hown, hts, hK, hA, hlk, hR, hSE⟩ := C
  intro res h H locs ls hP hD hS hL
  exact lv_ishl hx hb hd  (kk res h H locs ls hP hD hS hL)
theorem gg_ishr (C : Cx X D T cc own rm) {x y : Int32} (hd : decode cc pc = .ok (.ishr, 1))  (kk : GG X D Q n ws lv (pc + 1) (.int (x >>> (y &&& 31)) :: st) o) : GG X D Q n ws lv pc (.int y :: .int x :: st) o := by
  obtain ⟨p, l, e, R, s, m, args, below, meth, c, A, nL⟩ := X
  obtain ⟨hx, hb, hml, hown, hts, hK, hA, hlk, hR, hSE⟩ := C
  intro res h H locs ls hP hD hS hL
  exact lv_ishr hx hb hd  (kk res h H locs ls hP hD hS hL)
theorem gg_ineg (C : Cx X D T cc own rm) {x : Int32} (hd : decode cc pc = .ok (.ineg, 1))  (kk : GG X D Q n ws lv (pc + 1) (.int (-x) :: st) o) : GG X D Q n ws lv pc (.int x :: st) o := by
  obtain ⟨p, l, e, R, s, m, args, below, meth, c, A, nL⟩ := X
  obtain ⟨hx, hb, hml, hown, hts, hK, hA, hlk, hR, hSE⟩ := C
  intro res h H locs ls hP hD hS hL
  exact lv_ineg hx hb hd  (kk res h H locs ls hP hD hS hL)
theorem gg_ladd (C : Cx X D T cc own rm) {x y : Int64} (hd : decode cc pc = .ok (.ladd, 1))  (kk : GG X D Q n ws lv (pc + 1) (.long (x + y) :: st) o) : GG X D Q n ws lv pc (.long y :: .long x :: st) o := by
  obtain ⟨p, l, e, R, s, m, args, below, meth, c, A, nL⟩ := X
  obtain ⟨hx, hb, hml, hown, hts, hK, hA, hlk, hR, hSE⟩ := C
  intro res h H locs ls hP hD hS hL
  exact lv_ladd hx hb hd  (kk res h H locs ls hP hD hS hL)
theorem gg_lsub (C : Cx X D T cc own rm) {x y : Int64} (hd : decode cc pc = .ok (.lsub, 1))  (kk : GG X D Q n ws lv (pc + 1) (.long (x - y) :: st) o) : GG X D Q n ws lv pc (.long y :: .long x :: st) o := by
  obtain ⟨p, l, e, R, s, m, args, below, meth, c, A, nL⟩ := X
  obtain ⟨hx, hb, hml, hown, hts, hK, hA, hlk, hR, hSE⟩ := C
  intro res h H locs ls hP hD hS hL
  exact lv_lsub hx hb hd  (kk res h H locs ls hP hD hS hL)
theorem gg_lmul (C : Cx X D T cc own rm) {x y : Int64} (hd : decode cc pc = .ok (.lmul, 1))  (kk : GG X D Q n ws lv (pc + 1) (.long (x * y) :: st) o) : GG X D Q n ws lv pc (.long y :: .long x :: st) o := by
  obtain ⟨p, l, e, R, s, m, args, below, meth, c, A, nL⟩ := X
  obtain ⟨hx, hb, hml, hown, hts, hK, hA, hlk, hR, hSE⟩ := C
  intro res h H locs ls hP hD hS hL
  exact lv_lmul hx hb hd  (kk res h H locs ls hP hD hS hL)
theorem gg_i2l (C : Cx X D T cc own rm) {x : Int32} (hd : decode cc pc = .ok (.i2l, 1))  (kk : GG X D Q n ws lv (pc + 1) (.long x.toInt64 :: st) o) : GG X D Q n ws lv pc (.int x :: st) o := by
  obtain ⟨p, l, e, R, s, m, args, below, meth, c, A, nL⟩ := X
  obtain ⟨hx, hb, hml, hown, hts, hK, hA, hlk, hR, hSE⟩ := C
  intro res h H locs ls hP hD hS hL
  exact lv_i2l hx hb hd rfl (kk res h H locs ls hP hD hS hL)
theorem gg_l2i (C : Cx X D T cc own rm) {x : Int64} (hd : decode cc pc = .ok (.l2i, 1))  (kk : GG X D Q n ws lv (pc + 1) (.int x.toInt32 :: st) o) : GG X D Q n ws lv pc (.long x :: st) o := by
  obtain ⟨p, l, e, R, s, m, args, below, meth, c, A, nL⟩ := X
  obtain ⟨hx, hb, hml, hown, hts, hK, hA, hlk, hR, hSE⟩ := C
  intro res h H locs ls hP hD hS hL
  exact lv_l2i hx hb hd rfl (kk res h H locs ls hP hD hS hL)
theorem gg_lcmp (C : Cx X D T cc own rm) {x y : Int64} (hd : decode cc pc = .ok (.lcmp, 1))  (kk : GG X D Q n ws lv (pc + 1) (.int (lg_cmp x y) :: st) o) : GG X D Q n ws lv pc (.long y :: .long x :: st) o := by
  obtain ⟨p, l, e, R, s, m, args, below, meth, c, A, nL⟩ := X
  obtain ⟨hx, hb, hml, hown, hts, hK, hA, hlk, hR, hSE⟩ := C
  intro res h H locs ls hP hD hS hL
  exact W.lcmp hx hb hd  (kk res h H locs ls hP hD hS hL)
theorem gg_idivK (C : Cx X D T cc own rm) {x y : Int32} (hd : decode cc pc = .ok (.idiv, 1)) (hne : ¬ y = 0) (kk : GG X D Q n ws lv (pc + 1) (.int (x / y) :: st) o) : GG X D Q n ws lv pc (.int y :: .int x :: st) o := by
  obtain ⟨p, l, e, R, s, m, args, below, meth, c, A, nL⟩ := X
  obtain ⟨hx, hb, hml, hown, hts, hK, hA, hlk, hR, hSE⟩ := C
  intro res h H locs ls hP hD hS hL
  exact lv_idiv hx hb hd hne (kk res h H locs ls hP hD hS hL)
theorem gg_iremK (C : Cx X D T cc own rm) {x y : Int32} (hd : decode cc pc = .ok (.irem, 1)) (hne : ¬ y = 0) (kk : GG X D Q n ws lv (pc + 1) (.int (x - x / y * y) :: st) o) : GG X D Q n ws lv pc (.int y :: .int x :: st) o := by
  obtain ⟨p, l, e, R, s, m, args, below, meth, c, A, nL⟩ := X
  obtain ⟨hx, hb, hml, hown, hts, hK, hA, hlk, hR, hSE⟩ := C
  intro res h H locs ls hP hD hS hL
  exact lv_irem hx hb hd hne (kk res h H locs ls hP hD hS hL)
theorem gg_ldivK (C : Cx X D T cc own rm) {x y : Int64} (hd : decode cc pc = .ok (.ldiv, 1)) (hne : ¬ y = 0) (kk : GG X D Q n ws lv (pc + 1) (.long (x / y) :: st) o) : GG X D Q n ws lv pc (.long y :: .long x :: st) o := by
  obtain ⟨p, l, e, R, s, m, args, below, meth, c, A, nL⟩ := X
  obtain ⟨hx, hb, hml, hown, hts, hK, hA, hlk, hR, hSE⟩ := C
  intro res h H locs ls hP hD hS hL
  exact lv_ldiv hx hb hd hne (kk res h H locs ls hP hD hS hL)
theorem gg_lremK (C : Cx X D T cc own rm) {x y : Int64} (hd : decode cc pc = .ok (.lrem, 1)) (hne : ¬ y = 0) (kk : GG X D Q n ws lv (pc + 1) (.long (x - x / y * y) :: st) o) : GG X D Q n ws lv pc (.long y :: .long x :: st) o := by
  obtain ⟨p, l, e, R, s, m, args, below, meth, c, A, nL⟩ := X
  obtain ⟨hx, hb, hml, hown, hts, hK, hA, hlk, hR, hSE⟩ := C
  intro res h H locs ls hP hD hS hL
  exact lv_lrem hx hb hd hne (kk res h H locs ls hP hD hS hL)
theorem gg_idiv (C : Cx X D T cc own rm) {x y : Int32} (hd : decode cc pc = .ok (.idiv, 1)) (kk : GG X D Q n ws lv (pc + 1) (.int (x / y) :: st) o) : GG X D Q n ws lv pc (.int y :: .int x :: st) (gd y o) := by
  obtain ⟨p, l, e, R, s, m, args, below, meth, c, A, nL⟩ := X
  obtain ⟨hx, hb, hml, hown, hts, hK, hA, hlk, hR, hSE⟩ := C
  intro res h H locs ls hP hD hS hL
  by_cases hne : y = 0
  · rw [gd, if_pos hne] at h; cases h
  · rw [gd, if_neg hne] at h
    exact lv_idiv hx hb hd hne (kk res h H locs ls hP hD hS hL)
theorem gg_irem (C : Cx X D T cc own rm) {x y : Int32} (hd : decode cc pc = .ok (.irem, 1)) (kk : GG X D Q n ws lv (pc + 1) (.int (x - x / y * y) :: st) o) : GG X D Q n ws lv pc (.int y :: .int x :: st) (gd y o) := by
  obtain ⟨p, l, e, R, s, m, args, below, meth, c, A, nL⟩ := X
  obtain ⟨hx, hb, hml, hown, hts, hK, hA, hlk, hR, hSE⟩ := C
  intro res h H locs ls hP hD hS hL
  by_cases hne : y = 0
  · rw [gd, if_pos hne] at h; cases h
  · rw [gd, if_neg hne] at h
    exact lv_irem hx hb hd hne (kk res h H locs ls hP hD hS hL)
theorem gg_ldiv (C : Cx X D T cc own rm) {x y : Int64} (hd : decode cc pc = .ok (.ldiv, 1)) (kk : GG X D Q n ws lv (pc + 1) (.long (x / y) :: st) o) : GG X D Q n ws lv pc (.long y :: .long x :: st) (gdL y o) := by
  obtain ⟨p, l, e, R, s, m, args, below, meth, c, A, nL⟩ := X
  obtain ⟨hx, hb, hml, hown, hts, hK, hA, hlk, hR, hSE⟩ := C
  intro res h H locs ls hP hD hS hL
  by_cases hne : y = 0
  · rw [gdL, if_pos hne] at h; cases h
  · rw [gdL, if_neg hne] at h
    exact lv_ldiv hx hb hd hne (kk res h H locs ls hP hD hS hL)
theorem gg_lrem (C : Cx X D T cc own rm) {x y : Int64} (hd : decode cc pc = .ok (.lrem, 1)) (kk : GG X D Q n ws lv (pc + 1) (.long (x - x / y * y) :: st) o) : GG X D Q n ws lv pc (.long y :: .long x :: st) (gdL y o) := by
  obtain ⟨p, l, e, R, s, m, args, below, meth, c, A, nL⟩ := X
  obtain ⟨hx, hb, hml, hown, hts, hK, hA, hlk, hR, hSE⟩ := C
  intro res h H locs ls hP hD hS hL
  by_cases hne : y = 0
  · rw [gdL, if_pos hne] at h; cases h
  · rw [gdL, if_neg hne] at h
    exact lv_lrem hx hb hd hne (kk res h H locs ls hP hD hS hL)
theorem gg_dup (C : Cx X D T cc own rm) {va : Value} (hd : decode cc pc = .ok (.dup, 1)) (hva : va.category = 1) (kk : GG X D Q n ws lv (pc + 1) (va :: va :: st) o) : GG X D Q n ws lv pc (va :: st) o := by
  obtain ⟨p, l, e, R, s, m, args, below, meth, c, A, nL⟩ := X
  obtain ⟨hx, hb, hml, hown, hts, hK, hA, hlk, hR, hSE⟩ := C
  intro res h H locs ls hP hD hS hL
  exact lv_dup hx hb hd hva (kk res h H locs ls hP hD hS hL)
theorem gg_pop (C : Cx X D T cc own rm) {va : Value} (hd : decode cc pc = .ok (.pop, 1)) (hva : va.category = 1) (kk : GG X D Q n ws lv (pc + 1) (st) o) : GG X D Q n ws lv pc (va :: st) o := by
  obtain ⟨p, l, e, R, s, m, args, below, meth, c, A, nL⟩ := X
  obtain ⟨hx, hb, hml, hown, hts, hK, hA, hlk, hR, hSE⟩ := C
  intro res h H locs ls hP hD hS hL
  exact lv_pop hx hb hd hva (kk res h H locs ls hP hD hS hL)
theorem gg_dup_x1 (C : Cx X D T cc own rm) {va vb : Value} (hd : decode cc pc = .ok (.dup_x1, 1)) (hva : va.category = 1) (hvb : vb.category = 1) (kk : GG X D Q n ws lv (pc + 1) (va :: vb :: va :: st) o) : GG X D Q n ws lv pc (va :: vb :: st) o := by
  obtain ⟨p, l, e, R, s, m, args, below, meth, c, A, nL⟩ := X
  obtain ⟨hx, hb, hml, hown, hts, hK, hA, hlk, hR, hSE⟩ := C
  intro res h H locs ls hP hD hS hL
  exact lv_dup_x1 hx hb hd hva hvb (kk res h H locs ls hP hD hS hL)
theorem gg_dup_x2 (C : Cx X D T cc own rm) {va vb vd : Value} (hd : decode cc pc = .ok (.dup_x2, 1)) (hva : va.category = 1) (hvb : vb.category = 1) (hvd : vd.category = 1) (kk : GG X D Q n ws lv (pc + 1) (va :: vb :: vd :: va :: st) o) : GG X D Q n ws lv pc (va :: vb :: vd :: st) o := by
  obtain ⟨p, l, e, R, s, m, args, below, meth, c, A, nL⟩ := X
  obtain ⟨hx, hb, hml, hown, hts, hK, hA, hlk, hR, hSE⟩ := C
  intro res h H locs ls hP hD hS hL
  exact lv_dup_x2 hx hb hd hva hvb hvd (kk res h H locs ls hP hD hS hL)
theorem gg_dup2 (C : Cx X D T cc own rm) {va vb : Value} (hd : decode cc pc = .ok (.dup2, 1)) (hva : va.category = 1) (hvb : vb.category = 1) (kk : GG X D Q n ws lv (pc + 1) (va :: vb :: va :: vb :: st) o) : GG X D Q n ws lv pc (va :: vb :: st) o := by
  obtain ⟨p, l, e, R, s, m, args, below, meth, c, A, nL⟩ := X
  obtain ⟨hx, hb, hml, hown, hts, hK, hA, hlk, hR, hSE⟩ := C
  intro res h H locs ls hP hD hS hL
  exact lv_dup2_11 hx hb hd hva hvb (kk res h H locs ls hP hD hS hL)
theorem gg_iload_n (C : Cx X D T cc own rm) {k : Fin 4} {i : Nat} {v : Int32} (hd : decode cc pc = .ok (.iload_n k, 1)) (hi : (k : Nat) = i) (j : Nat) (hl : lv[j]? = some (i, .int v)) (kk : GG X D Q n ws lv (pc + 1) (.int v :: st) o) : GG X D Q n ws lv pc st o := by
  obtain ⟨p, l, e, R, s, m, args, below, meth, c, A, nL⟩ := X
  obtain ⟨hx, hb, hml, hown, hts, hK, hA, hlk, hR, hSE⟩ := C
  intro res h H locs ls hP hD hS hL
  exact lv_iload_n hx hb hd hi (lv_at hL j hl) (kk res h H locs ls hP hD hS hL)
theorem gg_iload (C : Cx X D T cc own rm) {i : Nat} {v : Int32} (hd : decode cc pc = .ok (.iload i, 2)) (j : Nat) (hl : lv[j]? = some (i, .int v)) (kk : GG X D Q n ws lv (pc + 2) (.int v :: st) o) : GG X D Q n ws lv pc st o := by
  obtain ⟨p, l, e, R, s, m, args, below, meth, c, A, nL⟩ := X
  obtain ⟨hx, hb, hml, hown, hts, hK, hA, hlk, hR, hSE⟩ := C
  intro res h H locs ls hP hD hS hL
  exact lv_iload hx hb hd (lv_at hL j hl) (kk res h H locs ls hP hD hS hL)
theorem gg_istore_n (C : Cx X D T cc own rm) {k : Fin 4} {i nn : Nat} {v : Int32} (hd : decode cc pc = .ok (.istore_n k, 1)) (hi : (k : Nat) = i) (hn : kxL X = nn) (hlt : i < nn) (hl : (i, Value.int v) :: lv.filter (fun q => !(q.1 == i) && !(q.1 + 1 == i && q.2.category == 2)) = lv') (kk : GG X D Q n ws lv' (pc + 1) st o) : GG X D Q n ws lv pc (.int v :: st) o := by
  obtain ⟨p, l, e, R, s, m, args, below, meth, c, A, nL⟩ := X
  obtain ⟨hx, hb, hml, hown, hts, hK, hA, hlk, hR, hSE⟩ := C
  intro res h H locs ls hP hD hS hL
  have hn : nL = nn := hn
  exact lv_istore_n hx hb hd hi hL (by rw [hn]; exact hlt) hl (fun ls' hL' => kk res h H locs ls' hP hD hS hL')
theorem gg_istore (C : Cx X D T cc own rm) {i nn : Nat} {v : Int32} (hd : decode cc pc = .ok (.istore i, 2)) (hn : kxL X = nn) (hlt : i < nn) (hl : (i, Value.int v) :: lv.filter (fun q => !(q.1 == i) && !(q.1 + 1 == i && q.2.category == 2)) = lv') (kk : GG X D Q n ws lv' (pc + 2) st o) : GG X D Q n ws lv pc (.int v :: st) o := by
  obtain ⟨p, l, e, R, s, m, args, below, meth, c, A, nL⟩ := X
  obtain ⟨hx, hb, hml, hown, hts, hK, hA, hlk, hR, hSE⟩ := C
  intro res h H locs ls hP hD hS hL
  have hn : nL = nn := hn
  exact lv_istore hx hb hd hL (by rw [hn]; exact hlt) hl (fun ls' hL' => kk res h H locs ls' hP hD hS hL')
theorem gg_lload_n (C : Cx X D T cc own rm) {k : Fin 4} {i : Nat} {v : Int64} (hd : decode cc pc = .ok (.lload_n k, 1)) (hi : (k : Nat) = i) (j : Nat) (hl : lv[j]? = some (i, .long v)) (kk : GG X D Q n ws lv (pc + 1) (.long v :: st) o) : GG X D Q n ws lv pc st o := by
  obtain ⟨p, l, e, R, s, m, args, below, meth, c, A, nL⟩ := X
  obtain ⟨hx, hb, hml, hown, hts, hK, hA, hlk, hR, hSE⟩ := C
  intro res h H locs ls hP hD hS hL
  exact lv_lload_n hx hb hd hi (lv_at hL j hl) (kk res h H locs ls hP hD hS hL)
theorem gg_lload (C : Cx X D T cc own rm) {i : Nat} {v : Int64} (hd : decode cc pc = .ok (.lload i, 2)) (j : Nat) (hl : lv[j]? = some (i, .long v)) (kk : GG X D Q n ws lv (pc + 2) (.long v :: st) o) : GG X D Q n ws lv pc st o := by
  obtain ⟨p, l, e, R, s, m, args, below, meth, c, A, nL⟩ := X
  obtain ⟨hx, hb, hml, hown, hts, hK, hA, hlk, hR, hSE⟩ := C
  intro res h H locs ls hP hD hS hL
  exact lv_lload hx hb hd (lv_at hL j hl) (kk res h H locs ls hP hD hS hL)
theorem gg_lstore_n (C : Cx X D T cc own rm) {k : Fin 4} {i nn : Nat} {v : Int64} (hd : decode cc pc = .ok (.lstore_n k, 1)) (hi : (k : Nat) = i) (hn : kxL X = nn) (hlt : i + 1 < nn) (hl : (i, Value.long v) :: lv.filter (fun q => !(q.1 == i) && (!(q.1 == i + 1) && !(q.1 + 1 == i && q.2.category == 2))) = lv') (kk : GG X D Q n ws lv' (pc + 1) st o) : GG X D Q n ws lv pc (.long v :: st) o := by
  obtain ⟨p, l, e, R, s, m, args, below, meth, c, A, nL⟩ := X
  obtain ⟨hx, hb, hml, hown, hts, hK, hA, hlk, hR, hSE⟩ := C
  intro res h H locs ls hP hD hS hL
  have hn : nL = nn := hn
  exact lv_lstore_n hx hb hd hi hL (by rw [hn]; exact hlt) hl (fun ls' hL' => kk res h H locs ls' hP hD hS hL')
theorem gg_lstore (C : Cx X D T cc own rm) {i nn : Nat} {v : Int64} (hd : decode cc pc = .ok (.lstore i, 2)) (hn : kxL X = nn) (hlt : i + 1 < nn) (hl : (i, Value.long v) :: lv.filter (fun q => !(q.1 == i) && (!(q.1 == i + 1) && !(q.1 + 1 == i && q.2.category == 2))) = lv') (kk : GG X D Q n ws lv' (pc + 2) st o) : GG X D Q n ws lv pc (.long v :: st) o := by
  obtain ⟨p, l, e, R, s, m, args, below, meth, c, A, nL⟩ := X
  obtain ⟨hx, hb, hml, hown, hts, hK, hA, hlk, hR, hSE⟩ := C
  intro res h H locs ls hP hD hS hL
  have hn : nL = nn := hn
  exact lv_lstore hx hb hd hL (by rw [hn]; exact hlt) hl (fun ls' hL' => kk res h H locs ls' hP hD hS hL')
theorem gg_aload_n (C : Cx X D T cc own rm) {k : Fin 4} {i : Nat} {v : Nat} (hd : decode cc pc = .ok (.aload_n k, 1)) (hi : (k : Nat) = i) (j : Nat) (hl : lv[j]? = some (i, .ref v)) (kk : GG X D Q n ws lv (pc + 1) (.ref v :: st) o) : GG X D Q n ws lv pc st o := by
  obtain ⟨p, l, e, R, s, m, args, below, meth, c, A, nL⟩ := X
  obtain ⟨hx, hb, hml, hown, hts, hK, hA, hlk, hR, hSE⟩ := C
  intro res h H locs ls hP hD hS hL
  exact lv_aload_n hx hb hd hi (lv_at hL j hl) (kk res h H locs ls hP hD hS hL)
theorem gg_aload (C : Cx X D T cc own rm) {i : Nat} {v : Nat} (hd : decode cc pc = .ok (.aload i, 2)) (j : Nat) (hl : lv[j]? = some (i, .ref v)) (kk : GG X D Q n ws lv (pc + 2) (.ref v :: st) o) : GG X D Q n ws lv pc st o := by
  obtain ⟨p, l, e, R, s, m, args, below, meth, c, A, nL⟩ := X
  obtain ⟨hx, hb, hml, hown, hts, hK, hA, hlk, hR, hSE⟩ := C
  intro res h H locs ls hP hD hS hL
  exact lv_aload hx hb hd (lv_at hL j hl) (kk res h H locs ls hP hD hS hL)
theorem gg_astore_n (C : Cx X D T cc own rm) {k : Fin 4} {i nn : Nat} {v : Nat} (hd : decode cc pc = .ok (.astore_n k, 1)) (hi : (k : Nat) = i) (hn : kxL X = nn) (hlt : i < nn) (hl : (i, Value.ref v) :: lv.filter (fun q => !(q.1 == i) && !(q.1 + 1 == i && q.2.category == 2)) = lv') (kk : GG X D Q n ws lv' (pc + 1) st o) : GG X D Q n ws lv pc (.ref v :: st) o := by
  obtain ⟨p, l, e, R, s, m, args, below, meth, c, A, nL⟩ := X
  obtain ⟨hx, hb, hml, hown, hts, hK, hA, hlk, hR, hSE⟩ := C
  intro res h H locs ls hP hD hS hL
  have hn : nL = nn := hn
  exact lv_astore_n hx hb hd hi hL (by rw [hn]; exact hlt) hl (fun ls' hL' => kk res h H locs ls' hP hD hS hL')
theorem gg_astore (C : Cx X D T cc own rm) {i nn : Nat} {v : Nat} (hd : decode cc pc = .ok (.astore i, 2)) (hn : kxL X = nn) (hlt : i < nn) (hl : (i, Value.ref v) :: lv.filter (fun q => !(q.1 == i) && !(q.1 + 1 == i && q.2.category == 2)) = lv') (kk : GG X D Q n ws lv' (pc + 2) st o) : GG X D Q n ws lv pc (.ref v :: st) o := by
  obtain ⟨p, l, e, R, s, m, args, below, meth, c, A, nL⟩ := X
  obtain ⟨hx, hb, hml, hown, hts, hK, hA, hlk, hR, hSE⟩ := C
  intro res h H locs ls hP hD hS hL
  have hn : nL = nn := hn
  exact lv_astore hx hb hd hL (by rw [hn]; exact hlt) hl (fun ls' hL' => kk res h H locs ls' hP hD hS hL')
theorem gg_iinc (C : Cx X D T cc own rm) {i nn j : Nat} {z : Int} {x v : Int32} (hd : decode cc pc = .ok (.iinc i z, 3)) (hj : lv[j]? = some (i, .int x)) (hv : x + Int32.ofInt z = v) (hn : kxL X = nn) (hlt : i < nn) (hl : (i, Value.int v) :: lv.filter (fun q => !(q.1 == i) && !(q.1 + 1 == i && q.2.category == 2)) = lv') (kk : GG X D Q n ws lv' (pc + 3) st o) : GG X D Q n ws lv pc st o := by
  obtain ⟨p, l, e, R, s, m, args, below, meth, c, A, nL⟩ := X
  obtain ⟨hx, hb, hml, hown, hts, hK, hA, hlk, hR, hSE⟩ := C
  intro res h H locs ls hP hD hS hL
  have hn : nL = nn := hn
  exact lv_iinc hx hb hd hL (k := j) hj hv (by rw [hn]; exact hlt) hl (fun ls' hL' => kk res h H locs ls' hP hD hS hL')
theorem gg_sub (ks : List Nat) (hl : lv_pick lv ks = lv') (kk : GG X D Q n ws lv' pc st o) : GG X D Q n ws lv pc st o := by
  obtain ⟨p, l, e, R, s, m, args, below, meth, c, A, nL⟩ := X
  intro res h H locs ls hP hD hS hL
  exact kk res h H locs ls hP hD hS (lv_sub hL ks hl)
theorem gg_icmp_eq (C : Cx X D T cc own rm) {x y : Int32} {off : Int} {tgt : Nat} (hd : decode cc pc = .ok (.if_icmp .eq off, 3)) (ht : (pc : Int) + off = (tgt : Int)) (kt : x = y → GG X D Q n ws lv tgt st o1) (kf : ¬ x = y → GG X D Q n ws lv (pc + 3) st o2) : GG X D Q n ws lv pc (.int y :: .int x :: st) (if x = y then o1 else o2) := by
  obtain ⟨p, l, e, R, s, m, args, below, meth, c, A, nL⟩ := X
  obtain ⟨hx, hb, hml, hown, hts, hK, hA, hlk, hR, hSE⟩ := C
  intro res h H locs ls hP hD hS hL
  exact lv_icmp_eq hx hb hd ht (fun c1 => kt c1 res (by rw [if_pos c1] at h; exact h) H locs ls hP hD hS hL) (fun c1 => kf c1 res (by first | (rw [if_neg c1] at h; exact h) | (rw [if_neg (fun q => q c1)] at h; exact h)) H locs ls hP hD hS hL)
theorem gg_icmp_eq_T (C : Cx X D T cc own rm) {x y : Int32} {off : Int} {tgt : Nat} (hd : decode cc pc = .ok (.if_icmp .eq off, 3)) (ht : (pc : Int) + off = (tgt : Int)) (hc : x = y) (kt : GG X D Q n ws lv tgt st o) : GG X D Q n ws lv pc (.int y :: .int x :: st) o := by
  obtain ⟨p, l, e, R, s, m, args, below, meth, c, A, nL⟩ := X
  obtain ⟨hx, hb, hml, hown, hts, hK, hA, hlk, hR, hSE⟩ := C
  intro res h H locs ls hP hD hS hL
  exact lv_icmp_eq hx hb hd ht (fun _ => kt res h H locs ls hP hD hS hL) (fun c1 => absurd hc c1)
theorem gg_icmp_eq_F (C : Cx X D T cc own rm) {x y : Int32} {off : Int} (tgt : Nat) (hd : decode cc pc = .ok (.if_icmp .eq off, 3)) (ht : (pc : Int) + off = (tgt : Int)) (hc : ¬ (x = y)) (kf : GG X D Q n ws lv (pc + 3) st o) : GG X D Q n ws lv pc (.int y :: .int x :: st) o := by
  obtain ⟨p, l, e, R, s, m, args, below, meth, c, A, nL⟩ := X
  obtain ⟨hx, hb, hml, hown, hts, hK, hA, hlk, hR, hSE⟩ := C
  intro res h H locs ls hP hD hS hL
  exact lv_icmp_eq hx hb hd ht (fun c1 => absurd c1 hc) (fun _ => kf res h H locs ls hP hD hS hL)
theorem gg_if_eq (C : Cx X D T cc own rm) {x : Int32} {off : Int} {tgt : Nat} (hd : decode cc pc = .ok (.ifCond .eq off, 3)) (ht : (pc : Int) + off = (tgt : Int)) (kt : x = 0 → GG X D Q n ws lv tgt st o1) (kf : ¬ x = 0 → GG X D Q n ws lv (pc + 3) st o2) : GG X D Q n ws lv pc (.int x :: st) (if x = 0 then o1 else o2) := by
  obtain ⟨p, l, e, R, s, m, args, below, meth, c, A, nL⟩ := X
  obtain ⟨hx, hb, hml, hown, hts, hK, hA, hlk, hR, hSE⟩ := C
  intro res h H locs ls hP hD hS hL
  exact lv_if_eq hx hb hd ht (fun c1 => kt c1 res (by rw [if_pos c1] at h; exact h) H locs ls hP hD hS hL) (fun c1 => kf c1 res (by first | (rw [if_neg c1] at h; exact h) | (rw [if_neg (fun q => q c1)] at h; exact h)) H locs ls hP hD hS hL)
theorem gg_if_eq_T (C : Cx X D T cc own rm) {x : Int32} {off : Int} {tgt : Nat} (hd : decode cc pc = .ok (.ifCond .eq off, 3)) (ht : (pc : Int) + off = (tgt : Int)) (hc : x = 0) (kt : GG X D Q n ws lv tgt st o) : GG X D Q n ws lv pc (.int x :: st) o := by
  obtain ⟨p, l, e, R, s, m, args, below, meth, c, A, nL⟩ := X
  obtain ⟨hx, hb, hml, hown, hts, hK, hA, hlk, hR, hSE⟩ := C
  intro res h H locs ls hP hD hS hL
  exact lv_if_eq hx hb hd ht (fun _ => kt res h H locs ls hP hD hS hL) (fun c1 => absurd hc c1)
theorem gg_if_eq_F (C : Cx X D T cc own rm) {x : Int32} {off : Int} (tgt : Nat) (hd : decode cc pc = .ok (.ifCond .eq off, 3)) (ht : (pc : Int) + off = (tgt : Int)) (hc : ¬ (x = 0)) (kf : GG X D Q n ws lv (pc + 3) st o) : GG X D Q n ws lv pc (.int x :: st) o := by
  obtain ⟨p, l, e, R, s, m, args, below, meth, c, A, nL⟩ := X
  obtain ⟨hx, hb, hml, hown, hts, hK, hA, hlk, hR, hSE⟩ := C
  intro res h H locs ls hP hD hS hL
  exact lv_if_eq hx hb hd ht (fun c1 => absurd c1 hc) (fun _ => kf res h H locs ls hP hD hS hL)
theorem gg_icmp_ne (C : Cx X D T cc own rm) {x y : Int32} {off : Int} {tgt : Nat} (hd : decode cc pc = .ok (.if_icmp .ne off, 3)) (ht : (pc : Int) + off = (tgt : Int)) (kt : ¬ x = y → GG X D Q n ws lv tgt st o1) (kf : x = y → GG X D Q n ws lv (pc + 3) st o2) : GG X D Q n ws lv pc (.int y :: .int x :: st) (if x = y then o2 else o1) := by
  obtain ⟨p, l, e, R, s, m, args, below, meth, c, A, nL⟩ := X
  obtain ⟨hx, hb, hml, hown, hts, hK, hA, hlk, hR, hSE⟩ := C
  intro res h H locs ls hP hD hS hL
  exact lv_icmp_ne hx hb hd ht (fun c1 => kt c1 res (by rw [if_neg c1] at h; exact h) H locs ls hP hD hS hL) (fun c1 => kf c1 res (by rw [if_pos c1] at h; exact h) H locs ls hP hD hS hL)
theorem gg_icmp_ne_T (C : Cx X D T cc own rm) {x y : Int32} {off : Int} {tgt : Nat} (hd : decode cc pc = .ok (.if_icmp .ne off, 3)) (ht : (pc : Int) + off = (tgt : Int)) (hc : ¬ x = y) (kt : GG X D Q n ws lv tgt st o) : GG X D Q n ws lv pc (.int y :: .int x :: st) o := by
  obtain ⟨p, l, e, R, s, m, args, below, meth, c, A, nL⟩ := X
  obtain ⟨hx, hb, hml, hown, hts, hK, hA, hlk, hR, hSE⟩ := C
  intro res h H locs ls hP hD hS hL
  exact lv_icmp_ne hx hb hd ht (fun _ => kt res h H locs ls hP hD hS hL) (fun c1 => absurd hc (fun z => by first | exact z c1 | exact c1 z))
theorem gg_icmp_ne_F (C : Cx X D T cc own rm) {x y : Int32} {off : Int} (tgt : Nat) (hd : decode cc pc = .ok (.if_icmp .ne off, 3)) (ht : (pc : Int) + off = (tgt : Int)) (hc : ¬ (¬ x = y)) (kf : GG X D Q n ws lv (pc + 3) st o) : GG X D Q n ws lv pc (.int y :: .int x :: st) o := by
  obtain ⟨p, l, e, R, s, m, args, below, meth, c, A, nL⟩ := X
  obtain ⟨hx, hb, hml, hown, hts, hK, hA, hlk, hR, hSE⟩ := C
  intro res h H locs ls hP hD hS hL
  exact lv_icmp_ne hx hb hd ht (fun c1 => absurd c1 hc) (fun _ => kf res h H locs ls hP hD hS hL)
theorem gg_if_ne (C : Cx X D T cc own rm) {x : Int32} {off : Int} {tgt : Nat} (hd : decode cc pc = .ok (.ifCond .ne off, 3)) (ht : (pc : Int) + off = (tgt : Int)) (kt : ¬ x = 0 → GG X D Q n ws lv tgt st o1) (kf : x = 0 → GG X D Q n ws lv (pc + 3) st o2) : GG X D Q n ws lv pc (.int x :: st) (if x = 0 then o2 else o1) := by
  obtain ⟨p, l, e, R, s, m, args, below, meth, c, A, nL⟩ := X
  obtain ⟨hx, hb, hml, hown, hts, hK, hA, hlk, hR, hSE⟩ := C
  intro res h H locs ls hP hD hS hL
  exact lv_if_ne hx hb hd ht (fun c1 => kt c1 res (by rw [if_neg c1] at h; exact h) H locs ls hP hD hS hL) (fun c1 => kf c1 res (by rw [if_pos c1] at h; exact h) H locs ls hP hD hS hL)
theorem gg_if_ne_T (C : Cx X D T cc own rm) {x : Int32} {off : Int} {tgt : Nat} (hd : decode cc pc = .ok (.ifCond .ne off, 3)) (ht : (pc : Int) + off = (tgt : Int)) (hc : ¬ x = 0) (kt : GG X D Q n ws lv tgt st o) : GG X D Q n ws lv pc (.int x :: st) o := by
  obtain ⟨p, l, e, R, s, m, args, below, meth, c, A, nL⟩ := X
  obtain ⟨hx, hb, hml, hown, hts, hK, hA, hlk, hR, hSE⟩ := C
  intro res h H locs ls hP hD hS hL
  exact lv_if_ne hx hb hd ht (fun _ => kt res h H locs ls hP hD hS hL) (fun c1 => absurd hc (fun z => by first | exact z c1 | exact c1 z))
theorem gg_if_ne_F (C : Cx X D T cc own rm) {x : Int32} {off : Int} (tgt : Nat) (hd : decode cc pc = .ok (.ifCond .ne off, 3)) (ht : (pc : Int) + off = (tgt : Int)) (hc : ¬ (¬ x = 0)) (kf : GG X D Q n ws lv (pc + 3) st o) : GG X D Q n ws lv pc (.int x :: st) o := by
  obtain ⟨p, l, e, R, s, m, args, below, meth, c, A, nL⟩ := X
  obtain ⟨hx, hb, hml, hown, hts, hK, hA, hlk, hR, hSE⟩ := C
  intro res h H locs ls hP hD hS hL
  exact lv_if_ne hx hb hd ht (fun c1 => absurd c1 hc) (fun _ => kf res h H locs ls hP hD hS hL)
theorem gg_icmp_lt (C : Cx X D T cc own rm) {x y : Int32} {off : Int} {tgt : Nat} (hd : decode cc pc = .ok (.if_icmp .lt off, 3)) (ht : (pc : Int) + off = (tgt : Int)) (kt : x < y → GG X D Q n ws lv tgt st o1) (kf : ¬ x < y → GG X D Q n ws lv (pc + 3) st o2) : GG X D Q n ws lv pc (.int y :: .int x :: st) (if x < y then o1 else o2) := by
  obtain ⟨p, l, e, R, s, m, args, below, meth, c, A, nL⟩ := X
  obtain ⟨hx, hb, hml, hown, hts, hK, hA, hlk, hR, hSE⟩ := C
  intro res h H locs ls hP hD hS hL
  exact lv_icmp_lt hx hb hd ht (fun c1 => kt c1 res (by rw [if_pos c1] at h; exact h) H locs ls hP hD hS hL) (fun c1 => kf c1 res (by first | (rw [if_neg c1] at h; exact h) | (rw [if_neg (fun q => q c1)] at h; exact h)) H locs ls hP hD hS hL)
theorem gg_icmp_lt_T (C : Cx X D T cc own rm) {x y : Int32} {off : Int} {tgt : Nat} (hd : decode cc pc = .ok (.if_icmp .lt off, 3)) (ht : (pc : Int) + off = (tgt : Int)) (hc : x < y) (kt : GG X D Q n ws lv tgt st o) : GG X D Q n ws lv pc (.int y :: .int x :: st) o := by
  obtain ⟨p, l, e, R, s, m, args, below, meth, c, A, nL⟩ := X
  obtain ⟨hx, hb, hml, hown, hts, hK, hA, hlk, hR, hSE⟩ := C
  intro res h H locs ls hP hD hS hL
  exact lv_icmp_lt hx hb hd ht (fun _ => kt res h H locs ls hP hD hS hL) (fun c1 => absurd hc c1)
theorem gg_icmp_lt_F (C : Cx X D T cc own rm) {x y : Int32} {off : Int} (tgt : Nat) (hd : decode cc pc = .ok (.if_icmp .lt off, 3)) (ht : (pc : Int) + off = (tgt : Int)) (hc : ¬ (x < y)) (kf : GG X D Q n ws lv (pc + 3) st o) : GG X D Q n ws lv pc (.int y :: .int x :: st) o := by
  obtain ⟨p, l, e, R, s, m, args, below, meth, c, A, nL⟩ := X
  obtain ⟨hx, hb, hml, hown, hts, hK, hA, hlk, hR, hSE⟩ := C
  intro res h H locs ls hP hD hS hL
  exact lv_icmp_lt hx hb hd ht (fun c1 => absurd c1 hc) (fun _ => kf res h H locs ls hP hD hS hL)
theorem gg_if_lt (C : Cx X D T cc own rm) {x : Int32} {off : Int} {tgt : Nat} (hd : decode cc pc = .ok (.ifCond .lt off, 3)) (ht : (pc : Int) + off = (tgt : Int)) (kt : x < 0 → GG X D Q n ws lv tgt st o1) (kf : ¬ x < 0 → GG X D Q n ws lv (pc + 3) st o2) : GG X D Q n ws lv pc (.int x :: st) (if x < 0 then o1 else o2) := by
  obtain ⟨p, l, e, R, s, m, args, below, meth, c, A, nL⟩ := X
  obtain ⟨hx, hb, hml, hown, hts, hK, hA, hlk, hR, hSE⟩ := C
  intro res h H locs ls hP hD hS hL
  exact lv_if_lt hx hb hd ht (fun c1 => kt c1 res (by rw [if_pos c1] at h; exact h) H locs ls hP hD hS hL) (fun c1 => kf c1 res (by first | (rw [if_neg c1] at h; exact h) | (rw [if_neg (fun q => q c1)] at h; exact h)) H locs ls hP hD hS hL)
theorem gg_if_lt_T (C : Cx X D T cc own rm) {x : Int32} {off : Int} {tgt : Nat} (hd : decode cc pc = .ok (.ifCond .lt off, 3)) (ht : (pc : Int) + off = (tgt : Int)) (hc : x < 0) (kt : GG X D Q n ws lv tgt st o) : GG X D Q n ws lv pc (.int x :: st) o := by
  obtain ⟨p, l, e, R, s, m, args, below, meth, c, A, nL⟩ := X
  obtain ⟨hx, hb, hml, hown, hts, hK, hA, hlk, hR, hSE⟩ := C
  intro res h H locs ls hP hD hS hL
  exact lv_if_lt hx hb hd ht (fun _ => kt res h H locs ls hP hD hS hL) (fun c1 => absurd hc c1)
theorem gg_if_lt_F (C : Cx X D T cc own rm) {x : Int32} {off : Int} (tgt : Nat) (hd : decode cc pc = .ok (.ifCond .lt off, 3)) (ht : (pc : Int) + off = (tgt : Int)) (hc : ¬ (x < 0)) (kf : GG X D Q n ws lv (pc + 3) st o) : GG X D Q n ws lv pc (.int x :: st) o := by
  obtain ⟨p, l, e, R, s, m, args, below, meth, c, A, nL⟩ := X
  obtain ⟨hx, hb, hml, hown, hts, hK, hA, hlk, hR, hSE⟩ := C
  intro res h H locs ls hP hD hS hL
  exact lv_if_lt hx hb hd ht (fun c1 => absurd c1 hc) (fun _ => kf res h H locs ls hP hD hS hL)
theorem gg_icmp_ge (C : Cx X D T cc own rm) {x y : Int32} {off : Int} {tgt : Nat} (hd : decode cc pc = .ok (.if_icmp .ge off, 3)) (ht : (pc : Int) + off = (tgt : Int)) (kt : y ≤ x → GG X D Q n ws lv tgt st o1) (kf : ¬ y ≤ x → GG X D Q n ws lv (pc + 3) st o2) : GG X D Q n ws lv pc (.int y :: .int x :: st) (if y ≤ x then o1 else o2) := by
  obtain ⟨p, l, e, R, s, m, args, below, meth, c, A, nL⟩ := X
  obtain ⟨hx, hb, hml, hown, hts, hK, hA, hlk, hR, hSE⟩ := C
  intro res h H locs ls hP hD hS hL
  exact lv_icmp_ge hx hb hd ht (fun c1 => kt c1 res (by rw [if_pos c1] at h; exact h) H locs ls hP hD hS hL) (fun c1 => kf c1 res (by first | (rw [if_neg c1] at h; exact h) | (rw [if_neg (fun q => q c1)] at h; exact h)) H locs ls hP hD hS hL)
theorem gg_icmp_ge_T (C : Cx X D T cc own rm) {x y : Int32} {off : Int} {tgt : Nat} (hd : decode cc pc = .ok (.if_icmp .ge off, 3)) (ht : (pc : Int) + off = (tgt : Int)) (hc : y ≤ x) (kt : GG X D Q n ws lv tgt st o) : GG X D Q n ws lv pc (.int y :: .int x :: st) o := by
  obtain ⟨p, l, e, R, s, m, args, below, meth, c, A, nL⟩ := X
  obtain ⟨hx, hb, hml, hown, hts, hK, hA, hlk, hR, hSE⟩ := C
  intro res h H locs ls hP hD hS hL
  exact lv_icmp_ge hx hb hd ht (fun _ => kt res h H locs ls hP hD hS hL) (fun c1 => absurd hc c1)
theorem gg_icmp_ge_F (C : Cx X D T cc own rm) {x y : Int32} {off : Int} (tgt : Nat) (hd : decode cc pc = .ok (.if_icmp .ge off, 3)) (ht : (pc : Int) + off = (tgt : Int)) (hc : ¬ (y ≤ x)) (kf : GG X D Q n ws lv (pc + 3) st o) : GG X D Q n ws lv pc (.int y :: .int x :: st) o := by
  obtain ⟨p, l, e, R, s, m, args, below, meth, c, A, nL⟩ := X
  obtain ⟨hx, hb, hml, hown, hts, hK, hA, hlk, hR, hSE⟩ := C
  intro res h H locs ls hP hD hS hL
  exact lv_icmp_ge hx hb hd ht (fun c1 => absurd c1 hc) (fun _ => kf res h H locs ls hP hD hS hL)
theorem gg_if_ge (C : Cx X D T cc own rm) {x : Int32} {off : Int} {tgt : Nat} (hd : decode cc pc = .ok (.ifCond .ge off, 3)) (ht : (pc : Int) + off = (tgt : Int)) (kt : 0 ≤ x → GG X D Q n ws lv tgt st o1) (kf : ¬ 0 ≤ x → GG X D Q n ws lv (pc + 3) st o2) : GG X D Q n ws lv pc (.int x :: st) (if 0 ≤ x then o1 else o2) := by
  obtain ⟨p, l, e, R, s, m, args, below, meth, c, A, nL⟩ := X
  obtain ⟨hx, hb, hml, hown, hts, hK, hA, hlk, hR, hSE⟩ := C
  intro res h H locs ls hP hD hS hL
  exact lv_if_ge hx hb hd ht (fun c1 => kt c1 res (by rw [if_pos c1] at h; exact h) H locs ls hP hD hS hL) (fun c1 => kf c1 res (by first | (rw [if_neg c1] at h; exact h) | (rw [if_neg (fun q => q c1)] at h; exact h)) H locs ls hP hD hS hL)
theorem gg_if_ge_T (C : Cx X D T cc own rm) {x : Int32} {off : Int} {tgt : Nat} (hd : decode cc pc = .ok (.ifCond .ge off, 3)) (ht : (pc : Int) + off = (tgt : Int)) (hc : 0 ≤ x) (kt : GG X D Q n ws lv tgt st o) : GG X D Q n ws lv pc (.int x :: st) o := by
  obtain ⟨p, l, e, R, s, m, args, below, meth, c, A, nL⟩ := X
  obtain ⟨hx, hb, hml, hown, hts, hK, hA, hlk, hR, hSE⟩ := C
  intro res h H locs ls hP hD hS hL
  exact lv_if_ge hx hb hd ht (fun _ => kt res h H locs ls hP hD hS hL) (fun c1 => absurd hc c1)
theorem gg_if_ge_F (C : Cx X D T cc own rm) {x : Int32} {off : Int} (tgt : Nat) (hd : decode cc pc = .ok (.ifCond .ge off, 3)) (ht : (pc : Int) + off = (tgt : Int)) (hc : ¬ (0 ≤ x)) (kf : GG X D Q n ws lv (pc + 3) st o) : GG X D Q n ws lv pc (.int x :: st) o := by
  obtain ⟨p, l, e, R, s, m, args, below, meth, c, A, nL⟩ := X
  obtain ⟨hx, hb, hml, hown, hts, hK, hA, hlk, hR, hSE⟩ := C
  intro res h H locs ls hP hD hS hL
  exact lv_if_ge hx hb hd ht (fun c1 => absurd c1 hc) (fun _ => kf res h H locs ls hP hD hS hL)
theorem gg_icmp_gt (C : Cx X D T cc own rm) {x y : Int32} {off : Int} {tgt : Nat} (hd : decode cc pc = .ok (.if_icmp .gt off, 3)) (ht : (pc : Int) + off = (tgt : Int)) (kt : y < x → GG X D Q n ws lv tgt st o1) (kf : ¬ y < x → GG X D Q n ws lv (pc + 3) st o2) : GG X D Q n ws lv pc (.int y :: .int x :: st) (if y < x then o1 else o2) := by
  obtain ⟨p, l, e, R, s, m, args, below, meth, c, A, nL⟩ := X
  obtain ⟨hx, hb, hml, hown, hts, hK, hA, hlk, hR, hSE⟩ := C
  intro res h H locs ls hP hD hS hL
  exact lv_icmp_gt hx hb hd ht (fun c1 => kt c1 res (by rw [if_pos c1] at h; exact h) H locs ls hP hD hS hL) (fun c1 => kf c1 res (by first | (rw [if_neg c1] at h; exact h) | (rw [if_neg (fun q => q c1)] at h; exact h)) H locs ls hP hD hS hL)
theorem gg_icmp_gt_T (C : Cx X D T cc own rm) {x y : Int32} {off : Int} {tgt : Nat} (hd : decode cc pc = .ok (.if_icmp .gt off, 3)) (ht : (pc : Int) + off = (tgt : Int)) (hc : y < x) (kt : GG X D Q n ws lv tgt st o) : GG X D Q n ws lv pc (.int y :: .int x :: st) o := by
  obtain ⟨p, l, e, R, s, m, args, below, meth, c, A, nL⟩ := X
  obtain ⟨hx, hb, hml, hown, hts, hK, hA, hlk, hR, hSE⟩ := C
  intro res h H locs ls hP hD hS hL
  exact lv_icmp_gt hx hb hd ht (fun _ => kt res h H locs ls hP hD hS hL) (fun c1 => absurd hc c1)
theorem gg_icmp_gt_F (C : Cx X D T cc own rm) {x y : Int32} {off : Int} (tgt : Nat) (hd : decode cc pc = .ok (.if_icmp .gt off, 3)) (ht : (pc : Int) + off = (tgt : Int)) (hc : ¬ (y < x)) (kf : GG X D Q n ws lv (pc + 3) st o) : GG X D Q n ws lv pc (.int y :: .int x :: st) o := by
  obtain ⟨p, l, e, R, s, m, args, below, meth, c, A, nL⟩ := X
  obtain ⟨hx, hb, hml, hown, hts, hK, hA, hlk, hR, hSE⟩ := C
  intro res h H locs ls hP hD hS hL
  exact lv_icmp_gt hx hb hd ht (fun c1 => absurd c1 hc) (fun _ => kf res h H locs ls hP hD hS hL)
theorem gg_if_gt (C : Cx X D T cc own rm) {x : Int32} {off : Int} {tgt : Nat} (hd : decode cc pc = .ok (.ifCond .gt off, 3)) (ht : (pc : Int) + off = (tgt : Int)) (kt : 0 < x → GG X D Q n ws lv tgt st o1) (kf : ¬ 0 < x → GG X D Q n ws lv (pc + 3) st o2) : GG X D Q n ws lv pc (.int x :: st) (if 0 < x then o1 else o2) := by
  obtain ⟨p, l, e, R, s, m, args, below, meth, c, A, nL⟩ := X
  obtain ⟨hx, hb, hml, hown, hts, hK, hA, hlk, hR, hSE⟩ := C
  intro res h H locs ls hP hD hS hL
  exact lv_if_gt hx hb hd ht (fun c1 => kt c1 res (by rw [if_pos c1] at h; exact h) H locs ls hP hD hS hL) (fun c1 => kf c1 res (by first | (rw [if_neg c1] at h; exact h) | (rw [if_neg (fun q => q c1)] at h; exact h)) H locs ls hP hD hS hL)
theorem gg_if_gt_T (C : Cx X D T cc own rm) {x : Int32} {off : Int} {tgt : Nat} (hd : decode cc pc = .ok (.ifCond .gt off, 3)) (ht : (pc : Int) + off = (tgt : Int)) (hc : 0 < x) (kt : GG X D Q n ws lv tgt st o) : GG X D Q n ws lv pc (.int x :: st) o := by
  obtain ⟨p, l, e, R, s, m, args, below, meth, c, A, nL⟩ := X
  obtain ⟨hx, hb, hml, hown, hts, hK, hA, hlk, hR, hSE⟩ := C
  intro res h H locs ls hP hD hS hL
  exact lv_if_gt hx hb hd ht (fun _ => kt res h H locs ls hP hD hS hL) (fun c1 => absurd hc c1)
theorem gg_if_gt_F (C : Cx X D T cc own rm) {x : Int32} {off : Int} (tgt : Nat) (hd : decode cc pc = .ok (.ifCond .gt off, 3)) (ht : (pc : Int) + off = (tgt : Int)) (hc : ¬ (0 < x)) (kf : GG X D Q n ws lv (pc + 3) st o) : GG X D Q n ws lv pc (.int x :: st) o := by
  obtain ⟨p, l, e, R, s, m, args, below, meth, c, A, nL⟩ := X
  obtain ⟨hx, hb, hml, hown, hts, hK, hA, hlk, hR, hSE⟩ := C
  intro res h H locs ls hP hD hS hL
  exact lv_if_gt hx hb hd ht (fun c1 => absurd c1 hc) (fun _ => kf res h H locs ls hP hD hS hL)
theorem gg_icmp_le (C : Cx X D T cc own rm) {x y : Int32} {off : Int} {tgt : Nat} (hd : decode cc pc = .ok (.if_icmp .le off, 3)) (ht : (pc : Int) + off = (tgt : Int)) (kt : x ≤ y → GG X D Q n ws lv tgt st o1) (kf : ¬ x ≤ y → GG X D Q n ws lv (pc + 3) st o2) : GG X D Q n ws lv pc (.int y :: .int x :: st) (if x ≤ y then o1 else o2) := by
  obtain ⟨p, l, e, R, s, m, args, below, meth, c, A, nL⟩ := X
  obtain ⟨hx, hb, hml, hown, hts, hK, hA, hlk, hR, hSE⟩ := C
  intro res h H locs ls hP hD hS hL
  exact lv_icmp_le hx hb hd ht (fun c1 => kt c1 res (by rw [if_pos c1] at h; exact h) H locs ls hP hD hS hL) (fun c1 => kf c1 res (by first | (rw [if_neg c1] at h; exact h) | (rw [if_neg (fun q => q c1)] at h; exact h)) H locs ls hP hD hS hL)
theorem gg_icmp_le_T (C : Cx X D T cc own rm) {x y : Int32} {off : Int} {tgt : Nat} (hd : decode cc pc = .ok (.if_icmp .le off, 3)) (ht : (pc : Int) + off = (tgt : Int)) (hc : x ≤ y) (kt : GG X D Q n ws lv tgt st o) : GG X D Q n ws lv pc (.int y :: .int x :: st) o := by
  obtain ⟨p, l, e, R, s, m, args, below, meth, c, A, nL⟩ := X
  obtain ⟨hx, hb, hml, hown, hts, hK, hA, hlk, hR, hSE⟩ := C
  intro res h H locs ls hP hD hS hL
  exact lv_icmp_le hx hb hd ht (fun _ => kt res h H locs ls hP hD hS hL) (fun c1 => absurd hc c1)
theorem gg_icmp_le_F (C : Cx X D T cc own rm) {x y : Int32} {off : Int} (tgt : Nat) (hd : decode cc pc = .ok (.if_icmp .le off, 3)) (ht : (pc : Int) + off = (tgt : Int)) (hc : ¬ (x ≤ y)) (kf : GG X D Q n ws lv (pc + 3) st o) : GG X D Q n ws lv pc (.int y :: .int x :: st) o := by
  obtain ⟨p, l, e, R, s, m, args, below, meth, c, A, nL⟩ := X
  obtain ⟨hx, hb, hml, hown, hts, hK, hA, hlk, hR, hSE⟩ := C
  intro res h H locs ls hP hD hS hL
  exact lv_icmp_le hx hb hd ht (fun c1 => absurd c1 hc) (fun _ => kf res h H locs ls hP hD hS hL)
theorem gg_if_le (C : Cx X D T cc own rm) {x : Int32} {off : Int} {tgt : Nat} (hd : decode cc pc = .ok (.ifCond .le off, 3)) (ht : (pc : Int) + off = (tgt : Int)) (kt : x ≤ 0 → GG X D Q n ws lv tgt st o1) (kf : ¬ x ≤ 0 → GG X D Q n ws lv (pc + 3) st o2) : GG X D Q n ws lv pc (.int x :: st) (if x ≤ 0 then o1 else o2) := by
  obtain ⟨p, l, e, R, s, m, args, below, meth, c, A, nL⟩ := X
  obtain ⟨hx, hb, hml, hown, hts, hK, hA, hlk, hR, hSE⟩ := C
  intro res h H locs ls hP hD hS hL
  exact lv_if_le hx hb hd ht (fun c1 => kt c1 res (by rw [if_pos c1] at h; exact h) H locs ls hP hD hS hL) (fun c1 => kf c1 res (by first | (rw [if_neg c1] at h; exact h) | (rw [if_neg (fun q => q c1)] at h; exact h)) H locs ls hP hD hS hL)
theorem gg_if_le_T (C : Cx X D T cc own rm) {x : Int32} {off : Int} {tgt : Nat} (hd : decode cc pc = .ok (.ifCond .le off, 3)) (ht : (pc : Int) + off = (tgt : Int)) (hc : x ≤ 0) (kt : GG X D Q n ws lv tgt st o) : GG X D Q n ws lv pc (.int x :: st) o := by
  obtain ⟨p, l, e, R, s, m, args, below, meth, c, A, nL⟩ := X
  obtain ⟨hx, hb, hml, hown, hts, hK, hA, hlk, hR, hSE⟩ := C
  intro res h H locs ls hP hD hS hL
  exact lv_if_le hx hb hd ht (fun _ => kt res h H locs ls hP hD hS hL) (fun c1 => absurd hc c1)
theorem gg_if_le_F (C : Cx X D T cc own rm) {x : Int32} {off : Int} (tgt : Nat) (hd : decode cc pc = .ok (.ifCond .le off, 3)) (ht : (pc : Int) + off = (tgt : Int)) (hc : ¬ (x ≤ 0)) (kf : GG X D Q n ws lv (pc + 3) st o) : GG X D Q n ws lv pc (.int x :: st) o := by
  obtain ⟨p, l, e, R, s, m, args, below, meth, c, A, nL⟩ := X
  obtain ⟨hx, hb, hml, hown, hts, hK, hA, hlk, hR, hSE⟩ := C
  intro res h H locs ls hP hD hS hL
  exact lv_if_le hx hb hd ht (fun c1 => absurd c1 hc) (fun _ => kf res h H locs ls hP hD hS hL)
theorem gg_goto (C : Cx X D T cc own rm) {off : Int} {tgt : Nat} (hd : decode cc pc = .ok (.goto off, 3)) (ht : (pc : Int) + off = (tgt : Int)) (kk : GG X D Q n ws lv tgt st o) : GG X D Q n ws lv pc st o := by
  obtain ⟨p, l, e, R, s, m, args, below, meth, c, A, nL⟩ := X
  obtain ⟨hx, hb, hml, hown, hts, hK, hA, hlk, hR, hSE⟩ := C
  intro res h H locs ls hP hD hS hL
  exact lv_goto hx hb hd ht (kk res h H locs ls hP hD hS hL)
theorem gg_ite {c : Prop} [Decidable c] (kt : c → GG X D Q n ws lv pc st o1) (kf : ¬ c → GG X D Q n ws lv pc st o2) : GG X D Q n ws lv pc st (if c then o1 else o2) := by
  by_cases hc : c
  · rw [if_pos hc]; exact kt hc
  · rw [if_neg hc]; exact kf hc
theorem gg_tabIn (C : Cx X D T cc own rm) {dflt lo hi : Int} {offs : Array Int} {len : Nat} {x : Int32} {off : Int} {tgt : Nat} (z : Int) (hd : decode cc pc = .ok (.tableswitch dflt lo hi offs, len)) (hz : x.toInt = z) (h1 : ¬ z < lo) (h2 : ¬ hi < z) (ho : offs[(z - lo).toNat]? = some off) (ht : (pc : Int) + off = (tgt : Int)) (kk : GG X D Q n ws lv tgt st o) : GG X D Q n ws lv pc (.int x :: st) o := by
  obtain ⟨p, l, e, R, s, m, args, below, meth, c, A, nL⟩ := X
  obtain ⟨hx, hb, hml, hown, hts, hK, hA, hlk, hR, hSE⟩ := C
  intro res h H locs ls hP hD hS hL
  subst hz
  exact lv_tableIn hx hb hd h1 h2 ho ht (kk res h H locs ls hP hD hS hL)
theorem gg_tabOut (C : Cx X D T cc own rm) {dflt lo hi : Int} {offs : Array Int} {len : Nat} {x : Int32} {tgt : Nat} (hd : decode cc pc = .ok (.tableswitch dflt lo hi offs, len)) (h1 : x.toInt < lo ∨ hi < x.toInt) (ht : (pc : Int) + dflt = (tgt : Int)) (kk : GG X D Q n ws lv tgt st o) : GG X D Q n ws lv pc (.int x :: st) o := by
  obtain ⟨p, l, e, R, s, m, args, below, meth, c, A, nL⟩ := X
  obtain ⟨hx, hb, hml, hown, hts, hK, hA, hlk, hR, hSE⟩ := C
  intro res h H locs ls hP hD hS hL
  exact lv_tableOut hx hb hd h1 ht (kk res h H locs ls hP hD hS hL)
theorem gg_look (C : Cx X D T cc own rm) {dflt : Int} {ps : Array (Int × Int)} {len : Nat} {x : Int32} {off : Int} {tgt : Nat} (hd : decode cc pc = .ok (.lookupswitch dflt ps, len)) (hp : (ps.toList.zip (ps.toList.drop 1)).all (fun (a, next) => a.1 < next.1) = true) (ho : Op.lookupswitch.offset ps.toList dflt x.toInt = off) (ht : (pc : Int) + off = (tgt : Int)) (kk : GG X D Q n ws lv tgt st o) : GG X D Q n ws lv pc (.int x :: st) o := by
  obtain ⟨p, l, e, R, s, m, args, below, meth, c, A, nL⟩ := X
  obtain ⟨hx, hb, hml, hown, hts, hK, hA, hlk, hR, hSE⟩ := C
  intro res h H locs ls hP hD hS hL
  exact lv_lookup hx hb hd hp ho ht (kk res h H locs ls hP hD hS hL)
theorem gg_bi {e : Int32} {k : Int32 → Option ρ} (kk : ∀ x, GG X D Q n ws lv pc (.int x :: st) (k x)) : GG X D Q n ws lv pc (.int e :: st) (bi e k) := kk e
theorem gg_biL {e : Int64} {k : Int64 → Option ρ} (kk : ∀ x, GG X D Q n ws lv pc (.long x :: st) (k x)) : GG X D Q n ws lv pc (.long e :: st) (bi e k) := kk e
theorem gg_bv {α : Type} {e : α} {k : α → Option ρ} (lvF : α → List (Nat × Value)) (kk : ∀ x, GG X D Q n ws (lvF x) pc st (k x)) : GG X D Q n ws (lvF e) pc st (bi e k) := kk e
theorem gg_bw {α : Type} {e : α} {k : α → Option ρ} (wF : α → va_W) (kk : ∀ x, GG X D Q n (wF x) lv pc st (k x)) : GG X D Q n (wF e) lv pc st (bi e k) := kk e
theorem gg_none : GG X D Q n ws lv pc st none := by
  obtain ⟨p, l, e, R, s, m, args, below, meth, c, A, nL⟩ := X
  intro res h
  cases h
def JQ {α : Type} (k : α → Option ρ) (Q : ρ → State → Prop) : α → State → Prop := fun v t => ∀ res, k v = some res → Q res t
theorem gg_jn {α : Type} {A : Option α} {k : α → Option ρ} (h0 : GG X D (JQ k Q) n ws lv pc st A) : GG X D Q n ws lv pc st (jn A k) := by
  obtain ⟨p, l, e, R, s, m, args, below, meth, c, Ad, nL⟩ := X
  intro res h H locs ls hP hD hS hL
  cases hA : A with
  | none => rw [hA] at h; cases h
  | some v =>
    rw [hA] at h
    intro T0 hT0 Y
    obtain ⟨t, a, b⟩ := h0 v hA H locs ls hP hD hS hL T0 hT0 Y
    exact ⟨t, a, b res h⟩
theorem gg_leaf {α : Type} {v : α} {k : α → Option ρ} (h0 : GG X D Q n ws lv pc st (k v)) : GG X D (JQ k Q) n ws lv pc st (some v) := by
  obtain ⟨p, l, e, R, s, m, args, below, meth, c, Ad, nL⟩ := X
  intro res h H locs ls hP hD hS hL
  obtain rfl := Option.some.inj h
  intro T0 hT0 Y
  cases hk : k v with
  | none => exact ⟨_, Steps.refl _, fun r hr => by rw [hk] at hr; cases hr⟩
  | some r0 =>
    obtain ⟨t, a, b⟩ := h0 r0 hk H locs ls hP hD hS hL T0 hT0 Y
    exact ⟨t, a, fun r hr => by rw [hk] at hr; obtain rfl := Option.some.inj hr; exact b⟩
theorem gg_join {α : Type} {A : Option α} {k : α → Option ρ} (J : Nat) (wJ : α → va_W) (lJ : α → List (Nat × Value)) (sJ : α → List Value) (tail : ∀ v, GG X D Q n (wJ v) (lJ v) J (sJ v) (k v)) (reg : (∀ v, GG X D (JQ k Q) n (wJ v) (lJ v) J (sJ v) (some v)) → GG X D (JQ k Q) n ws lv pc st A) : GG X D Q n ws lv pc st (jn A k) :=
  gg_jn (reg (fun v => gg_leaf (tail v)))
theorem gg_get (C : Cx X D T cc own rm) {Cn : String} {Tt : u_T} {N ci index : Nat} (hin : ∀ w ∈ u_ws Cn Tt N, w ∈ tb) (hc : vwCl[ci]? = some (Cn, Tt, N)) (k : Nat) (hk : k < N) (hlink : Cond.fieldLink own index (Tt k).1 (Tt k).2.1 (Tt k).2.2.1 ∈ tb) (q0 : Nat) {a : Nat} {fs : List Value} {v : Value} (he : ws[q0]? = some (a, .inr (ci, fs))) (hv : fs[k]? = some v) (hd : decode cc pc = .ok (.getfield index, 3)) (kk : GG X D Q n ws lv (pc + 3) (v :: st) o) : GG X D Q n ws lv pc (.ref a :: st) o := by
  obtain ⟨p, l, e, R, s, m, args, below, meth, c, A, nL⟩ := X
  obtain ⟨hx, hb, hml, hown, hts, hK, hA, hlk, hR, hSE⟩ := C
  intro res h H locs ls hP hD hS hL
  exact va_get hx hb hts hin hown hK hP q0 he hc k hk (hts _ hlink) (fun _ h9 => h9) hv hd (kk res h H locs ls hP hD hS hL)
theorem gg_put (C : Cx X D T cc own rm) {Cn : String} {Tt : u_T} {N ci index : Nat} (hin : ∀ w ∈ u_ws Cn Tt N, w ∈ tb) (ty0 : Nat → FieldType) (hty : ∀ k, k < N → parseFieldDescriptor (Tt k).2.2.1 = some (ty0 k)) (hnm : ∀ a, a < N → ∀ b, b < N → a ≠ b → (Tt a).2.1 ≠ (Tt b).2.1) (hc : vwCl[ci]? = some (Cn, Tt, N)) (k : Nat) (hk : k < N) (hlink : Cond.fieldLink own index (Tt k).1 (Tt k).2.1 (Tt k).2.2.1 ∈ tb) (hfin : (Tt k).2.2.2 = false) (q0 : Nat) {a : Nat} {fs : List Value} {v : Value} (hn : narrow (ty0 k) v = v) (hfit : fits (ty0 k) v = true) (he : ws[q0]? = some (a, .inr (ci, fs))) (hl : k < fs.length) (hd : decode cc pc = .ok (.putfield index, 3)) (hw : ws.set q0 (a, .inr (ci, fs.set k v)) = ws') (kk : GG X D Q n ws' lv (pc + 3) st o) : GG X D Q n ws lv pc (v :: .ref a :: st) o := by
  obtain ⟨p, l, e, R, s, m, args, below, meth, c, A, nL⟩ := X
  obtain ⟨hx, hb, hml, hown, hts, hK, hA, hlk, hR, hSE⟩ := C
  intro res h H locs ls hP hD hS hL
  subst hw
  exact va_put hx hb hts hin ty0 hty hnm hown hK hP hD hS q0 he hc k hk (hts _ hlink) (fun _ h9 => h9) hfin (hty k hk) hn hfit hl hd (fun H1 locs1 hP1 hD1 hS1 => kk res h H1 locs1 ls hP1 hD1 hS1 hL)
theorem gg_putF (C : Cx X D T cc own rm) (hini : (kxM X).name = "<init>") {Cn : String} {Tt : u_T} {N ci index : Nat} (hin : ∀ w ∈ u_ws Cn Tt N, w ∈ tb) (ty0 : Nat → FieldType) (hty : ∀ k, k < N → parseFieldDescriptor (Tt k).2.2.1 = some (ty0 k)) (hnm : ∀ a, a < N → ∀ b, b < N → a ≠ b → (Tt a).2.1 ≠ (Tt b).2.1) (hc : vwCl[ci]? = some (Cn, Tt, N)) (k : Nat) (hk : k < N) (hlink : Cond.fieldLink own index (Tt k).1 (Tt k).2.1 (Tt k).2.2.1 ∈ tb) (hfin : (Tt k).2.2.2 = true) (hdecl : (Tt k).1 = own) (q0 : Nat) {a : Nat} {fs : List Value} {v : Value} (hn : narrow (ty0 k) v = v) (hfit : fits (ty0 k) v = true) (he : ws[q0]? = some (a, .inr (ci, fs))) (hl : k < fs.length) (hd : decode cc pc = .ok (.putfield index, 3)) (hw : ws.set q0 (a, .inr (ci, fs.set k v)) = ws') (kk : GG X D Q n ws' lv (pc + 3) st o) : GG X D Q n ws lv pc (v :: .ref a :: st) o := by
  obtain ⟨p, l, e, R, s, m, args, below, meth, c, A, nL⟩ := X
  obtain ⟨hx, hb, hml, hown, hts, hK, hA, hlk, hR, hSE⟩ := C
  intro res h H locs ls hP hD hS hL
  subst hw
  exact va_putF hx hb hts hin ty0 hty hnm hown hK hP hD hS q0 he hc k hk (hts _ hlink) (fun _ h9 => h9) hfin hini hdecl (hty k hk) hn hfit hl hd (fun H1 locs1 hP1 hD1 hS1 => kk res h H1 locs1 ls hP1 hD1 hS1 hL)
theorem gg_iald (C : Cx X D T cc own rm) (q0 : Nat) {a N : Nat} {f : Nat → Int32} {i : Int32} (he : ws[q0]? = some (a, .inl (T 0, N, .inl f))) (hd : decode cc pc = .ok (.iaload, 1)) (kk : GG X D Q n ws lv (pc + 1) (.int (f i.toNatClampNeg) :: st) o) : GG X D Q n ws lv pc (.int i :: .ref a :: st) (gu i N o) := by
  obtain ⟨p, l, e, R, s, m, args, below, meth, c, A, nL⟩ := X
  obtain ⟨hx, hb, hml, hown, hts, hK, hA, hlk, hR, hSE⟩ := C
  intro res h H locs ls hP hD hS hL
  by_cases hi : i < 0 ∨ N ≤ i.toNatClampNeg
  · rw [gu, if_pos hi] at h; cases h
  rw [gu, if_neg hi] at h
  exact va_iald hx hb hK hP q0 0 he rfl hi hd (kk res h H locs ls hP hD hS hL)
theorem gg_iast (C : Cx X D T cc own rm) (q0 : Nat) {a N : Nat} {f : Nat → Int32} {i x : Int32} (he : ws[q0]? = some (a, .inl (T 0, N, .inl f))) (hd : decode cc pc = .ok (.iastore, 1)) (hw : ws.set q0 (a, .inl (T 0, N, .inl (upd f i.toNatClampNeg x))) = ws') (kk : GG X D Q n ws' lv (pc + 1) st o) : GG X D Q n ws lv pc (.int x :: .int i :: .ref a :: st) (gu i N o) := by
  obtain ⟨p, l, e, R, s, m, args, below, meth, c, A, nL⟩ := X
  obtain ⟨hx, hb, hml, hown, hts, hK, hA, hlk, hR, hSE⟩ := C
  intro res h H locs ls hP hD hS hL
  by_cases hi : i < 0 ∨ N ≤ i.toNatClampNeg
  · rw [gu, if_pos hi] at h; cases h
  rw [gu, if_neg hi] at h
  subst hw
  exact va_iast hx hb hK hP hD hS q0 0 he rfl hi hd (fun H1 locs1 hP1 hD1 hS1 => kk res h H1 locs1 ls hP1 hD1 hS1 hL)
theorem gg_zald (C : Cx X D T cc own rm) (q0 : Nat) {a N : Nat} {f : Nat → Int32} {i : Int32} (he : ws[q0]? = some (a, .inl (T 1, N, .inl f))) (hd : decode cc pc = .ok (.baload, 1)) (kk : GG X D Q n ws lv (pc + 1) (.int (f i.toNatClampNeg) :: st) o) : GG X D Q n ws lv pc (.int i :: .ref a :: st) (gu i N o) := by
  obtain ⟨p, l, e, R, s, m, args, below, meth, c, A, nL⟩ := X
  obtain ⟨hx, hb, hml, hown, hts, hK, hA, hlk, hR, hSE⟩ := C
  intro res h H locs ls hP hD hS hL
  by_cases hi : i < 0 ∨ N ≤ i.toNatClampNeg
  · rw [gu, if_pos hi] at h; cases h
  rw [gu, if_neg hi] at h
  exact va_zald hx hb hK hP q0 1 he rfl hi hd (kk res h H locs ls hP hD hS hL)
theorem gg_zast (C : Cx X D T cc own rm) (q0 : Nat) {a N : Nat} {f : Nat → Int32} {i x : Int32} (he : ws[q0]? = some (a, .inl (T 1, N, .inl f))) (hd : decode cc pc = .ok (.bastore, 1)) (hw : ws.set q0 (a, .inl (T 1, N, .inl (upd f i.toNatClampNeg (vp_nar .boolean x)))) = ws') (kk : GG X D Q n ws' lv (pc + 1) st o) : GG X D Q n ws lv pc (.int x :: .int i :: .ref a :: st) (gu i N o) := by
  obtain ⟨p, l, e, R, s, m, args, below, meth, c, A, nL⟩ := X
  obtain ⟨hx, hb, hml, hown, hts, hK, hA, hlk, hR, hSE⟩ := C
  intro res h H locs ls hP hD hS hL
  by_cases hi : i < 0 ∨ N ≤ i.toNatClampNeg
  · rw [gu, if_pos hi] at h; cases h
  rw [gu, if_neg hi] at h
  subst hw
  exact va_zast hx hb hK hP hD hS q0 1 he rfl hi hd (fun H1 locs1 hP1 hD1 hS1 => kk res h H1 locs1 ls hP1 hD1 hS1 hL)
theorem gg_alen (C : Cx X D T cc own rm) (q0 : Nat) {a N : Nat} {f : Nat → Int32} {v : Int32} (he : ws[q0]? = some (a, .inl (T 0, N, .inl f))) (hv : Int32.ofNat N = v) (hd : decode cc pc = .ok (.arraylength, 1)) (kk : GG X D Q n ws lv (pc + 1) (.int v :: st) o) : GG X D Q n ws lv pc (.ref a :: st) o := by
  obtain ⟨p, l, e, R, s, m, args, below, meth, c, A, nL⟩ := X
  obtain ⟨hx, hb, hml, hown, hts, hK, hA, hlk, hR, hSE⟩ := C
  intro res h H locs ls hP hD hS hL
  exact va_alen hx hb hK hP q0 0 he (ty := .int) rfl hv hd (kk res h H locs ls hP hD hS hL)
theorem gg_gets (C : Cx X D T cc RX5 rm) {index : Nat} (hlink : Cond.fieldLink RX5 index RX5 "TENS" "[I" ∈ tb) (hd : decode cc pc = .ok (.getstatic index, 3)) (kk : ∀ t : Nat, (∀ {ws : va_W} {lv : List (Nat × Value)} {pc : Nat} {st : List Value} {o : Option ρ} {i : Int32}, decode cc pc = .ok (.iaload, 1) → GG X D Q n ws lv (pc + 1) (.int (tens i.toNatClampNeg) :: st) o → GG X D Q n ws lv pc (.int i :: .ref t :: st) (gu i 10 o)) → GG X D Q n ws lv (pc + 3) (.ref t :: st) o) : GG X D Q n ws lv pc st o := by
  obtain ⟨p, l, e, R, s, m, args, below, meth, c, A, nL⟩ := X
  obtain ⟨hx, hb, hml, hown, hts, hK, hA, hlk, hR, ⟨⟨t, hZ, hT⟩, hSE⟩⟩ := C
  intro res h H locs ls hP hD hS hL
  refine va_gets hx hb hZ hS hown (hts _ hlink) (fun _ q => q) hd (kk t ?_ res h H locs ls hP hD hS hL)
  intro ws lv pc st o i hd kk res h H locs ls hP hD hS hL
  by_cases hi : i < 0 ∨ 10 ≤ i.toNatClampNeg
  · rw [gu, if_pos hi] at h; cases h
  rw [gu, if_neg hi] at h
  exact va_ti hx hb hT hS hi (v := .int (tens i.toNatClampNeg)) rfl hd (kk res h H locs ls hP hD hS hL)
/-! contracts -/
def FF {σ : Type} (vF : σ → Option Value) (wF : σ → va_W) (r : σ) : Option Value → va_W → Prop := fun v w => v = vF r ∧ w = wF r
def KQ (D : va_G) (w : va_W) (sz : Nat) (F : Option Value → va_W → Prop) : Array Value → State → Outcome → State → Prop := fun _ s0 oc t => (∃ (r : Option Value) (w' : va_W), oc = .returned r ∧ F r w' ∧ va_P D vwCl w' t.heap ∧ va_D (va_A w sz) w') ∧ va_F (va_A w sz) s0 t
def Pk (D : va_G) (T : Nat → ClassId) (av : List Value) (w : va_W) (sz : Nat) : Array Value → State → Prop := va_Pc av (fun U => U.heap.size = sz ∧ va_P D vwCl w U.heap ∧ va_K D vwCl (tyL T) U ∧ va_D (fun _ => True) w ∧ SE (va_A w sz) U U.heap)
theorem Pk_blind {D : va_G} {T : Nat → ClassId} {av : List Value} {w : va_W} {sz : Nat} : FrameBlind (Pk D T av w sz) := fun a U g mk q => by
  obtain ⟨q0, q1, qP, qK, qD, qS⟩ := q
  exact ⟨q0, q1, qP, va_K.moved (u := U) (U := U.calling g mk a) (Vm.Alike.refl U.vm) qK, qD, SE.calling qS⟩
def Kt (l : Launch) (D : va_G) (T : Nat → ClassId) (y : MethodName) (b : ByteArray) (mL : Nat) (rt : Option FieldType) (rm : Nat × Nat × Nat × Nat) (av : List Value) (w : va_W) (F : Option Value → va_W → Prop) : Prop := ∀ sz, Met l y (.code y b mL rt :: tb) { frames := rm.1, cells := rm.2.1, slots := rm.2.2.1, locals := rm.2.2.2 } (Pk D T av w sz) (KQ D w sz F) rm.2.1 rm.2.2.1 (va_A w sz)
def MF {σ : Type} (X : KX) (D : va_G) (w : va_W) (Fi : σ → Option Value → va_W → Prop) (mc ms : Nat) : σ → State → Prop := match X with
  | (_, _, _, _, s, _, args, below, _, _, _, _) => fun r => MQ below (KQ D w s.heap.size (Fi r)) args s mc ms (va_A w s.heap.size)
def Cm (X : KX) (rt : Option FieldType) (w : va_W) (nm : String) : Prop := match X with
  | (_, _, _, _, s, _, _, _, meth, _, A, _) => meth.sig.returnType = rt ∧ A = va_A w s.heap.size ∧ meth.name = nm
theorem Cm.init {X : KX} {rt : Option FieldType} {w : va_W} {nm : String} (M : Cm X rt w nm) : (kxM X).name = nm := by
  obtain ⟨p, l, e, R, s, m, args, below, meth, c, A, nL⟩ := X
  exact M.2.2
theorem kt_of {σ : Type} {o : Option σ} {Fi : σ → Option Value → va_W → Prop} {r : σ} {lv : List (Nat × Value)} {l : Launch} {D : va_G} {T : Nat → ClassId} {y : MethodName} {b : ByteArray} {mL : Nat} {rt : Option FieldType} {rm : Nat × Nat × Nat × Nat} {av : List Value} {w : va_W} {own nm : String} (hy : plainName y.cls = true) (hc : y.cls = own) (hnm : y.name = nm) (hlv : lv_args 0 av = lv) (hlen : (lg_sl av).length ≤ mL) (ho : o = some r)
    (walk : ∀ X : KX, kxL X = mL → Cx X D T b own { frames := rm.1, cells := rm.2.1, slots := rm.2.2.1, locals := rm.2.2.2 } → Cm X rt w nm → GG X D (MF X D w Fi rm.2.1 rm.2.2.1) (0, 0) w lv 0 [] o) : Kt l D T y b mL rt rm av w (Fi r) := by
  intro sz
  refine Met.ofW (cc := b) (maxL := mL) (ret := rt) hy rfl ?_
  intro p e s m args below meth c s₁ B hml hv
  obtain ⟨rfl, hsz, hP, hK, hD0, hSE⟩ := hv
  have hx := B.exec
  have hb := B.bytes
  have hr := B.returns
  have hts := atoms_spec (ws := .code y b mL rt :: tb) B.pre
  have hown : s.vm.findClass y.cls = some m.cls := findClass_of_methodNamed B.named
  have hlk := B.notSynchronized
  have hin : meth.name = y.name := (name_of_methodNamed B.named B.method).1
  subst hsz
  have hD := hD0.self (sz := s.heap.size)
  have hl := lv_entry av (n := mL) hlen
  rw [lg_entry_eq]
  generalize (lg_sl av ++ List.replicate (mL - (lg_sl av).length) Slot.unset).toArray = ls at hl ⊢
  rw [hlv] at hl
  exact walk (p, l, e, _, s, m, av.toArray, below, meth, c, va_A w s.heap.size, mL) rfl ⟨hx, hb, hml, by rw [← hc]; exact hown, fun z hz => hts z (List.mem_cons_of_mem _ hz), hK, fun q hq => Or.inr hq, hlk, rfl, hSE⟩ ⟨hr, rfl, hin.trans hnm⟩ r ho s.heap [] ls hP hD va_S.rf hl
section RET
variable {σ : Type} {Fi : σ → Option Value → va_W → Prop} {w : va_W} {r : σ} {nm : String}
theorem gg_iret (C : Cx X D T cc own rm) (M : Cm X (some .int) w nm) {v : Int32} (hd : decode cc pc = .ok (.ireturn, 1)) (hF : Fi r (some (.int v)) ws) : GG X D (MF X D w Fi n.1 n.2) n ws lv pc [.int v] (some r) := by
  obtain ⟨p, l, e, R, s, m, args, below, meth, c, A, nL⟩ := X
  obtain ⟨hx, hb, hml, hown, hts, hK, hA, hlk, hR, hSE⟩ := C
  obtain ⟨hr, rfl, -⟩ := M
  intro res h H locs ls hP hD hS hL
  obtain rfl := Option.some.inj h
  exact W.iret hx hb hr (fun t ht hW => ⟨⟨_, _, rfl, hF, by rw [ht]; exact hP, hD⟩, hS.F ht⟩) hS.2.2 hd
theorem gg_zret (C : Cx X D T cc own rm) (M : Cm X (some .boolean) w nm) {v : Int32} (hd : decode cc pc = .ok (.ireturn, 1)) (hn : narrow .boolean (.int v) = .int v) (hF : Fi r (some (.int v)) ws) : GG X D (MF X D w Fi n.1 n.2) n ws lv pc [.int v] (some r) := by
  obtain ⟨p, l, e, R, s, m, args, below, meth, c, A, nL⟩ := X
  obtain ⟨hx, hb, hml, hown, hts, hK, hA, hlk, hR, hSE⟩ := C
  obtain ⟨hr, rfl, -⟩ := M
  intro res h H locs ls hP hD hS hL
  obtain rfl := Option.some.inj h
  exact W.zret hx hb hr hn (fun t ht hW => ⟨⟨_, _, rfl, hF, by rw [ht]; exact hP, hD⟩, hS.F ht⟩) hS.2.2 hd
theorem gg_zretG (C : Cx X D T cc own rm) (M : Cm X (some .boolean) w nm) {v : Int32} (hd : decode cc pc = .ok (.ireturn, 1)) (hF : Fi r (some (.int v)) ws) : GG X D (MF X D w Fi n.1 n.2) n ws lv pc [.int v] (gz v (some r)) := by
  by_cases hv : v = 0 ∨ v = 1
  · rw [gz, if_pos hv]
    refine gg_zret C M hd ?_ hF
    rcases hv with rfl | rfl <;> rfl
  · rw [gz, if_neg hv]
    exact gg_none
theorem gg_lret (C : Cx X D T cc own rm) (M : Cm X (some .long) w nm) {v : Int64} (hd : decode cc pc = .ok (.lreturn, 1)) (hF : Fi r (some (.long v)) ws) : GG X D (MF X D w Fi n.1 n.2) n ws lv pc [.long v] (some r) := by
  obtain ⟨p, l, e, R, s, m, args, below, meth, c, A, nL⟩ := X
  obtain ⟨hx, hb, hml, hown, hts, hK, hA, hlk, hR, hSE⟩ := C
  obtain ⟨hr, rfl, -⟩ := M
  intro res h H locs ls hP hD hS hL
  obtain rfl := Option.some.inj h
  exact W.lret hx hb hr (fun t ht hW => ⟨⟨_, _, rfl, hF, by rw [ht]; exact hP, hD⟩, hS.F ht⟩) hS.2.2 hd
theorem gg_vret (C : Cx X D T cc own rm) (M : Cm X none w nm) (hd : decode cc pc = .ok (.return_, 1)) (hF : Fi r none ws) : GG X D (MF X D w Fi n.1 n.2) n ws lv pc [] (some r) := by
  obtain ⟨p, l, e, R, s, m, args, below, meth, c, A, nL⟩ := X
  obtain ⟨hx, hb, hml, hown, hts, hK, hA, hlk, hR, hSE⟩ := C
  obtain ⟨hr, rfl, -⟩ := M
  intro res h H locs ls hP hD hS hL
  obtain rfl := Option.some.inj h
  exact W.vret hx hb hr (fun t ht hW => ⟨⟨_, _, rfl, hF, by rw [ht]; exact hP, hD⟩, hS.F ht⟩) hS.2.2 hd
theorem gg_wid {n2 : Nat × Nat} (h1 : n.1 ≤ n2.1) (h2 : n.2 ≤ n2.2) (kk : GG X D Q n2 ws lv pc st o) : GG X D Q n ws lv pc st o := by
  obtain ⟨p, l, e, R, s, m, args, below, meth, c, A, nL⟩ := X
  intro res h H locs ls hP hD hS hL
  exact W.widen h1 h2 (kk res h H locs ls hP hD hS hL)
end RET
/-! calls: the callee's cells are picked out of the world by their places, and put back there -/
theorem va_D_adr {A : Nat → Prop} {ws ws' : va_W} (h : va_D A ws) (e : ws'.map Prod.fst = ws.map Prod.fst) : va_D A ws' := by
  have key : ∀ (k : Nat) (q : Nat × va_E), ws'[k]? = some q → ∃ q', ws[k]? = some q' ∧ q'.1 = q.1 := by
    intro k q hq
    have h1 : (ws'.map Prod.fst)[k]? = some q.1 := by rw [List.getElem?_map, hq]; rfl
    rw [e, List.getElem?_map] at h1
    cases hw : ws[k]? with
    | none => rw [hw] at h1; cases h1
    | some q' => rw [hw] at h1; exact ⟨q', rfl, Option.some.inj h1⟩
  refine ⟨fun i j p q hp hq hpq => ?_, fun k q hq => ?_⟩
  · obtain ⟨p', h1, h2⟩ := key i p hp
    obtain ⟨q', h3, h4⟩ := key j q hq
    exact h.1 i j p' q' h1 h3 (by rw [h2, h4, hpq])
  · obtain ⟨q', h1, h2⟩ := key k q hq
    rw [← h2]
    exact h.2 k q' h1
theorem pick_at {ws wc : va_W} {isC : List Nat} (hC : isC.map (fun i => ws[i]?) = wc.map some) : ∀ (k : Nat) (q : Nat × va_E), wc[k]? = some q → ∃ i, isC[k]? = some i ∧ ws[i]? = some q := by
  intro k q hq
  have h1 : (isC.map (fun i => ws[i]?))[k]? = some (some q) := by rw [hC, List.getElem?_map, hq]; rfl
  rw [List.getElem?_map] at h1
  cases hi : isC[k]? with
  | none => rw [hi] at h1; cases h1
  | some i => rw [hi] at h1; exact ⟨i, rfl, Option.some.inj h1⟩
theorem pick_P {D : va_G} {cl : List vw_C} {H : Heap} {ws wc : va_W} {isC : List Nat} (hC : isC.map (fun i => ws[i]?) = wc.map some) (hP : va_P D cl ws H) : va_P D cl wc H := fun k q hq => by
  obtain ⟨i, -, h2⟩ := pick_at hC k q hq
  exact hP i q h2
def pickL : va_W → List Nat → va_W
  | _, [] => []
  | ws, i :: is => match ws[i]? with
    | some c => c :: pickL ws is
    | none => pickL ws is
def pickM : va_W → List Nat → va_W
  | _, [] => []
  | ws, i :: is => match ws[i]? with
    | some c => c :: pickM ws is
    | none => pickM ws is
def adrL : va_W → List Nat
  | [] => []
  | c :: cs => c.1 :: adrL cs
def adrM : va_W → List Nat
  | [] => []
  | c :: cs => c.1 :: adrM cs
theorem adrL_eq : ∀ ws : va_W, adrL ws = ws.map Prod.fst
  | [] => rfl
  | c :: cs => by rw [adrL, adrL_eq cs, List.map_cons]
theorem adrM_eq : ∀ ws : va_W, adrM ws = ws.map Prod.fst
  | [] => rfl
  | c :: cs => by rw [adrM, adrM_eq cs, List.map_cons]
theorem pickM_eq (ws : va_W) : ∀ is : List Nat, pickM ws is = pickL ws is
  | [] => rfl
  | i :: is => by
    rw [pickM, pickL, pickM_eq ws is]
theorem pickL_map (ws : va_W) : ∀ is : List Nat, (∀ i ∈ is, i < ws.length) → is.map (fun i => ws[i]?) = (pickL ws is).map some
  | [], _ => rfl
  | i :: is, h => by
    obtain ⟨c, hi⟩ : ∃ c, ws[i]? = some c := ⟨_, List.getElem?_eq_getElem (h i List.mem_cons_self)⟩
    rw [List.map_cons, pickL_map ws is (fun k hk => h k (List.mem_cons_of_mem _ hk)), pickL, hi]
    rfl
/-- the callee's world wc is part of ws; with wF r in its place the world is ws2 r -/
def Cut {σ : Type} (ws wc : va_W) (wF ws2 : σ → va_W) : Prop := (∃ isC, va_nd isC = true ∧ isC.map (fun i => ws[i]?) = wc.map some) ∧ ∀ (r : σ) (D : va_G) (A : Nat → Prop) (H H1 : Heap), va_P D vwCl ws H → va_D A ws → (∀ q : Nat, q < H.size → ¬ va_A wc H.size q → H1[q]? = H[q]?) → va_P D vwCl (wF r) H1 → va_P D vwCl (ws2 r) H1 ∧ va_D A (ws2 r)
theorem cut_none {σ : Type} {ws : va_W} : Cut (σ := σ) ws [] (fun _ => []) (fun _ => ws) :=
  ⟨⟨[], rfl, rfl⟩, fun r D A H H1 hP hD hk hP1 => ⟨hP.kept (fun k q hq => hk q.1 (hP k q hq).lt (fun z => by
    rcases z with ⟨k2, e, z⟩ | z
    · simp at z
    · have := (hP k q hq).lt; omega)), hD⟩⟩
theorem range_pick (ws : va_W) : (List.range ws.length).map (fun i => ws[i]?) = ws.map some := by
  apply List.ext_getElem?
  intro k
  rw [List.getElem?_map, List.getElem?_map]
  by_cases hk : k < ws.length
  · rw [List.getElem?_range hk, List.getElem?_eq_getElem hk]
    simp [List.getElem?_eq_getElem hk]
  · rw [List.getElem?_eq_none (by simpa using hk), List.getElem?_eq_none (by omega)]
    rfl
theorem va_nd_of : ∀ (l : List Nat), l.Nodup → va_nd l = true
  | [], _ => rfl
  | a :: l, h => by
    have h2 := List.nodup_cons.mp h
    simp [va_nd, va_nd_of l h2.2, h2.1]
theorem cut_full {σ : Type} {ws : va_W} {wF : σ → va_W} (hA2 : ∀ r, adrL (wF r) = adrM ws) : Cut ws ws wF wF :=
  ⟨⟨List.range ws.length, va_nd_of _ List.nodup_range, range_pick ws⟩, fun r D A H H1 hP hD hk hP1 => ⟨hP1, va_D_adr hD (by rw [← adrL_eq, hA2 r, adrM_eq])⟩⟩
theorem cut_part {σ : Type} {ws wc : va_W} {wF ws2 : σ → va_W} (N : Nat) (isC isR : List Nat) (hN : ws.length = N) (hcov : ((isC.all (fun i => decide (i < N))) && (isR.all (fun i => decide (i < N) && !isC.contains i)) && (List.range N).all (fun i => isC.contains i || isR.contains i) && va_nd isC) = true) (hC : pickL ws isC = wc) (hA2 : ∀ r, adrL (ws2 r) = adrM ws) (hC2 : ∀ r, pickL (ws2 r) isC = wF r) (hR2 : ∀ r, pickL (ws2 r) isR = pickM ws isR) : Cut ws wc wF ws2 := by
  simp only [Bool.and_eq_true, List.all_eq_true, decide_eq_true_eq, Bool.or_eq_true, List.contains_iff_mem, Bool.not_eq_true', List.mem_range] at hcov
  obtain ⟨⟨⟨h1, h2⟩, h3⟩, h4⟩ := hcov
  subst hN
  have hCo : isC.map (fun i => ws[i]?) = wc.map some := by rw [← hC]; exact pickL_map ws isC h1
  refine ⟨⟨isC, h4, hCo⟩, fun r D A H H1 hP hD hk hP1 => ?_⟩
  have ha : (ws2 r).map Prod.fst = ws.map Prod.fst := by rw [← adrL_eq, hA2 r, adrM_eq]
  have hl : (ws2 r).length = ws.length := by
    have := congrArg List.length ha
    simpa using this
  refine ⟨?_, va_D_adr hD ha⟩
  intro k q hq
  have hkl : k < ws.length := by rw [← hl]; exact (List.getElem?_eq_some_iff.mp hq).1
  rcases h3 k hkl with hm | hm
  · obtain ⟨j, hj⟩ := List.getElem?_of_mem hm
    have e := pickL_map (ws2 r) isC (fun i hi => by rw [hl]; exact h1 i hi)
    rw [hC2 r] at e
    have e2 : (isC.map (fun i => (ws2 r)[i]?))[j]? = some (some q) := by rw [List.getElem?_map, hj]; simp [hq]
    rw [e, List.getElem?_map] at e2
    cases hw : (wF r)[j]? with
    | none => rw [hw] at e2; cases e2
    | some q' =>
      rw [hw] at e2
      have : q' = q := Option.some.inj (Option.some.inj e2)
      subst this
      exact hP1 j q' hw
  · obtain ⟨j, hj⟩ := List.getElem?_of_mem hm
    have e := pickL_map (ws2 r) isR (fun i hi => by rw [hl]; exact (h2 i hi).1)
    rw [hR2 r, pickM_eq, ← pickL_map ws isR (fun i hi => (h2 i hi).1)] at e
    have e2 : (isR.map (fun i => (ws2 r)[i]?))[j]? = some (some q) := by rw [List.getElem?_map, hj]; simp [hq]
    rw [e, List.getElem?_map, hj] at e2
    have e3 : ws[k]? = some q := Option.some.inj e2
    refine (hP k q e3).kept (hk q.1 (hP k q e3).lt ?_)
    intro hin
    rcases hin with ⟨k2, e, hin⟩ | hin
    · obtain ⟨i, h5, h6⟩ := pick_at hCo k2 (q.1, e) hin
      have hij := hD.1 k i q (q.1, e) e3 h6 rfl
      subst hij
      have h7 := (h2 k hm).2
      have h8 := List.mem_of_getElem? h5
      simp_all
    · have := (hP k q e3).lt
      omega
theorem w_call {σ : Type} {vF : σ → Option Value} {wF ws2 : σ → va_W} {r : σ} {p : Program} {l : Launch} {e : Env} {R : Room} {s : State} {m : MethodId} {args a : Array Value} {below : List Frame} {meth : Method} {c : Code} {H : Heap} {locs : List Loc} {cells slots pc : Nat} {Q : State → Prop} {ls : Array Slot} {st0 rest : List Value} {D : va_G} {ws wc : va_W} {A : Nat → Prop}
    (hr : va_Run p l e R s m args below meth c H locs cells slots 0 0 (F0 m pc ls st0) rest (KQ D wc H.size (FF vF wF r) a) (va_A wc H.size)) (hP : va_P D vwCl ws H) (hD : va_D A ws) (hS : va_S A s.heap H locs) (hF2 : ∀ q, va_A wc H.size q → A q) (hcut : Cut ws wc wF ws2)
    (kk : ∀ (H1 : Heap) (locs1 : List Loc), va_P D vwCl (ws2 r) H1 → va_D A (ws2 r) → va_S A s.heap H1 locs1 → W p l e R s m args below meth c H1 locs1 cells slots Q (F0 m (pc + 3) ls ((vF r).toList ++ rest))) : W p l e R s m args below meth c H locs cells slots Q (F0 m pc ls st0) := by
  intro T0 hT0 Y
  obtain ⟨v, st₀, t, T', L, h0, Y', hL, e1, e2, ⟨⟨r', w', ho, ⟨hv, hw⟩, hP1, hD1⟩, hF⟩, st⟩ := hr T0 hT0 Y
  cases ho
  subst hv; subst hw
  have hk : ∀ q : Nat, q < H.size → ¬ va_A wc H.size q → t.heap[q]? = H[q]? := fun q h1 h2 => by rw [← h0]; exact hF.2 q (by rw [h0]; exact h1) h2
  have hz : H.size ≤ t.heap.size := by rw [← h0]; exact hF.1
  obtain ⟨hP2, hD2⟩ := hcut.2 r D A H t.heap hP hD hk hP1
  obtain ⟨t2, a1, b1⟩ := kk t.heap (locs ++ L) hP2 hD2 ⟨Nat.le_trans hS.1 hz, fun q h1 h2 => (hk q (Nat.lt_of_lt_of_le h1 hS.1) (fun z => h2 (hF2 q z))).trans (hS.2.1 q h1 h2), fun z hz => (List.mem_append.mp hz).elim (hS.2.2 z) (fun q => hF2 _ (hL z q))⟩ T' e1 Y'
  exact ⟨t2, st t2 a1, b1⟩
def LkV (own : String) (idx : Nat) (C0 : String) (y : MethodName) (b : ByteArray) (mL : Nat) (rt : Option FieldType) (na : Nat) : Prop := (Cond.methodLink own idx y ∈ tb ∧ Cond.instanceMethod y ∈ tb ∧ Cond.selects C0 y y ∈ tb ∧ Cond.initialized C0 ∈ tb ∧ Cond.code y b mL rt ∈ tb) ∧ y.cls = C0 ∧ y.cls ≠ "java/lang/invoke/MethodHandle" ∧ y.cls ≠ "java/lang/invoke/VarHandle" ∧ (parseMethodDescriptor y.desc).map (fun d => d.parameters.length) = some na
def LkS (own : String) (idx : Nat) (y : MethodName) (b : ByteArray) (mL : Nat) (rt : Option FieldType) (na : Nat) : Prop := (Cond.methodLink own idx y ∈ tb ∧ Cond.static y ∈ tb ∧ Cond.initialized y.cls ∈ tb ∧ Cond.code y b mL rt ∈ tb) ∧ y.cls ≠ "java/lang/invoke/MethodHandle" ∧ y.cls ≠ "java/lang/invoke/VarHandle" ∧ (parseMethodDescriptor y.desc).map (fun d => d.parameters.length) = some na
def LkN (own : String) (idx : Nat) (y : MethodName) (b : ByteArray) (mL : Nat) (rt : Option FieldType) (na : Nat) : Prop := ((own, idx, y, "CradleHour") ∈ nestQ ∧ Cond.static y ∈ tb ∧ Cond.initialized y.cls ∈ tb ∧ Cond.code y b mL rt ∈ tb) ∧ y.cls ≠ "java/lang/invoke/MethodHandle" ∧ y.cls ≠ "java/lang/invoke/VarHandle" ∧ (parseMethodDescriptor y.desc).map (fun d => d.parameters.length) = some na
def LkI (own : String) (idx : Nat) (y : MethodName) (b : ByteArray) (mL : Nat) (na : Nat) : Prop := (Cond.methodLink own idx y ∈ tb ∧ Cond.instanceMethod y ∈ tb ∧ Cond.initialized y.cls ∈ tb ∧ Cond.code y b mL none ∈ tb) ∧ y.name = "<init>" ∧ y.cls ≠ "java/lang/invoke/MethodHandle" ∧ y.cls ≠ "java/lang/invoke/VarHandle" ∧ (parseMethodDescriptor y.desc).map (fun d => d.parameters.length) = some na
theorem tb_in {ws : List Cond} (h : ∀ w ∈ ws, w ∈ tb) : GoodIn tb ws := fun w hw => ⟨h w hw, good_of_word (List.mem_filter.mp (h w hw)).2⟩
theorem tb_c {w : Cond} (h : w ∈ tb) : ∀ z ∈ w :: tb, z ∈ tb := fun z hz => (List.mem_cons.mp hz).elim (fun e => e ▸ h) id
section CALL
variable {σ : Type} {fm : Option σ} {k : σ → Option ρ} {vF : σ → Option Value} {wF : σ → va_W} {y : MethodName} {b : ByteArray} {mL idx na : Nat} {rt : Option FieldType} {fr lo : Nat} {wc : va_W} {As rest : List Value} {st2 : σ → List Value} {ws2 : σ → va_W}
theorem gg_callV (C : Cx X D T cc own rm) {C0 : String} {a ci N : Nat} {Tt : u_T} (hM : ∀ (l : Launch) r, fm = some r → Kt l D T y b mL rt (fr, 0, 0, lo) (.ref a :: As) wc (FF vF wF r)) (L : LkV own idx C0 y b mL rt na) (hrm : fr + 1 ≤ rm.frames ∧ 8 + (mL + 11) + lo ≤ rm.locals) (hnn : n.1 ≤ rm.cells ∧ n.2 ≤ rm.slots) (hna : As.length = na) (hst : st = As.reverse ++ .ref a :: rest) (hcat : (rest.map fun v => v.category).sum ≤ 8) (q0 : Nat) {fs : List Value} (hq : ws[q0]? = some (a, .inr (ci, fs))) (hcl : vwCl[ci]? = some (C0, Tt, N)) (hd : decode cc pc = .ok (.invokevirtual idx, 3)) (hcut : Cut ws wc wF ws2) (hs : ∀ r, (vF r).toList ++ rest = st2 r) (kk : ∀ r, GG X D Q n (ws2 r) lv (pc + 3) (st2 r) (k r)) : GG X D Q n ws lv pc st (jn fm k) := by
  obtain ⟨p, l, e, R, s, m, args, below, meth, c, A, nL⟩ := X
  obtain ⟨hx, hb, hml, hown, hts, hK, hA, hlk, hR, hSE⟩ := C
  intro res h H locs ls hP hD hS hL
  cases hfm : fm with
  | none => rw [hfm] at h; cases h
  | some r =>
    rw [hfm] at h
    subst hst
    obtain ⟨isC, hnd, hC⟩ := hcut.1
    have hF2 : ∀ q, va_A wc H.size q → A q := va_free hD hS hA isC hC
    have hPc : va_P D vwCl wc H := pick_P hC hP
    have hDc := hD.sub isC hnd hC
    have hSc : SE (va_A wc H.size) s H := (hSE.kept (fun q h1 h2 => hS.2.1 q h1 h2)).narrow hF2
    obtain ⟨⟨L1, L2, L3, L4, L5⟩, L6⟩ := L
    have hG : GoodIn tb (wsV own idx C0 y (.code y b mL rt :: tb)) := tb_in (fun w hw => by
      unfold wsV at hw
      simp only [List.cons_append, List.nil_append, List.mem_cons] at hw
      rcases hw with rfl | rfl | rfl | rfl | rfl | hw
      · exact L1
      · exact L2
      · exact L3
      · exact L4
      · exact L5
      · exact hw)
    subst hR
    refine w_call (r := r) (va_runV (As := As) (rest := rest) (b := a) ⟨hx, hb, hml, hown, hts⟩ (hM l r hfm H.size) (cwV na hts hG rfl rfl rfl L6 hrm) ⟨Pk_blind, va_recv hK hP hcl hq, fun U hU hW => ⟨rfl, by rw [hU], by rw [hU]; exact hPc, va_K.moved hW.alike hK, hDc.weaken (fun _ _ _ _ => trivial), by rw [hU]; exact hSc.warm hW⟩⟩ rfl hna hL.1 rfl (lv_room hcat) hd hnn) hP hD hS hF2 hcut (fun H1 locs1 hP1 hD1 hS1 => ?_)
    rw [hs r]
    exact kk r res h H1 locs1 ls hP1 hD1 hS1 hL
theorem gg_callS (C : Cx X D T cc own rm) (hM : ∀ (l : Launch) r, fm = some r → Kt l D T y b mL rt (fr, 0, 0, lo) As wc (FF vF wF r)) (L : LkS own idx y b mL rt na) (hrm : fr + 1 ≤ rm.frames ∧ 8 + (mL + 11) + lo ≤ rm.locals) (hnn : n.1 ≤ rm.cells ∧ n.2 ≤ rm.slots) (hna : As.length = na) (hst : st = As.reverse ++ rest) (hcat : (rest.map fun v => v.category).sum ≤ 8) (hd : decode cc pc = .ok (.invokestatic idx, 3)) (hcut : Cut ws wc wF ws2) (hs : ∀ r, (vF r).toList ++ rest = st2 r) (kk : ∀ r, GG X D Q n (ws2 r) lv (pc + 3) (st2 r) (k r)) : GG X D Q n ws lv pc st (jn fm k) := by
  obtain ⟨p, l, e, R, s, m, args, below, meth, c, A, nL⟩ := X
  obtain ⟨hx, hb, hml, hown, hts, hK, hA, hlk, hR, hSE⟩ := C
  intro res h H locs ls hP hD hS hL
  cases hfm : fm with
  | none => rw [hfm] at h; cases h
  | some r =>
    rw [hfm] at h
    subst hst
    obtain ⟨isC, hnd, hC⟩ := hcut.1
    have hF2 : ∀ q, va_A wc H.size q → A q := va_free hD hS hA isC hC
    have hPc : va_P D vwCl wc H := pick_P hC hP
    have hDc := hD.sub isC hnd hC
    have hSc : SE (va_A wc H.size) s H := (hSE.kept (fun q h1 h2 => hS.2.1 q h1 h2)).narrow hF2
    obtain ⟨⟨L1, L2, L3, L4⟩, L6⟩ := L
    have hG : GoodIn tb (va_wsS own idx y (.code y b mL rt :: tb)) := tb_in (fun w hw => by
      unfold va_wsS at hw
      simp only [List.cons_append, List.nil_append, List.mem_cons] at hw
      rcases hw with rfl | rfl | rfl | rfl | hw
      · exact L1
      · exact L2
      · exact L3
      · exact L4
      · exact hw)
    subst hR
    refine w_call (r := r) (va_runS (As := As) (rest := rest) ⟨hx, hb, hml, hown, hts⟩ (hM l r hfm H.size) (va_cwS na hts hG rfl rfl rfl L6 hrm) ⟨Pk_blind, fun U hU hW => ⟨rfl, by rw [hU], by rw [hU]; exact hPc, va_K.moved hW.alike hK, hDc.weaken (fun _ _ _ _ => trivial), by rw [hU]; exact hSc.warm hW⟩⟩ rfl hna hL.1 rfl (lv_room hcat) hd hnn) hP hD hS hF2 hcut (fun H1 locs1 hP1 hD1 hS1 => ?_)
    rw [hs r]
    exact kk r res h H1 locs1 ls hP1 hD1 hS1 hL
theorem gg_callN (C : Cx X D T cc own rm) (hM : ∀ (l : Launch) r, fm = some r → Kt l D T y b mL rt (fr, 0, 0, lo) As wc (FF vF wF r)) (L : LkN own idx y b mL rt na) (hrm : fr + 1 ≤ rm.frames ∧ 8 + (mL + 11) + lo ≤ rm.locals) (hnn : n.1 ≤ rm.cells ∧ n.2 ≤ rm.slots) (hna : As.length = na) (hst : st = As.reverse ++ rest) (hcat : (rest.map fun v => v.category).sum ≤ 8) (hd : decode cc pc = .ok (.invokestatic idx, 3)) (hcut : Cut ws wc wF ws2) (hs : ∀ r, (vF r).toList ++ rest = st2 r) (kk : ∀ r, GG X D Q n (ws2 r) lv (pc + 3) (st2 r) (k r)) : GG X D Q n ws lv pc st (jn fm k) := by
  obtain ⟨p, l, e, R, s, m, args, below, meth, c, A, nL⟩ := X
  obtain ⟨hx, hb, hml, hown, hts, hK, hA, hlk, hR, hSE⟩ := C
  intro res h H locs ls hP hD hS hL
  cases hfm : fm with
  | none => rw [hfm] at h; cases h
  | some r =>
    rw [hfm] at h
    subst hst
    obtain ⟨isC, hnd, hC⟩ := hcut.1
    have hF2 : ∀ q, va_A wc H.size q → A q := va_free hD hS hA isC hC
    have hPc : va_P D vwCl wc H := pick_P hC hP
    have hDc := hD.sub isC hnd hC
    have hSc : SE (va_A wc H.size) s H := (hSE.kept (fun q h1 h2 => hS.2.1 q h1 h2)).narrow hF2
    obtain ⟨⟨L1, L2, L3, L4⟩, L6⟩ := L
    have hG : GoodIn tb (Cond.code y b mL rt :: tb) := tb_in (tb_c L4)
    subst hR
    refine w_call (r := r) (va_runSN (As := As) (rest := rest) ⟨hx, hb, hml, hown, hts⟩ (hM l r hfm H.size) ⟨va_cnB na hts hG rfl rfl rfl (hSE.2.2.2 _ L1) (hts _ L3) L6 hrm, hts _ L2, trivial⟩ ⟨Pk_blind, fun U hU hW => ⟨rfl, by rw [hU], by rw [hU]; exact hPc, va_K.moved hW.alike hK, hDc.weaken (fun _ _ _ _ => trivial), by rw [hU]; exact hSc.warm hW⟩⟩ rfl hna hL.1 rfl (lv_room hcat) hd hnn) hP hD hS hF2 hcut (fun H1 locs1 hP1 hD1 hS1 => ?_)
    rw [hs r]
    exact kk r res h H1 locs1 ls hP1 hD1 hS1 hL
end CALL

theorem gg_mmax (C : Cx X D T cc own rm) {idx : Nat} {x y : Int32} (hlink : Cond.methodLink own idx Lib.Math.max.name ∈ tb) (hstat : Cond.static Lib.Math.max.name ∈ tb) (hini : Cond.initialized "java/lang/Math" ∈ tb) (hcode : Cond.code Lib.Math.max.name Lib.Math.max.code 2 (some .int) ∈ tb) (hfr : 1 ≤ rm.frames) (hsum : (st.map fun v => v.category).sum + 13 ≤ rm.locals) (hnn : n.1 ≤ rm.cells ∧ n.2 ≤ rm.slots) (hd : decode cc pc = .ok (.invokestatic idx, 3)) (kk : GG X D Q n ws lv (pc + 3) (.int (if x < y then y else x) :: st) o) : GG X D Q n ws lv pc (.int y :: .int x :: st) o := by
  obtain ⟨p, l, e, R, s, m, args, below, meth, c, A, nL⟩ := X
  obtain ⟨hx, hb, hml, hown, hts, hK, hA, hlk, hR, hSE⟩ := C
  intro res h H locs ls hP hD hS hL
  subst hR
  exact va_mmax hx hb (hml.trans hL.1.symm) hown (hts _ hlink) (hts _ hstat) (hts _ hini) (hts _ hcode) hfr hsum hnn.1 hnn.2 hd (kk res h H locs ls hP hD hS hL)
theorem gg_mmin (C : Cx X D T cc own rm) {idx : Nat} {x y : Int32} (hlink : Cond.methodLink own idx Lib.Math.min.name ∈ tb) (hstat : Cond.static Lib.Math.min.name ∈ tb) (hini : Cond.initialized "java/lang/Math" ∈ tb) (hcode : Cond.code Lib.Math.min.name Lib.Math.min.code 2 (some .int) ∈ tb) (hfr : 1 ≤ rm.frames) (hsum : (st.map fun v => v.category).sum + 13 ≤ rm.locals) (hnn : n.1 ≤ rm.cells ∧ n.2 ≤ rm.slots) (hd : decode cc pc = .ok (.invokestatic idx, 3)) (kk : GG X D Q n ws lv (pc + 3) (.int (if y < x then y else x) :: st) o) : GG X D Q n ws lv pc (.int y :: .int x :: st) o := by
  obtain ⟨p, l, e, R, s, m, args, below, meth, c, A, nL⟩ := X
  obtain ⟨hx, hb, hml, hown, hts, hK, hA, hlk, hR, hSE⟩ := C
  intro res h H locs ls hP hD hS hL
  subst hR
  exact va_mmin hx hb (hml.trans hL.1.symm) hown (hts _ hlink) (hts _ hstat) (hts _ hini) (hts _ hcode) hfr hsum hnn.1 hnn.2 hd (kk res h H locs ls hP hD hS hL)
theorem gg_mabs (C : Cx X D T cc own rm) {idx : Nat} {x : Int32} (hlink : Cond.methodLink own idx Lib.Math.abs.name ∈ tb) (hstat : Cond.static Lib.Math.abs.name ∈ tb) (hini : Cond.initialized "java/lang/Math" ∈ tb) (hcode : Cond.code Lib.Math.abs.name Lib.Math.abs.code 1 (some .int) ∈ tb) (hfr : 1 ≤ rm.frames) (hsum : (st.map fun v => v.category).sum + 13 ≤ rm.locals) (hnn : n.1 ≤ rm.cells ∧ n.2 ≤ rm.slots) (hd : decode cc pc = .ok (.invokestatic idx, 3)) (kk : GG X D Q n ws lv (pc + 3) (.int (if 0 ≤ x then x else 0 - x) :: st) o) : GG X D Q n ws lv pc (.int x :: st) o := by
  obtain ⟨p, l, e, R, s, m, args, below, meth, c, A, nL⟩ := X
  obtain ⟨hx, hb, hml, hown, hts, hK, hA, hlk, hR, hSE⟩ := C
  intro res h H locs ls hP hD hS hL
  subst hR
  exact va_mabs hx hb (hml.trans hL.1.symm) hown (hts _ hlink) (hts _ hstat) (hts _ hini) (hts _ hcode) hfr hsum hnn.1 hnn.2 hd (kk res h H locs ls hP hD hS hL)
theorem gg_copy (C : Cx X D T cc own rm) {idx : Nat} (hlink : Cond.methodLink own idx arraycopyName ∈ tb) (hnat : Cond.native arraycopyName ∈ tb) (hstat : Cond.static arraycopyName ∈ tb) (hini : Cond.initialized "java/lang/System" ∈ tb) (hfr : 1 ≤ rm.frames) (hsum : (st.map fun v => v.category).sum + (nativeFrameWords "java/lang/System" "arraycopy" 5 + 11) ≤ rm.locals) (q0 q1 : Nat) {a0 a1 n0 n1 : Nat} {f g : Nat → Int32} {sp dp z : Int32} {sp' dp' z' : Nat} (ha0 : ws[q0]? = some (a0, .inl (T 0, n0, .inl f))) (ha1 : ws[q1]? = some (a1, .inl (T 0, n1, .inl g))) (h1 : ¬ sp < 0) (h2 : ¬ dp < 0) (h3 : ¬ z < 0) (e1 : sp.toNatClampNeg = sp') (e2 : dp.toNatClampNeg = dp') (e3 : z.toNatClampNeg = z') (h4 : sp' + z' ≤ n0) (h5 : dp' + z' ≤ n1) (hd : decode cc pc = .ok (.invokestatic idx, 3)) (hw : ws.set q1 (a1, .inl (T 0, n1, .inl (va_cpy f g sp' dp' z'))) = ws') (kk : GG X D Q n ws' lv (pc + 3) st o) : GG X D Q n ws lv pc (.int z :: .int dp :: .ref a1 :: .int sp :: .ref a0 :: st) o := by
  obtain ⟨p, l, e, R, s, m, args, below, meth, c, A, nL⟩ := X
  obtain ⟨hx, hb, hml, hown, hts, hK, hA, hlk, hR, hSE⟩ := C
  intro res h H locs ls hP hD hS hL
  subst hR; subst e1; subst e2; subst e3; subst hw
  exact va_copyi hx hb (hml.trans hL.1.symm) hown (hts _ hlink) (hts _ hnat) (hts _ hstat) (hts _ hini) hK hP hD hS q0 q1 0 0 ha0 ha1 (ty := .int) rfl rfl rfl h1 h2 h3 h4 h5 (fun _ _ => rfl) hfr hsum hd (fun H1 locs1 hP1 hD1 hS1 => kk res h H1 locs1 ls hP1 hD1 hS1 hL)
theorem gg_ldc (C : Cx X D T cc own rm) {idx : Nat} {v : Int32} (hcon : Cond.constant own idx v ∈ tb) (hd : decode cc pc = .ok (.ldc idx, 2)) (kk : GG X D Q n ws lv (pc + 2) (.int v :: st) o) : GG X D Q n ws lv pc st o := by
  obtain ⟨p, l, e, R, s, m, args, below, meth, c, A, nL⟩ := X
  obtain ⟨hx, hb, hml, hown, hts, hK, hA, hlk, hR, hSE⟩ := C
  intro res h H locs ls hP hD hS hL
  exact lv_ldc hx hb hown (hts _ hcon) hd (kk res h H locs ls hP hD hS hL)
theorem gg_ldc2 (C : Cx X D T cc own rm) {idx : Nat} {v : Int64} (hcon : Cond.constantLong own idx v ∈ tb) (hd : decode cc pc = .ok (.ldc2_w idx, 3)) (kk : GG X D Q n ws lv (pc + 3) (.long v :: st) o) : GG X D Q n ws lv pc st o := by
  obtain ⟨p, l, e, R, s, m, args, below, meth, c, A, nL⟩ := X
  obtain ⟨hx, hb, hml, hown, hts, hK, hA, hlk, hR, hSE⟩ := C
  intro res h H locs ls hP hD hS hL
  exact lv_ldc2 hx hb hown (hts _ hcon) hd (kk res h H locs ls hP hD hS hL)
end GGR
end
section
section GF
variable {ρ : Type} {X : KX} {D : va_G} {T : Nat → ClassId} {Q : ρ → State → Prop} {n : Nat × Nat} {ws ws' : va_W} {lv : List (Nat × Value)} {pc : Nat} {st : List Value} {o : Option ρ} {cc : ByteArray} {rm : Room}
theorem gf_X0_9 (C : Cx X D T cc RX0 rm) (q0 : Nat) {a : Nat} {fs : List Value} {v : Value} (he : ws[q0]? = some (a, .inr (0, fs))) (hv : fs[0]? = some v) (hd : decode cc pc = .ok (.getfield 9, 3)) (kk : GG X D Q n ws lv (pc + 3) (v :: st) o) : GG X D Q n ws lv pc (.ref a :: st) o := gg_get C in_X0 rfl 0 (by decide) tw_27 q0 he hv hd kk
theorem pF_X0_9 (C : Cx X D T cc RX0 rm) (hini : (kxM X).name = "<init>") (q0 : Nat) {a v : Nat} {fs : List Value} (he : ws[q0]? = some (a, .inr (0, fs))) (hl : 0 < fs.length) (hd : decode cc pc = .ok (.putfield 9, 3)) (hw : ws.set q0 (a, .inr (0, fs.set 0 (.ref v))) = ws') (kk : GG X D Q n ws' lv (pc + 3) st o) : GG X D Q n ws lv pc (.ref v :: .ref a :: st) o := gg_putF C hini in_X0 tyX0 tyX0_ok nmX0 rfl 0 (by decide) tw_27 rfl rfl q0 rfl rfl he hl hd hw kk
theorem gf_X8_70 (C : Cx X D T cc RX8 rm) (q0 : Nat) {a : Nat} {fs : List Value} {v : Value} (he : ws[q0]? = some (a, .inr (0, fs))) (hv : fs[0]? = some v) (hd : decode cc pc = .ok (.getfield 70, 3)) (kk : GG X D Q n ws lv (pc + 3) (v :: st) o) : GG X D Q n ws lv pc (.ref a :: st) o := gg_get C in_X0 rfl 0 (by decide) tw_28 q0 he hv hd kk
theorem gf_X0_15 (C : Cx X D T cc RX0 rm) (q0 : Nat) {a : Nat} {fs : List Value} {v : Value} (he : ws[q0]? = some (a, .inr (0, fs))) (hv : fs[1]? = some v) (hd : decode cc pc = .ok (.getfield 15, 3)) (kk : GG X D Q n ws lv (pc + 3) (v :: st) o) : GG X D Q n ws lv pc (.ref a :: st) o := gg_get C in_X0 rfl 1 (by decide) tw_29 q0 he hv hd kk
theorem pF_X0_15 (C : Cx X D T cc RX0 rm) (hini : (kxM X).name = "<init>") (q0 : Nat) {a v : Nat} {fs : List Value} (he : ws[q0]? = some (a, .inr (0, fs))) (hl : 1 < fs.length) (hd : decode cc pc = .ok (.putfield 15, 3)) (hw : ws.set q0 (a, .inr (0, fs.set 1 (.ref v))) = ws') (kk : GG X D Q n ws' lv (pc + 3) st o) : GG X D Q n ws lv pc (.ref v :: .ref a :: st) o := gg_putF C hini in_X0 tyX0 tyX0_ok nmX0 rfl 1 (by decide) tw_29 rfl rfl q0 rfl rfl he hl hd hw kk
theorem gf_X8_74 (C : Cx X D T cc RX8 rm) (q0 : Nat) {a : Nat} {fs : List Value} {v : Value} (he : ws[q0]? = some (a, .inr (0, fs))) (hv : fs[1]? = some v) (hd : decode cc pc = .ok (.getfield 74, 3)) (kk : GG X D Q n ws lv (pc + 3) (v :: st) o) : GG X D Q n ws lv pc (.ref a :: st) o := gg_get C in_X0 rfl 1 (by decide) tw_30 q0 he hv hd kk
theorem gf_X0_18 (C : Cx X D T cc RX0 rm) (q0 : Nat) {a : Nat} {fs : List Value} {v : Value} (he : ws[q0]? = some (a, .inr (0, fs))) (hv : fs[2]? = some v) (hd : decode cc pc = .ok (.getfield 18, 3)) (kk : GG X D Q n ws lv (pc + 3) (v :: st) o) : GG X D Q n ws lv pc (.ref a :: st) o := gg_get C in_X0 rfl 2 (by decide) tw_31 q0 he hv hd kk
theorem pF_X0_18 (C : Cx X D T cc RX0 rm) (hini : (kxM X).name = "<init>") (q0 : Nat) {a v : Nat} {fs : List Value} (he : ws[q0]? = some (a, .inr (0, fs))) (hl : 2 < fs.length) (hd : decode cc pc = .ok (.putfield 18, 3)) (hw : ws.set q0 (a, .inr (0, fs.set 2 (.ref v))) = ws') (kk : GG X D Q n ws' lv (pc + 3) st o) : GG X D Q n ws lv pc (.ref v :: .ref a :: st) o := gg_putF C hini in_X0 tyX0 tyX0_ok nmX0 rfl 2 (by decide) tw_31 rfl rfl q0 rfl rfl he hl hd hw kk
theorem gf_X8_77 (C : Cx X D T cc RX8 rm) (q0 : Nat) {a : Nat} {fs : List Value} {v : Value} (he : ws[q0]? = some (a, .inr (0, fs))) (hv : fs[2]? = some v) (hd : decode cc pc = .ok (.getfield 77, 3)) (kk : GG X D Q n ws lv (pc + 3) (v :: st) o) : GG X D Q n ws lv pc (.ref a :: st) o := gg_get C in_X0 rfl 2 (by decide) tw_32 q0 he hv hd kk
theorem gf_X0_21 (C : Cx X D T cc RX0 rm) (q0 : Nat) {a : Nat} {fs : List Value} {v : Value} (he : ws[q0]? = some (a, .inr (0, fs))) (hv : fs[3]? = some v) (hd : decode cc pc = .ok (.getfield 21, 3)) (kk : GG X D Q n ws lv (pc + 3) (v :: st) o) : GG X D Q n ws lv pc (.ref a :: st) o := gg_get C in_X0 rfl 3 (by decide) tw_33 q0 he hv hd kk
theorem pF_X0_21 (C : Cx X D T cc RX0 rm) (hini : (kxM X).name = "<init>") (q0 : Nat) {a v : Nat} {fs : List Value} (he : ws[q0]? = some (a, .inr (0, fs))) (hl : 3 < fs.length) (hd : decode cc pc = .ok (.putfield 21, 3)) (hw : ws.set q0 (a, .inr (0, fs.set 3 (.ref v))) = ws') (kk : GG X D Q n ws' lv (pc + 3) st o) : GG X D Q n ws lv pc (.ref v :: .ref a :: st) o := gg_putF C hini in_X0 tyX0 tyX0_ok nmX0 rfl 3 (by decide) tw_33 rfl rfl q0 rfl rfl he hl hd hw kk
theorem gf_X8_80 (C : Cx X D T cc RX8 rm) (q0 : Nat) {a : Nat} {fs : List Value} {v : Value} (he : ws[q0]? = some (a, .inr (0, fs))) (hv : fs[3]? = some v) (hd : decode cc pc = .ok (.getfield 80, 3)) (kk : GG X D Q n ws lv (pc + 3) (v :: st) o) : GG X D Q n ws lv pc (.ref a :: st) o := gg_get C in_X0 rfl 3 (by decide) tw_34 q0 he hv hd kk
theorem gf_X0_24 (C : Cx X D T cc RX0 rm) (q0 : Nat) {a : Nat} {fs : List Value} {v : Value} (he : ws[q0]? = some (a, .inr (0, fs))) (hv : fs[4]? = some v) (hd : decode cc pc = .ok (.getfield 24, 3)) (kk : GG X D Q n ws lv (pc + 3) (v :: st) o) : GG X D Q n ws lv pc (.ref a :: st) o := gg_get C in_X0 rfl 4 (by decide) tw_35 q0 he hv hd kk
theorem pF_X0_24 (C : Cx X D T cc RX0 rm) (hini : (kxM X).name = "<init>") (q0 : Nat) {a v : Nat} {fs : List Value} (he : ws[q0]? = some (a, .inr (0, fs))) (hl : 4 < fs.length) (hd : decode cc pc = .ok (.putfield 24, 3)) (hw : ws.set q0 (a, .inr (0, fs.set 4 (.ref v))) = ws') (kk : GG X D Q n ws' lv (pc + 3) st o) : GG X D Q n ws lv pc (.ref v :: .ref a :: st) o := gg_putF C hini in_X0 tyX0 tyX0_ok nmX0 rfl 4 (by decide) tw_35 rfl rfl q0 rfl rfl he hl hd hw kk
theorem gf_X8_83 (C : Cx X D T cc RX8 rm) (q0 : Nat) {a : Nat} {fs : List Value} {v : Value} (he : ws[q0]? = some (a, .inr (0, fs))) (hv : fs[4]? = some v) (hd : decode cc pc = .ok (.getfield 83, 3)) (kk : GG X D Q n ws lv (pc + 3) (v :: st) o) : GG X D Q n ws lv pc (.ref a :: st) o := gg_get C in_X0 rfl 4 (by decide) tw_36 q0 he hv hd kk
theorem gf_X0_27 (C : Cx X D T cc RX0 rm) (q0 : Nat) {a : Nat} {fs : List Value} {v : Value} (he : ws[q0]? = some (a, .inr (0, fs))) (hv : fs[5]? = some v) (hd : decode cc pc = .ok (.getfield 27, 3)) (kk : GG X D Q n ws lv (pc + 3) (v :: st) o) : GG X D Q n ws lv pc (.ref a :: st) o := gg_get C in_X0 rfl 5 (by decide) tw_37 q0 he hv hd kk
theorem pF_X0_27 (C : Cx X D T cc RX0 rm) (hini : (kxM X).name = "<init>") (q0 : Nat) {a v : Nat} {fs : List Value} (he : ws[q0]? = some (a, .inr (0, fs))) (hl : 5 < fs.length) (hd : decode cc pc = .ok (.putfield 27, 3)) (hw : ws.set q0 (a, .inr (0, fs.set 5 (.ref v))) = ws') (kk : GG X D Q n ws' lv (pc + 3) st o) : GG X D Q n ws lv pc (.ref v :: .ref a :: st) o := gg_putF C hini in_X0 tyX0 tyX0_ok nmX0 rfl 5 (by decide) tw_37 rfl rfl q0 rfl rfl he hl hd hw kk
theorem gf_X8_86 (C : Cx X D T cc RX8 rm) (q0 : Nat) {a : Nat} {fs : List Value} {v : Value} (he : ws[q0]? = some (a, .inr (0, fs))) (hv : fs[5]? = some v) (hd : decode cc pc = .ok (.getfield 86, 3)) (kk : GG X D Q n ws lv (pc + 3) (v :: st) o) : GG X D Q n ws lv pc (.ref a :: st) o := gg_get C in_X0 rfl 5 (by decide) tw_38 q0 he hv hd kk
theorem gf_X0_30 (C : Cx X D T cc RX0 rm) (q0 : Nat) {a : Nat} {fs : List Value} {v : Value} (he : ws[q0]? = some (a, .inr (0, fs))) (hv : fs[6]? = some v) (hd : decode cc pc = .ok (.getfield 30, 3)) (kk : GG X D Q n ws lv (pc + 3) (v :: st) o) : GG X D Q n ws lv pc (.ref a :: st) o := gg_get C in_X0 rfl 6 (by decide) tw_39 q0 he hv hd kk
theorem pF_X0_30 (C : Cx X D T cc RX0 rm) (hini : (kxM X).name = "<init>") (q0 : Nat) {a v : Nat} {fs : List Value} (he : ws[q0]? = some (a, .inr (0, fs))) (hl : 6 < fs.length) (hd : decode cc pc = .ok (.putfield 30, 3)) (hw : ws.set q0 (a, .inr (0, fs.set 6 (.ref v))) = ws') (kk : GG X D Q n ws' lv (pc + 3) st o) : GG X D Q n ws lv pc (.ref v :: .ref a :: st) o := gg_putF C hini in_X0 tyX0 tyX0_ok nmX0 rfl 6 (by decide) tw_39 rfl rfl q0 rfl rfl he hl hd hw kk
theorem gf_X8_89 (C : Cx X D T cc RX8 rm) (q0 : Nat) {a : Nat} {fs : List Value} {v : Value} (he : ws[q0]? = some (a, .inr (0, fs))) (hv : fs[6]? = some v) (hd : decode cc pc = .ok (.getfield 89, 3)) (kk : GG X D Q n ws lv (pc + 3) (v :: st) o) : GG X D Q n ws lv pc (.ref a :: st) o := gg_get C in_X0 rfl 6 (by decide) tw_40 q0 he hv hd kk
theorem gf_X0_39 (C : Cx X D T cc RX0 rm) (q0 : Nat) {a : Nat} {fs : List Value} {v : Value} (he : ws[q0]? = some (a, .inr (0, fs))) (hv : fs[7]? = some v) (hd : decode cc pc = .ok (.getfield 39, 3)) (kk : GG X D Q n ws lv (pc + 3) (v :: st) o) : GG X D Q n ws lv pc (.ref a :: st) o := gg_get C in_X0 rfl 7 (by decide) tw_41 q0 he hv hd kk
theorem pf_X0_39 (C : Cx X D T cc RX0 rm) (q0 : Nat) {a : Nat} {fs : List Value} {v : Int32} (he : ws[q0]? = some (a, .inr (0, fs))) (hl : 7 < fs.length) (hd : decode cc pc = .ok (.putfield 39, 3)) (hw : ws.set q0 (a, .inr (0, fs.set 7 (.int v))) = ws') (kk : GG X D Q n ws' lv (pc + 3) st o) : GG X D Q n ws lv pc (.int v :: .ref a :: st) o := gg_put C in_X0 tyX0 tyX0_ok nmX0 rfl 7 (by decide) tw_41 rfl q0 rfl rfl he hl hd hw kk
theorem gf_X8_128 (C : Cx X D T cc RX8 rm) (q0 : Nat) {a : Nat} {fs : List Value} {v : Value} (he : ws[q0]? = some (a, .inr (0, fs))) (hv : fs[7]? = some v) (hd : decode cc pc = .ok (.getfield 128, 3)) (kk : GG X D Q n ws lv (pc + 3) (v :: st) o) : GG X D Q n ws lv pc (.ref a :: st) o := gg_get C in_X0 rfl 7 (by decide) tw_42 q0 he hv hd kk
theorem pf_X8_128 (C : Cx X D T cc RX8 rm) (q0 : Nat) {a : Nat} {fs : List Value} {v : Int32} (he : ws[q0]? = some (a, .inr (0, fs))) (hl : 7 < fs.length) (hd : decode cc pc = .ok (.putfield 128, 3)) (hw : ws.set q0 (a, .inr (0, fs.set 7 (.int v))) = ws') (kk : GG X D Q n ws' lv (pc + 3) st o) : GG X D Q n ws lv pc (.int v :: .ref a :: st) o := gg_put C in_X0 tyX0 tyX0_ok nmX0 rfl 7 (by decide) tw_42 rfl q0 rfl rfl he hl hd hw kk
theorem gf_X6_11 (C : Cx X D T cc RX6 rm) (q0 : Nat) {a : Nat} {fs : List Value} {v : Value} (he : ws[q0]? = some (a, .inr (3, fs))) (hv : fs[0]? = some v) (hd : decode cc pc = .ok (.getfield 11, 3)) (kk : GG X D Q n ws lv (pc + 3) (v :: st) o) : GG X D Q n ws lv pc (.ref a :: st) o := gg_get C in_X6 rfl 0 (by decide) tw_67 q0 he hv hd kk
theorem pF_X6_11 (C : Cx X D T cc RX6 rm) (hini : (kxM X).name = "<init>") (q0 : Nat) {a v : Nat} {fs : List Value} (he : ws[q0]? = some (a, .inr (3, fs))) (hl : 0 < fs.length) (hd : decode cc pc = .ok (.putfield 11, 3)) (hw : ws.set q0 (a, .inr (3, fs.set 0 (.ref v))) = ws') (kk : GG X D Q n ws' lv (pc + 3) st o) : GG X D Q n ws lv pc (.ref v :: .ref a :: st) o := gg_putF C hini in_X6 tyX6 tyX6_ok nmX6 rfl 0 (by decide) tw_67 rfl rfl q0 rfl rfl he hl hd hw kk
theorem gf_X6_15 (C : Cx X D T cc RX6 rm) (q0 : Nat) {a : Nat} {fs : List Value} {v : Value} (he : ws[q0]? = some (a, .inr (3, fs))) (hv : fs[1]? = some v) (hd : decode cc pc = .ok (.getfield 15, 3)) (kk : GG X D Q n ws lv (pc + 3) (v :: st) o) : GG X D Q n ws lv pc (.ref a :: st) o := gg_get C in_X6 rfl 1 (by decide) tw_68 q0 he hv hd kk
theorem pF_X6_15 (C : Cx X D T cc RX6 rm) (hini : (kxM X).name = "<init>") (q0 : Nat) {a v : Nat} {fs : List Value} (he : ws[q0]? = some (a, .inr (3, fs))) (hl : 1 < fs.length) (hd : decode cc pc = .ok (.putfield 15, 3)) (hw : ws.set q0 (a, .inr (3, fs.set 1 (.ref v))) = ws') (kk : GG X D Q n ws' lv (pc + 3) st o) : GG X D Q n ws lv pc (.ref v :: .ref a :: st) o := gg_putF C hini in_X6 tyX6 tyX6_ok nmX6 rfl 1 (by decide) tw_68 rfl rfl q0 rfl rfl he hl hd hw kk
theorem gf_X6_18 (C : Cx X D T cc RX6 rm) (q0 : Nat) {a : Nat} {fs : List Value} {v : Value} (he : ws[q0]? = some (a, .inr (3, fs))) (hv : fs[2]? = some v) (hd : decode cc pc = .ok (.getfield 18, 3)) (kk : GG X D Q n ws lv (pc + 3) (v :: st) o) : GG X D Q n ws lv pc (.ref a :: st) o := gg_get C in_X6 rfl 2 (by decide) tw_69 q0 he hv hd kk
theorem pF_X6_18 (C : Cx X D T cc RX6 rm) (hini : (kxM X).name = "<init>") (q0 : Nat) {a v : Nat} {fs : List Value} (he : ws[q0]? = some (a, .inr (3, fs))) (hl : 2 < fs.length) (hd : decode cc pc = .ok (.putfield 18, 3)) (hw : ws.set q0 (a, .inr (3, fs.set 2 (.ref v))) = ws') (kk : GG X D Q n ws' lv (pc + 3) st o) : GG X D Q n ws lv pc (.ref v :: .ref a :: st) o := gg_putF C hini in_X6 tyX6 tyX6_ok nmX6 rfl 2 (by decide) tw_69 rfl rfl q0 rfl rfl he hl hd hw kk
theorem gf_X6_22 (C : Cx X D T cc RX6 rm) (q0 : Nat) {a : Nat} {fs : List Value} {v : Value} (he : ws[q0]? = some (a, .inr (3, fs))) (hv : fs[3]? = some v) (hd : decode cc pc = .ok (.getfield 22, 3)) (kk : GG X D Q n ws lv (pc + 3) (v :: st) o) : GG X D Q n ws lv pc (.ref a :: st) o := gg_get C in_X6 rfl 3 (by decide) tw_70 q0 he hv hd kk
theorem pF_X6_22 (C : Cx X D T cc RX6 rm) (hini : (kxM X).name = "<init>") (q0 : Nat) {a v : Nat} {fs : List Value} (he : ws[q0]? = some (a, .inr (3, fs))) (hl : 3 < fs.length) (hd : decode cc pc = .ok (.putfield 22, 3)) (hw : ws.set q0 (a, .inr (3, fs.set 3 (.ref v))) = ws') (kk : GG X D Q n ws' lv (pc + 3) st o) : GG X D Q n ws lv pc (.ref v :: .ref a :: st) o := gg_putF C hini in_X6 tyX6 tyX6_ok nmX6 rfl 3 (by decide) tw_70 rfl rfl q0 rfl rfl he hl hd hw kk
theorem gf_X6_25 (C : Cx X D T cc RX6 rm) (q0 : Nat) {a : Nat} {fs : List Value} {v : Value} (he : ws[q0]? = some (a, .inr (3, fs))) (hv : fs[4]? = some v) (hd : decode cc pc = .ok (.getfield 25, 3)) (kk : GG X D Q n ws lv (pc + 3) (v :: st) o) : GG X D Q n ws lv pc (.ref a :: st) o := gg_get C in_X6 rfl 4 (by decide) tw_71 q0 he hv hd kk
theorem pf_X6_25 (C : Cx X D T cc RX6 rm) (q0 : Nat) {a : Nat} {fs : List Value} {v : Int32} (he : ws[q0]? = some (a, .inr (3, fs))) (hl : 4 < fs.length) (hd : decode cc pc = .ok (.putfield 25, 3)) (hw : ws.set q0 (a, .inr (3, fs.set 4 (.int v))) = ws') (kk : GG X D Q n ws' lv (pc + 3) st o) : GG X D Q n ws lv pc (.int v :: .ref a :: st) o := gg_put C in_X6 tyX6 tyX6_ok nmX6 rfl 4 (by decide) tw_71 rfl q0 rfl rfl he hl hd hw kk
theorem gf_X8_234 (C : Cx X D T cc RX8 rm) (q0 : Nat) {a : Nat} {fs : List Value} {v : Value} (he : ws[q0]? = some (a, .inr (3, fs))) (hv : fs[4]? = some v) (hd : decode cc pc = .ok (.getfield 234, 3)) (kk : GG X D Q n ws lv (pc + 3) (v :: st) o) : GG X D Q n ws lv pc (.ref a :: st) o := gg_get C in_X6 rfl 4 (by decide) tw_72 q0 he hv hd kk
theorem pf_X8_234 (C : Cx X D T cc RX8 rm) (q0 : Nat) {a : Nat} {fs : List Value} {v : Int32} (he : ws[q0]? = some (a, .inr (3, fs))) (hl : 4 < fs.length) (hd : decode cc pc = .ok (.putfield 234, 3)) (hw : ws.set q0 (a, .inr (3, fs.set 4 (.int v))) = ws') (kk : GG X D Q n ws' lv (pc + 3) st o) : GG X D Q n ws lv pc (.int v :: .ref a :: st) o := gg_put C in_X6 tyX6 tyX6_ok nmX6 rfl 4 (by decide) tw_72 rfl q0 rfl rfl he hl hd hw kk
theorem gf_X6_33 (C : Cx X D T cc RX6 rm) (q0 : Nat) {a : Nat} {fs : List Value} {v : Value} (he : ws[q0]? = some (a, .inr (3, fs))) (hv : fs[5]? = some v) (hd : decode cc pc = .ok (.getfield 33, 3)) (kk : GG X D Q n ws lv (pc + 3) (v :: st) o) : GG X D Q n ws lv pc (.ref a :: st) o := gg_get C in_X6 rfl 5 (by decide) tw_73 q0 he hv hd kk
theorem pf_X6_33 (C : Cx X D T cc RX6 rm) (q0 : Nat) {a : Nat} {fs : List Value} {v : Int32} (he : ws[q0]? = some (a, .inr (3, fs))) (hl : 5 < fs.length) (hd : decode cc pc = .ok (.putfield 33, 3)) (hw : ws.set q0 (a, .inr (3, fs.set 5 (.int v))) = ws') (kk : GG X D Q n ws' lv (pc + 3) st o) : GG X D Q n ws lv pc (.int v :: .ref a :: st) o := gg_put C in_X6 tyX6 tyX6_ok nmX6 rfl 5 (by decide) tw_73 rfl q0 rfl rfl he hl hd hw kk
theorem gf_X8_196 (C : Cx X D T cc RX8 rm) (q0 : Nat) {a : Nat} {fs : List Value} {v : Value} (he : ws[q0]? = some (a, .inr (3, fs))) (hv : fs[5]? = some v) (hd : decode cc pc = .ok (.getfield 196, 3)) (kk : GG X D Q n ws lv (pc + 3) (v :: st) o) : GG X D Q n ws lv pc (.ref a :: st) o := gg_get C in_X6 rfl 5 (by decide) tw_74 q0 he hv hd kk
theorem pf_X8_196 (C : Cx X D T cc RX8 rm) (q0 : Nat) {a : Nat} {fs : List Value} {v : Int32} (he : ws[q0]? = some (a, .inr (3, fs))) (hl : 5 < fs.length) (hd : decode cc pc = .ok (.putfield 196, 3)) (hw : ws.set q0 (a, .inr (3, fs.set 5 (.int v))) = ws') (kk : GG X D Q n ws' lv (pc + 3) st o) : GG X D Q n ws lv pc (.int v :: .ref a :: st) o := gg_put C in_X6 tyX6 tyX6_ok nmX6 rfl 5 (by decide) tw_74 rfl q0 rfl rfl he hl hd hw kk
theorem gf_X6_36 (C : Cx X D T cc RX6 rm) (q0 : Nat) {a : Nat} {fs : List Value} {v : Value} (he : ws[q0]? = some (a, .inr (3, fs))) (hv : fs[6]? = some v) (hd : decode cc pc = .ok (.getfield 36, 3)) (kk : GG X D Q n ws lv (pc + 3) (v :: st) o) : GG X D Q n ws lv pc (.ref a :: st) o := gg_get C in_X6 rfl 6 (by decide) tw_75 q0 he hv hd kk
theorem pf_X6_36 (C : Cx X D T cc RX6 rm) (q0 : Nat) {a : Nat} {fs : List Value} {v : Int32} (he : ws[q0]? = some (a, .inr (3, fs))) (hl : 6 < fs.length) (hd : decode cc pc = .ok (.putfield 36, 3)) (hw : ws.set q0 (a, .inr (3, fs.set 6 (.int v))) = ws') (kk : GG X D Q n ws' lv (pc + 3) st o) : GG X D Q n ws lv pc (.int v :: .ref a :: st) o := gg_put C in_X6 tyX6 tyX6_ok nmX6 rfl 6 (by decide) tw_75 rfl q0 rfl rfl he hl hd hw kk
theorem gf_X8_199 (C : Cx X D T cc RX8 rm) (q0 : Nat) {a : Nat} {fs : List Value} {v : Value} (he : ws[q0]? = some (a, .inr (3, fs))) (hv : fs[6]? = some v) (hd : decode cc pc = .ok (.getfield 199, 3)) (kk : GG X D Q n ws lv (pc + 3) (v :: st) o) : GG X D Q n ws lv pc (.ref a :: st) o := gg_get C in_X6 rfl 6 (by decide) tw_76 q0 he hv hd kk
theorem pf_X8_199 (C : Cx X D T cc RX8 rm) (q0 : Nat) {a : Nat} {fs : List Value} {v : Int32} (he : ws[q0]? = some (a, .inr (3, fs))) (hl : 6 < fs.length) (hd : decode cc pc = .ok (.putfield 199, 3)) (hw : ws.set q0 (a, .inr (3, fs.set 6 (.int v))) = ws') (kk : GG X D Q n ws' lv (pc + 3) st o) : GG X D Q n ws lv pc (.int v :: .ref a :: st) o := gg_put C in_X6 tyX6 tyX6_ok nmX6 rfl 6 (by decide) tw_76 rfl q0 rfl rfl he hl hd hw kk
theorem gf_X2_11 (C : Cx X D T cc RX2 rm) (q0 : Nat) {a : Nat} {fs : List Value} {v : Value} (he : ws[q0]? = some (a, .inr (1, fs))) (hv : fs[0]? = some v) (hd : decode cc pc = .ok (.getfield 11, 3)) (kk : GG X D Q n ws lv (pc + 3) (v :: st) o) : GG X D Q n ws lv pc (.ref a :: st) o := gg_get C in_X2 rfl 0 (by decide) tw_99 q0 he hv hd kk
theorem pF_X2_11 (C : Cx X D T cc RX2 rm) (hini : (kxM X).name = "<init>") (q0 : Nat) {a v : Nat} {fs : List Value} (he : ws[q0]? = some (a, .inr (1, fs))) (hl : 0 < fs.length) (hd : decode cc pc = .ok (.putfield 11, 3)) (hw : ws.set q0 (a, .inr (1, fs.set 0 (.ref v))) = ws') (kk : GG X D Q n ws' lv (pc + 3) st o) : GG X D Q n ws lv pc (.ref v :: .ref a :: st) o := gg_putF C hini in_X2 tyX2 tyX2_ok nmX2 rfl 0 (by decide) tw_99 rfl rfl q0 rfl rfl he hl hd hw kk
theorem gf_X7_31 (C : Cx X D T cc RX7 rm) (q0 : Nat) {a : Nat} {fs : List Value} {v : Value} (he : ws[q0]? = some (a, .inr (1, fs))) (hv : fs[0]? = some v) (hd : decode cc pc = .ok (.getfield 31, 3)) (kk : GG X D Q n ws lv (pc + 3) (v :: st) o) : GG X D Q n ws lv pc (.ref a :: st) o := gg_get C in_X2 rfl 0 (by decide) tw_100 q0 he hv hd kk
theorem gf_X2_15 (C : Cx X D T cc RX2 rm) (q0 : Nat) {a : Nat} {fs : List Value} {v : Value} (he : ws[q0]? = some (a, .inr (1, fs))) (hv : fs[1]? = some v) (hd : decode cc pc = .ok (.getfield 15, 3)) (kk : GG X D Q n ws lv (pc + 3) (v :: st) o) : GG X D Q n ws lv pc (.ref a :: st) o := gg_get C in_X2 rfl 1 (by decide) tw_101 q0 he hv hd kk
theorem pf_X2_15 (C : Cx X D T cc RX2 rm) (q0 : Nat) {a : Nat} {fs : List Value} {v : Int32} (he : ws[q0]? = some (a, .inr (1, fs))) (hl : 1 < fs.length) (hd : decode cc pc = .ok (.putfield 15, 3)) (hw : ws.set q0 (a, .inr (1, fs.set 1 (.int v))) = ws') (kk : GG X D Q n ws' lv (pc + 3) st o) : GG X D Q n ws lv pc (.int v :: .ref a :: st) o := gg_put C in_X2 tyX2 tyX2_ok nmX2 rfl 1 (by decide) tw_101 rfl q0 rfl rfl he hl hd hw kk
theorem gf_X7_22 (C : Cx X D T cc RX7 rm) (q0 : Nat) {a : Nat} {fs : List Value} {v : Value} (he : ws[q0]? = some (a, .inr (1, fs))) (hv : fs[1]? = some v) (hd : decode cc pc = .ok (.getfield 22, 3)) (kk : GG X D Q n ws lv (pc + 3) (v :: st) o) : GG X D Q n ws lv pc (.ref a :: st) o := gg_get C in_X2 rfl 1 (by decide) tw_102 q0 he hv hd kk
theorem pf_X7_22 (C : Cx X D T cc RX7 rm) (q0 : Nat) {a : Nat} {fs : List Value} {v : Int32} (he : ws[q0]? = some (a, .inr (1, fs))) (hl : 1 < fs.length) (hd : decode cc pc = .ok (.putfield 22, 3)) (hw : ws.set q0 (a, .inr (1, fs.set 1 (.int v))) = ws') (kk : GG X D Q n ws' lv (pc + 3) st o) : GG X D Q n ws lv pc (.int v :: .ref a :: st) o := gg_put C in_X2 tyX2 tyX2_ok nmX2 rfl 1 (by decide) tw_102 rfl q0 rfl rfl he hl hd hw kk
theorem gf_X8_231 (C : Cx X D T cc RX8 rm) (q0 : Nat) {a : Nat} {fs : List Value} {v : Value} (he : ws[q0]? = some (a, .inr (1, fs))) (hv : fs[1]? = some v) (hd : decode cc pc = .ok (.getfield 231, 3)) (kk : GG X D Q n ws lv (pc + 3) (v :: st) o) : GG X D Q n ws lv pc (.ref a :: st) o := gg_get C in_X2 rfl 1 (by decide) tw_103 q0 he hv hd kk
theorem pf_X8_231 (C : Cx X D T cc RX8 rm) (q0 : Nat) {a : Nat} {fs : List Value} {v : Int32} (he : ws[q0]? = some (a, .inr (1, fs))) (hl : 1 < fs.length) (hd : decode cc pc = .ok (.putfield 231, 3)) (hw : ws.set q0 (a, .inr (1, fs.set 1 (.int v))) = ws') (kk : GG X D Q n ws' lv (pc + 3) st o) : GG X D Q n ws lv pc (.int v :: .ref a :: st) o := gg_put C in_X2 tyX2 tyX2_ok nmX2 rfl 1 (by decide) tw_103 rfl q0 rfl rfl he hl hd hw kk
theorem gf_X7_12 (C : Cx X D T cc RX7 rm) (q0 : Nat) {a : Nat} {fs : List Value} {v : Value} (he : ws[q0]? = some (a, .inr (4, fs))) (hv : fs[0]? = some v) (hd : decode cc pc = .ok (.getfield 12, 3)) (kk : GG X D Q n ws lv (pc + 3) (v :: st) o) : GG X D Q n ws lv pc (.ref a :: st) o := gg_get C in_X7 rfl 0 (by decide) tw_117 q0 he hv hd kk
theorem pF_X7_12 (C : Cx X D T cc RX7 rm) (hini : (kxM X).name = "<init>") (q0 : Nat) {a v : Nat} {fs : List Value} (he : ws[q0]? = some (a, .inr (4, fs))) (hl : 0 < fs.length) (hd : decode cc pc = .ok (.putfield 12, 3)) (hw : ws.set q0 (a, .inr (4, fs.set 0 (.ref v))) = ws') (kk : GG X D Q n ws' lv (pc + 3) st o) : GG X D Q n ws lv pc (.ref v :: .ref a :: st) o := gg_putF C hini in_X7 tyX7 tyX7_ok nmX7 rfl 0 (by decide) tw_117 rfl rfl q0 rfl rfl he hl hd hw kk
theorem gf_X8_116 (C : Cx X D T cc RX8 rm) (q0 : Nat) {a : Nat} {fs : List Value} {v : Value} (he : ws[q0]? = some (a, .inr (4, fs))) (hv : fs[0]? = some v) (hd : decode cc pc = .ok (.getfield 116, 3)) (kk : GG X D Q n ws lv (pc + 3) (v :: st) o) : GG X D Q n ws lv pc (.ref a :: st) o := gg_get C in_X7 rfl 0 (by decide) tw_118 q0 he hv hd kk
theorem gf_X7_64 (C : Cx X D T cc RX7 rm) (q0 : Nat) {a : Nat} {fs : List Value} {v : Value} (he : ws[q0]? = some (a, .inr (4, fs))) (hv : fs[1]? = some v) (hd : decode cc pc = .ok (.getfield 64, 3)) (kk : GG X D Q n ws lv (pc + 3) (v :: st) o) : GG X D Q n ws lv pc (.ref a :: st) o := gg_get C in_X7 rfl 1 (by decide) tw_119 q0 he hv hd kk
theorem pf_X7_64 (C : Cx X D T cc RX7 rm) (q0 : Nat) {a : Nat} {fs : List Value} {v : Int32} (he : ws[q0]? = some (a, .inr (4, fs))) (hl : 1 < fs.length) (hd : decode cc pc = .ok (.putfield 64, 3)) (hw : ws.set q0 (a, .inr (4, fs.set 1 (.int v))) = ws') (kk : GG X D Q n ws' lv (pc + 3) st o) : GG X D Q n ws lv pc (.int v :: .ref a :: st) o := gg_put C in_X7 tyX7 tyX7_ok nmX7 rfl 1 (by decide) tw_119 rfl q0 rfl rfl he hl hd hw kk
theorem gf_X8_141 (C : Cx X D T cc RX8 rm) (q0 : Nat) {a : Nat} {fs : List Value} {v : Value} (he : ws[q0]? = some (a, .inr (4, fs))) (hv : fs[1]? = some v) (hd : decode cc pc = .ok (.getfield 141, 3)) (kk : GG X D Q n ws lv (pc + 3) (v :: st) o) : GG X D Q n ws lv pc (.ref a :: st) o := gg_get C in_X7 rfl 1 (by decide) tw_120 q0 he hv hd kk
theorem pf_X8_141 (C : Cx X D T cc RX8 rm) (q0 : Nat) {a : Nat} {fs : List Value} {v : Int32} (he : ws[q0]? = some (a, .inr (4, fs))) (hl : 1 < fs.length) (hd : decode cc pc = .ok (.putfield 141, 3)) (hw : ws.set q0 (a, .inr (4, fs.set 1 (.int v))) = ws') (kk : GG X D Q n ws' lv (pc + 3) st o) : GG X D Q n ws lv pc (.int v :: .ref a :: st) o := gg_put C in_X7 tyX7 tyX7_ok nmX7 rfl 1 (by decide) tw_120 rfl q0 rfl rfl he hl hd hw kk
theorem gf_X7_28 (C : Cx X D T cc RX7 rm) (q0 : Nat) {a : Nat} {fs : List Value} {v : Value} (he : ws[q0]? = some (a, .inr (4, fs))) (hv : fs[2]? = some v) (hd : decode cc pc = .ok (.getfield 28, 3)) (kk : GG X D Q n ws lv (pc + 3) (v :: st) o) : GG X D Q n ws lv pc (.ref a :: st) o := gg_get C in_X7 rfl 2 (by decide) tw_121 q0 he hv hd kk
theorem pf_X7_28 (C : Cx X D T cc RX7 rm) (q0 : Nat) {a : Nat} {fs : List Value} {v : Int32} (he : ws[q0]? = some (a, .inr (4, fs))) (hl : 2 < fs.length) (hd : decode cc pc = .ok (.putfield 28, 3)) (hw : ws.set q0 (a, .inr (4, fs.set 2 (.int v))) = ws') (kk : GG X D Q n ws' lv (pc + 3) st o) : GG X D Q n ws lv pc (.int v :: .ref a :: st) o := gg_put C in_X7 tyX7 tyX7_ok nmX7 rfl 2 (by decide) tw_121 rfl q0 rfl rfl he hl hd hw kk
theorem gf_X8_106 (C : Cx X D T cc RX8 rm) (q0 : Nat) {a : Nat} {fs : List Value} {v : Value} (he : ws[q0]? = some (a, .inr (4, fs))) (hv : fs[2]? = some v) (hd : decode cc pc = .ok (.getfield 106, 3)) (kk : GG X D Q n ws lv (pc + 3) (v :: st) o) : GG X D Q n ws lv pc (.ref a :: st) o := gg_get C in_X7 rfl 2 (by decide) tw_122 q0 he hv hd kk
theorem pf_X8_106 (C : Cx X D T cc RX8 rm) (q0 : Nat) {a : Nat} {fs : List Value} {v : Int32} (he : ws[q0]? = some (a, .inr (4, fs))) (hl : 2 < fs.length) (hd : decode cc pc = .ok (.putfield 106, 3)) (hw : ws.set q0 (a, .inr (4, fs.set 2 (.int v))) = ws') (kk : GG X D Q n ws' lv (pc + 3) st o) : GG X D Q n ws lv pc (.int v :: .ref a :: st) o := gg_put C in_X7 tyX7 tyX7_ok nmX7 rfl 2 (by decide) tw_122 rfl q0 rfl rfl he hl hd hw kk
theorem gf_X7_67 (C : Cx X D T cc RX7 rm) (q0 : Nat) {a : Nat} {fs : List Value} {v : Value} (he : ws[q0]? = some (a, .inr (4, fs))) (hv : fs[3]? = some v) (hd : decode cc pc = .ok (.getfield 67, 3)) (kk : GG X D Q n ws lv (pc + 3) (v :: st) o) : GG X D Q n ws lv pc (.ref a :: st) o := gg_get C in_X7 rfl 3 (by decide) tw_123 q0 he hv hd kk
theorem pf_X7_67 (C : Cx X D T cc RX7 rm) (q0 : Nat) {a : Nat} {fs : List Value} {v : Int32} (he : ws[q0]? = some (a, .inr (4, fs))) (hl : 3 < fs.length) (hd : decode cc pc = .ok (.putfield 67, 3)) (hw : ws.set q0 (a, .inr (4, fs.set 3 (.int v))) = ws') (kk : GG X D Q n ws' lv (pc + 3) st o) : GG X D Q n ws lv pc (.int v :: .ref a :: st) o := gg_put C in_X7 tyX7 tyX7_ok nmX7 rfl 3 (by decide) tw_123 rfl q0 rfl rfl he hl hd hw kk
theorem gf_X8_110 (C : Cx X D T cc RX8 rm) (q0 : Nat) {a : Nat} {fs : List Value} {v : Value} (he : ws[q0]? = some (a, .inr (4, fs))) (hv : fs[3]? = some v) (hd : decode cc pc = .ok (.getfield 110, 3)) (kk : GG X D Q n ws lv (pc + 3) (v :: st) o) : GG X D Q n ws lv pc (.ref a :: st) o := gg_get C in_X7 rfl 3 (by decide) tw_124 q0 he hv hd kk
theorem pf_X8_110 (C : Cx X D T cc RX8 rm) (q0 : Nat) {a : Nat} {fs : List Value} {v : Int32} (he : ws[q0]? = some (a, .inr (4, fs))) (hl : 3 < fs.length) (hd : decode cc pc = .ok (.putfield 110, 3)) (hw : ws.set q0 (a, .inr (4, fs.set 3 (.int v))) = ws') (kk : GG X D Q n ws' lv (pc + 3) st o) : GG X D Q n ws lv pc (.int v :: .ref a :: st) o := gg_put C in_X7 tyX7 tyX7_ok nmX7 rfl 3 (by decide) tw_124 rfl q0 rfl rfl he hl hd hw kk
theorem gf_X7_70 (C : Cx X D T cc RX7 rm) (q0 : Nat) {a : Nat} {fs : List Value} {v : Value} (he : ws[q0]? = some (a, .inr (4, fs))) (hv : fs[4]? = some v) (hd : decode cc pc = .ok (.getfield 70, 3)) (kk : GG X D Q n ws lv (pc + 3) (v :: st) o) : GG X D Q n ws lv pc (.ref a :: st) o := gg_get C in_X7 rfl 4 (by decide) tw_125 q0 he hv hd kk
theorem pf_X7_70 (C : Cx X D T cc RX7 rm) (q0 : Nat) {a : Nat} {fs : List Value} {v : Int32} (he : ws[q0]? = some (a, .inr (4, fs))) (hl : 4 < fs.length) (hd : decode cc pc = .ok (.putfield 70, 3)) (hw : ws.set q0 (a, .inr (4, fs.set 4 (.int v))) = ws') (kk : GG X D Q n ws' lv (pc + 3) st o) : GG X D Q n ws lv pc (.int v :: .ref a :: st) o := gg_put C in_X7 tyX7 tyX7_ok nmX7 rfl 4 (by decide) tw_125 rfl q0 rfl rfl he hl hd hw kk
theorem gf_X8_113 (C : Cx X D T cc RX8 rm) (q0 : Nat) {a : Nat} {fs : List Value} {v : Value} (he : ws[q0]? = some (a, .inr (4, fs))) (hv : fs[4]? = some v) (hd : decode cc pc = .ok (.getfield 113, 3)) (kk : GG X D Q n ws lv (pc + 3) (v :: st) o) : GG X D Q n ws lv pc (.ref a :: st) o := gg_get C in_X7 rfl 4 (by decide) tw_126 q0 he hv hd kk
theorem pf_X8_113 (C : Cx X D T cc RX8 rm) (q0 : Nat) {a : Nat} {fs : List Value} {v : Int32} (he : ws[q0]? = some (a, .inr (4, fs))) (hl : 4 < fs.length) (hd : decode cc pc = .ok (.putfield 113, 3)) (hw : ws.set q0 (a, .inr (4, fs.set 4 (.int v))) = ws') (kk : GG X D Q n ws' lv (pc + 3) st o) : GG X D Q n ws lv pc (.int v :: .ref a :: st) o := gg_put C in_X7 tyX7 tyX7_ok nmX7 rfl 4 (by decide) tw_126 rfl q0 rfl rfl he hl hd hw kk
theorem gf_X7_73 (C : Cx X D T cc RX7 rm) (q0 : Nat) {a : Nat} {fs : List Value} {v : Value} (he : ws[q0]? = some (a, .inr (4, fs))) (hv : fs[5]? = some v) (hd : decode cc pc = .ok (.getfield 73, 3)) (kk : GG X D Q n ws lv (pc + 3) (v :: st) o) : GG X D Q n ws lv pc (.ref a :: st) o := gg_get C in_X7 rfl 5 (by decide) tw_127 q0 he hv hd kk
theorem pf_X7_73 (C : Cx X D T cc RX7 rm) (q0 : Nat) {a : Nat} {fs : List Value} {v : Int32} (he : ws[q0]? = some (a, .inr (4, fs))) (hl : 5 < fs.length) (hd : decode cc pc = .ok (.putfield 73, 3)) (hw : ws.set q0 (a, .inr (4, fs.set 5 (.int v))) = ws') (kk : GG X D Q n ws' lv (pc + 3) st o) : GG X D Q n ws lv pc (.int v :: .ref a :: st) o := gg_put C in_X7 tyX7 tyX7_ok nmX7 rfl 5 (by decide) tw_127 rfl q0 rfl rfl he hl hd hw kk
theorem gf_X8_131 (C : Cx X D T cc RX8 rm) (q0 : Nat) {a : Nat} {fs : List Value} {v : Value} (he : ws[q0]? = some (a, .inr (4, fs))) (hv : fs[5]? = some v) (hd : decode cc pc = .ok (.getfield 131, 3)) (kk : GG X D Q n ws lv (pc + 3) (v :: st) o) : GG X D Q n ws lv pc (.ref a :: st) o := gg_get C in_X7 rfl 5 (by decide) tw_128 q0 he hv hd kk
theorem pf_X8_131 (C : Cx X D T cc RX8 rm) (q0 : Nat) {a : Nat} {fs : List Value} {v : Int32} (he : ws[q0]? = some (a, .inr (4, fs))) (hl : 5 < fs.length) (hd : decode cc pc = .ok (.putfield 131, 3)) (hw : ws.set q0 (a, .inr (4, fs.set 5 (.int v))) = ws') (kk : GG X D Q n ws' lv (pc + 3) st o) : GG X D Q n ws lv pc (.int v :: .ref a :: st) o := gg_put C in_X7 tyX7 tyX7_ok nmX7 rfl 5 (by decide) tw_128 rfl q0 rfl rfl he hl hd hw kk
theorem gf_X7_76 (C : Cx X D T cc RX7 rm) (q0 : Nat) {a : Nat} {fs : List Value} {v : Value} (he : ws[q0]? = some (a, .inr (4, fs))) (hv : fs[6]? = some v) (hd : decode cc pc = .ok (.getfield 76, 3)) (kk : GG X D Q n ws lv (pc + 3) (v :: st) o) : GG X D Q n ws lv pc (.ref a :: st) o := gg_get C in_X7 rfl 6 (by decide) tw_129 q0 he hv hd kk
theorem pf_X7_76 (C : Cx X D T cc RX7 rm) (q0 : Nat) {a : Nat} {fs : List Value} {v : Int32} (he : ws[q0]? = some (a, .inr (4, fs))) (hl : 6 < fs.length) (hd : decode cc pc = .ok (.putfield 76, 3)) (hw : ws.set q0 (a, .inr (4, fs.set 6 (.int v))) = ws') (kk : GG X D Q n ws' lv (pc + 3) st o) : GG X D Q n ws lv pc (.int v :: .ref a :: st) o := gg_put C in_X7 tyX7 tyX7_ok nmX7 rfl 6 (by decide) tw_129 rfl q0 rfl rfl he hl hd hw kk
theorem gf_X8_134 (C : Cx X D T cc RX8 rm) (q0 : Nat) {a : Nat} {fs : List Value} {v : Value} (he : ws[q0]? = some (a, .inr (4, fs))) (hv : fs[6]? = some v) (hd : decode cc pc = .ok (.getfield 134, 3)) (kk : GG X D Q n ws lv (pc + 3) (v :: st) o) : GG X D Q n ws lv pc (.ref a :: st) o := gg_get C in_X7 rfl 6 (by decide) tw_130 q0 he hv hd kk
theorem pf_X8_134 (C : Cx X D T cc RX8 rm) (q0 : Nat) {a : Nat} {fs : List Value} {v : Int32} (he : ws[q0]? = some (a, .inr (4, fs))) (hl : 6 < fs.length) (hd : decode cc pc = .ok (.putfield 134, 3)) (hw : ws.set q0 (a, .inr (4, fs.set 6 (.int v))) = ws') (kk : GG X D Q n ws' lv (pc + 3) st o) : GG X D Q n ws lv pc (.int v :: .ref a :: st) o := gg_put C in_X7 tyX7 tyX7_ok nmX7 rfl 6 (by decide) tw_130 rfl q0 rfl rfl he hl hd hw kk
theorem gf_X4_9 (C : Cx X D T cc RX4 rm) (q0 : Nat) {a : Nat} {fs : List Value} {v : Value} (he : ws[q0]? = some (a, .inr (2, fs))) (hv : fs[0]? = some v) (hd : decode cc pc = .ok (.getfield 9, 3)) (kk : GG X D Q n ws lv (pc + 3) (v :: st) o) : GG X D Q n ws lv pc (.ref a :: st) o := gg_get C in_X4 rfl 0 (by decide) tw_152 q0 he hv hd kk
theorem pF_X4_9 (C : Cx X D T cc RX4 rm) (hini : (kxM X).name = "<init>") (q0 : Nat) {a v : Nat} {fs : List Value} (he : ws[q0]? = some (a, .inr (2, fs))) (hl : 0 < fs.length) (hd : decode cc pc = .ok (.putfield 9, 3)) (hw : ws.set q0 (a, .inr (2, fs.set 0 (.ref v))) = ws') (kk : GG X D Q n ws' lv (pc + 3) st o) : GG X D Q n ws lv pc (.ref v :: .ref a :: st) o := gg_putF C hini in_X4 tyX4 tyX4_ok nmX4 rfl 0 (by decide) tw_152 rfl rfl q0 rfl rfl he hl hd hw kk
theorem gf_X4_15 (C : Cx X D T cc RX4 rm) (q0 : Nat) {a : Nat} {fs : List Value} {v : Value} (he : ws[q0]? = some (a, .inr (2, fs))) (hv : fs[1]? = some v) (hd : decode cc pc = .ok (.getfield 15, 3)) (kk : GG X D Q n ws lv (pc + 3) (v :: st) o) : GG X D Q n ws lv pc (.ref a :: st) o := gg_get C in_X4 rfl 1 (by decide) tw_153 q0 he hv hd kk
theorem pf_X4_15 (C : Cx X D T cc RX4 rm) (q0 : Nat) {a : Nat} {fs : List Value} {v : Int32} (he : ws[q0]? = some (a, .inr (2, fs))) (hl : 1 < fs.length) (hd : decode cc pc = .ok (.putfield 15, 3)) (hw : ws.set q0 (a, .inr (2, fs.set 1 (.int v))) = ws') (kk : GG X D Q n ws' lv (pc + 3) st o) : GG X D Q n ws lv pc (.int v :: .ref a :: st) o := gg_put C in_X4 tyX4 tyX4_ok nmX4 rfl 1 (by decide) tw_153 rfl q0 rfl rfl he hl hd hw kk
theorem gf_X8_180 (C : Cx X D T cc RX8 rm) (q0 : Nat) {a : Nat} {fs : List Value} {v : Value} (he : ws[q0]? = some (a, .inr (2, fs))) (hv : fs[1]? = some v) (hd : decode cc pc = .ok (.getfield 180, 3)) (kk : GG X D Q n ws lv (pc + 3) (v :: st) o) : GG X D Q n ws lv pc (.ref a :: st) o := gg_get C in_X4 rfl 1 (by decide) tw_154 q0 he hv hd kk
theorem pf_X8_180 (C : Cx X D T cc RX8 rm) (q0 : Nat) {a : Nat} {fs : List Value} {v : Int32} (he : ws[q0]? = some (a, .inr (2, fs))) (hl : 1 < fs.length) (hd : decode cc pc = .ok (.putfield 180, 3)) (hw : ws.set q0 (a, .inr (2, fs.set 1 (.int v))) = ws') (kk : GG X D Q n ws' lv (pc + 3) st o) : GG X D Q n ws lv pc (.int v :: .ref a :: st) o := gg_put C in_X4 tyX4 tyX4_ok nmX4 rfl 1 (by decide) tw_154 rfl q0 rfl rfl he hl hd hw kk
theorem gf_X4_19 (C : Cx X D T cc RX4 rm) (q0 : Nat) {a : Nat} {fs : List Value} {v : Value} (he : ws[q0]? = some (a, .inr (2, fs))) (hv : fs[2]? = some v) (hd : decode cc pc = .ok (.getfield 19, 3)) (kk : GG X D Q n ws lv (pc + 3) (v :: st) o) : GG X D Q n ws lv pc (.ref a :: st) o := gg_get C in_X4 rfl 2 (by decide) tw_155 q0 he hv hd kk
theorem pf_X4_19 (C : Cx X D T cc RX4 rm) (q0 : Nat) {a : Nat} {fs : List Value} {v : Int32} (he : ws[q0]? = some (a, .inr (2, fs))) (hl : 2 < fs.length) (hd : decode cc pc = .ok (.putfield 19, 3)) (hw : ws.set q0 (a, .inr (2, fs.set 2 (.int v))) = ws') (kk : GG X D Q n ws' lv (pc + 3) st o) : GG X D Q n ws lv pc (.int v :: .ref a :: st) o := gg_put C in_X4 tyX4 tyX4_ok nmX4 rfl 2 (by decide) tw_155 rfl q0 rfl rfl he hl hd hw kk
theorem gf_X8_183 (C : Cx X D T cc RX8 rm) (q0 : Nat) {a : Nat} {fs : List Value} {v : Value} (he : ws[q0]? = some (a, .inr (2, fs))) (hv : fs[2]? = some v) (hd : decode cc pc = .ok (.getfield 183, 3)) (kk : GG X D Q n ws lv (pc + 3) (v :: st) o) : GG X D Q n ws lv pc (.ref a :: st) o := gg_get C in_X4 rfl 2 (by decide) tw_156 q0 he hv hd kk
theorem pf_X8_183 (C : Cx X D T cc RX8 rm) (q0 : Nat) {a : Nat} {fs : List Value} {v : Int32} (he : ws[q0]? = some (a, .inr (2, fs))) (hl : 2 < fs.length) (hd : decode cc pc = .ok (.putfield 183, 3)) (hw : ws.set q0 (a, .inr (2, fs.set 2 (.int v))) = ws') (kk : GG X D Q n ws' lv (pc + 3) st o) : GG X D Q n ws lv pc (.int v :: .ref a :: st) o := gg_put C in_X4 tyX4 tyX4_ok nmX4 rfl 2 (by decide) tw_156 rfl q0 rfl rfl he hl hd hw kk
theorem gf_X8_10 (C : Cx X D T cc RX8 rm) (q0 : Nat) {a : Nat} {fs : List Value} {v : Value} (he : ws[q0]? = some (a, .inr (5, fs))) (hv : fs[0]? = some v) (hd : decode cc pc = .ok (.getfield 10, 3)) (kk : GG X D Q n ws lv (pc + 3) (v :: st) o) : GG X D Q n ws lv pc (.ref a :: st) o := gg_get C in_X8 rfl 0 (by decide) tw_166 q0 he hv hd kk
theorem pF_X8_10 (C : Cx X D T cc RX8 rm) (hini : (kxM X).name = "<init>") (q0 : Nat) {a v : Nat} {fs : List Value} (he : ws[q0]? = some (a, .inr (5, fs))) (hl : 0 < fs.length) (hd : decode cc pc = .ok (.putfield 10, 3)) (hw : ws.set q0 (a, .inr (5, fs.set 0 (.ref v))) = ws') (kk : GG X D Q n ws' lv (pc + 3) st o) : GG X D Q n ws lv pc (.ref v :: .ref a :: st) o := gg_putF C hini in_X8 tyX8 tyX8_ok nmX8 rfl 0 (by decide) tw_166 rfl rfl q0 rfl rfl he hl hd hw kk
theorem gf_X8_19 (C : Cx X D T cc RX8 rm) (q0 : Nat) {a : Nat} {fs : List Value} {v : Value} (he : ws[q0]? = some (a, .inr (5, fs))) (hv : fs[1]? = some v) (hd : decode cc pc = .ok (.getfield 19, 3)) (kk : GG X D Q n ws lv (pc + 3) (v :: st) o) : GG X D Q n ws lv pc (.ref a :: st) o := gg_get C in_X8 rfl 1 (by decide) tw_167 q0 he hv hd kk
theorem pF_X8_19 (C : Cx X D T cc RX8 rm) (hini : (kxM X).name = "<init>") (q0 : Nat) {a v : Nat} {fs : List Value} (he : ws[q0]? = some (a, .inr (5, fs))) (hl : 1 < fs.length) (hd : decode cc pc = .ok (.putfield 19, 3)) (hw : ws.set q0 (a, .inr (5, fs.set 1 (.ref v))) = ws') (kk : GG X D Q n ws' lv (pc + 3) st o) : GG X D Q n ws lv pc (.ref v :: .ref a :: st) o := gg_putF C hini in_X8 tyX8 tyX8_ok nmX8 rfl 1 (by decide) tw_167 rfl rfl q0 rfl rfl he hl hd hw kk
theorem gf_X8_26 (C : Cx X D T cc RX8 rm) (q0 : Nat) {a : Nat} {fs : List Value} {v : Value} (he : ws[q0]? = some (a, .inr (5, fs))) (hv : fs[2]? = some v) (hd : decode cc pc = .ok (.getfield 26, 3)) (kk : GG X D Q n ws lv (pc + 3) (v :: st) o) : GG X D Q n ws lv pc (.ref a :: st) o := gg_get C in_X8 rfl 2 (by decide) tw_168 q0 he hv hd kk
theorem pF_X8_26 (C : Cx X D T cc RX8 rm) (hini : (kxM X).name = "<init>") (q0 : Nat) {a v : Nat} {fs : List Value} (he : ws[q0]? = some (a, .inr (5, fs))) (hl : 2 < fs.length) (hd : decode cc pc = .ok (.putfield 26, 3)) (hw : ws.set q0 (a, .inr (5, fs.set 2 (.ref v))) = ws') (kk : GG X D Q n ws' lv (pc + 3) st o) : GG X D Q n ws lv pc (.ref v :: .ref a :: st) o := gg_putF C hini in_X8 tyX8 tyX8_ok nmX8 rfl 2 (by decide) tw_168 rfl rfl q0 rfl rfl he hl hd hw kk
theorem gf_X8_33 (C : Cx X D T cc RX8 rm) (q0 : Nat) {a : Nat} {fs : List Value} {v : Value} (he : ws[q0]? = some (a, .inr (5, fs))) (hv : fs[3]? = some v) (hd : decode cc pc = .ok (.getfield 33, 3)) (kk : GG X D Q n ws lv (pc + 3) (v :: st) o) : GG X D Q n ws lv pc (.ref a :: st) o := gg_get C in_X8 rfl 3 (by decide) tw_169 q0 he hv hd kk
theorem pF_X8_33 (C : Cx X D T cc RX8 rm) (hini : (kxM X).name = "<init>") (q0 : Nat) {a v : Nat} {fs : List Value} (he : ws[q0]? = some (a, .inr (5, fs))) (hl : 3 < fs.length) (hd : decode cc pc = .ok (.putfield 33, 3)) (hw : ws.set q0 (a, .inr (5, fs.set 3 (.ref v))) = ws') (kk : GG X D Q n ws' lv (pc + 3) st o) : GG X D Q n ws lv pc (.ref v :: .ref a :: st) o := gg_putF C hini in_X8 tyX8 tyX8_ok nmX8 rfl 3 (by decide) tw_169 rfl rfl q0 rfl rfl he hl hd hw kk
theorem gf_X8_40 (C : Cx X D T cc RX8 rm) (q0 : Nat) {a : Nat} {fs : List Value} {v : Value} (he : ws[q0]? = some (a, .inr (5, fs))) (hv : fs[4]? = some v) (hd : decode cc pc = .ok (.getfield 40, 3)) (kk : GG X D Q n ws lv (pc + 3) (v :: st) o) : GG X D Q n ws lv pc (.ref a :: st) o := gg_get C in_X8 rfl 4 (by decide) tw_170 q0 he hv hd kk
theorem pF_X8_40 (C : Cx X D T cc RX8 rm) (hini : (kxM X).name = "<init>") (q0 : Nat) {a v : Nat} {fs : List Value} (he : ws[q0]? = some (a, .inr (5, fs))) (hl : 4 < fs.length) (hd : decode cc pc = .ok (.putfield 40, 3)) (hw : ws.set q0 (a, .inr (5, fs.set 4 (.ref v))) = ws') (kk : GG X D Q n ws' lv (pc + 3) st o) : GG X D Q n ws lv pc (.ref v :: .ref a :: st) o := gg_putF C hini in_X8 tyX8 tyX8_ok nmX8 rfl 4 (by decide) tw_170 rfl rfl q0 rfl rfl he hl hd hw kk
theorem gf_X8_44 (C : Cx X D T cc RX8 rm) (q0 : Nat) {a : Nat} {fs : List Value} {v : Value} (he : ws[q0]? = some (a, .inr (5, fs))) (hv : fs[5]? = some v) (hd : decode cc pc = .ok (.getfield 44, 3)) (kk : GG X D Q n ws lv (pc + 3) (v :: st) o) : GG X D Q n ws lv pc (.ref a :: st) o := gg_get C in_X8 rfl 5 (by decide) tw_171 q0 he hv hd kk
theorem pF_X8_44 (C : Cx X D T cc RX8 rm) (hini : (kxM X).name = "<init>") (q0 : Nat) {a v : Nat} {fs : List Value} (he : ws[q0]? = some (a, .inr (5, fs))) (hl : 5 < fs.length) (hd : decode cc pc = .ok (.putfield 44, 3)) (hw : ws.set q0 (a, .inr (5, fs.set 5 (.ref v))) = ws') (kk : GG X D Q n ws' lv (pc + 3) st o) : GG X D Q n ws lv pc (.ref v :: .ref a :: st) o := gg_putF C hini in_X8 tyX8 tyX8_ok nmX8 rfl 5 (by decide) tw_171 rfl rfl q0 rfl rfl he hl hd hw kk
theorem gf_X8_48 (C : Cx X D T cc RX8 rm) (q0 : Nat) {a : Nat} {fs : List Value} {v : Value} (he : ws[q0]? = some (a, .inr (5, fs))) (hv : fs[6]? = some v) (hd : decode cc pc = .ok (.getfield 48, 3)) (kk : GG X D Q n ws lv (pc + 3) (v :: st) o) : GG X D Q n ws lv pc (.ref a :: st) o := gg_get C in_X8 rfl 6 (by decide) tw_172 q0 he hv hd kk
theorem pF_X8_48 (C : Cx X D T cc RX8 rm) (hini : (kxM X).name = "<init>") (q0 : Nat) {a v : Nat} {fs : List Value} (he : ws[q0]? = some (a, .inr (5, fs))) (hl : 6 < fs.length) (hd : decode cc pc = .ok (.putfield 48, 3)) (hw : ws.set q0 (a, .inr (5, fs.set 6 (.ref v))) = ws') (kk : GG X D Q n ws' lv (pc + 3) st o) : GG X D Q n ws lv pc (.ref v :: .ref a :: st) o := gg_putF C hini in_X8 tyX8 tyX8_ok nmX8 rfl 6 (by decide) tw_172 rfl rfl q0 rfl rfl he hl hd hw kk
theorem gf_X8_52 (C : Cx X D T cc RX8 rm) (q0 : Nat) {a : Nat} {fs : List Value} {v : Value} (he : ws[q0]? = some (a, .inr (5, fs))) (hv : fs[7]? = some v) (hd : decode cc pc = .ok (.getfield 52, 3)) (kk : GG X D Q n ws lv (pc + 3) (v :: st) o) : GG X D Q n ws lv pc (.ref a :: st) o := gg_get C in_X8 rfl 7 (by decide) tw_173 q0 he hv hd kk
theorem pF_X8_52 (C : Cx X D T cc RX8 rm) (hini : (kxM X).name = "<init>") (q0 : Nat) {a v : Nat} {fs : List Value} (he : ws[q0]? = some (a, .inr (5, fs))) (hl : 7 < fs.length) (hd : decode cc pc = .ok (.putfield 52, 3)) (hw : ws.set q0 (a, .inr (5, fs.set 7 (.ref v))) = ws') (kk : GG X D Q n ws' lv (pc + 3) st o) : GG X D Q n ws lv pc (.ref v :: .ref a :: st) o := gg_putF C hini in_X8 tyX8 tyX8_ok nmX8 rfl 7 (by decide) tw_173 rfl rfl q0 rfl rfl he hl hd hw kk
theorem gf_X9_7 (C : Cx X D T cc RX9 rm) (q0 : Nat) {a : Nat} {fs : List Value} {v : Value} (he : ws[q0]? = some (a, .inr (6, fs))) (hv : fs[0]? = some v) (hd : decode cc pc = .ok (.getfield 7, 3)) (kk : GG X D Q n ws lv (pc + 3) (v :: st) o) : GG X D Q n ws lv pc (.ref a :: st) o := gg_get C in_X9 rfl 0 (by decide) tw_534 q0 he hv hd kk
theorem pF_X9_7 (C : Cx X D T cc RX9 rm) (hini : (kxM X).name = "<init>") (q0 : Nat) {a v : Nat} {fs : List Value} (he : ws[q0]? = some (a, .inr (6, fs))) (hl : 0 < fs.length) (hd : decode cc pc = .ok (.putfield 7, 3)) (hw : ws.set q0 (a, .inr (6, fs.set 0 (.ref v))) = ws') (kk : GG X D Q n ws' lv (pc + 3) st o) : GG X D Q n ws lv pc (.ref v :: .ref a :: st) o := gg_putF C hini in_X9 tyX9 tyX9_ok nmX9 rfl 0 (by decide) tw_534 rfl rfl q0 rfl rfl he hl hd hw kk
theorem gf_X9_13 (C : Cx X D T cc RX9 rm) (q0 : Nat) {a : Nat} {fs : List Value} {v : Value} (he : ws[q0]? = some (a, .inr (6, fs))) (hv : fs[1]? = some v) (hd : decode cc pc = .ok (.getfield 13, 3)) (kk : GG X D Q n ws lv (pc + 3) (v :: st) o) : GG X D Q n ws lv pc (.ref a :: st) o := gg_get C in_X9 rfl 1 (by decide) tw_535 q0 he hv hd kk
theorem pF_X9_13 (C : Cx X D T cc RX9 rm) (hini : (kxM X).name = "<init>") (q0 : Nat) {a v : Nat} {fs : List Value} (he : ws[q0]? = some (a, .inr (6, fs))) (hl : 1 < fs.length) (hd : decode cc pc = .ok (.putfield 13, 3)) (hw : ws.set q0 (a, .inr (6, fs.set 1 (.ref v))) = ws') (kk : GG X D Q n ws' lv (pc + 3) st o) : GG X D Q n ws lv pc (.ref v :: .ref a :: st) o := gg_putF C hini in_X9 tyX9 tyX9_ok nmX9 rfl 1 (by decide) tw_535 rfl rfl q0 rfl rfl he hl hd hw kk
theorem gf_X9_16 (C : Cx X D T cc RX9 rm) (q0 : Nat) {a : Nat} {fs : List Value} {v : Value} (he : ws[q0]? = some (a, .inr (6, fs))) (hv : fs[2]? = some v) (hd : decode cc pc = .ok (.getfield 16, 3)) (kk : GG X D Q n ws lv (pc + 3) (v :: st) o) : GG X D Q n ws lv pc (.ref a :: st) o := gg_get C in_X9 rfl 2 (by decide) tw_536 q0 he hv hd kk
theorem pF_X9_16 (C : Cx X D T cc RX9 rm) (hini : (kxM X).name = "<init>") (q0 : Nat) {a v : Nat} {fs : List Value} (he : ws[q0]? = some (a, .inr (6, fs))) (hl : 2 < fs.length) (hd : decode cc pc = .ok (.putfield 16, 3)) (hw : ws.set q0 (a, .inr (6, fs.set 2 (.ref v))) = ws') (kk : GG X D Q n ws' lv (pc + 3) st o) : GG X D Q n ws lv pc (.ref v :: .ref a :: st) o := gg_putF C hini in_X9 tyX9 tyX9_ok nmX9 rfl 2 (by decide) tw_536 rfl rfl q0 rfl rfl he hl hd hw kk
theorem gf_X9_19 (C : Cx X D T cc RX9 rm) (q0 : Nat) {a : Nat} {fs : List Value} {v : Value} (he : ws[q0]? = some (a, .inr (6, fs))) (hv : fs[3]? = some v) (hd : decode cc pc = .ok (.getfield 19, 3)) (kk : GG X D Q n ws lv (pc + 3) (v :: st) o) : GG X D Q n ws lv pc (.ref a :: st) o := gg_get C in_X9 rfl 3 (by decide) tw_537 q0 he hv hd kk
theorem pF_X9_19 (C : Cx X D T cc RX9 rm) (hini : (kxM X).name = "<init>") (q0 : Nat) {a v : Nat} {fs : List Value} (he : ws[q0]? = some (a, .inr (6, fs))) (hl : 3 < fs.length) (hd : decode cc pc = .ok (.putfield 19, 3)) (hw : ws.set q0 (a, .inr (6, fs.set 3 (.ref v))) = ws') (kk : GG X D Q n ws' lv (pc + 3) st o) : GG X D Q n ws lv pc (.ref v :: .ref a :: st) o := gg_putF C hini in_X9 tyX9 tyX9_ok nmX9 rfl 3 (by decide) tw_537 rfl rfl q0 rfl rfl he hl hd hw kk
theorem gf_X9_22 (C : Cx X D T cc RX9 rm) (q0 : Nat) {a : Nat} {fs : List Value} {v : Value} (he : ws[q0]? = some (a, .inr (6, fs))) (hv : fs[4]? = some v) (hd : decode cc pc = .ok (.getfield 22, 3)) (kk : GG X D Q n ws lv (pc + 3) (v :: st) o) : GG X D Q n ws lv pc (.ref a :: st) o := gg_get C in_X9 rfl 4 (by decide) tw_538 q0 he hv hd kk
theorem pF_X9_22 (C : Cx X D T cc RX9 rm) (hini : (kxM X).name = "<init>") (q0 : Nat) {a v : Nat} {fs : List Value} (he : ws[q0]? = some (a, .inr (6, fs))) (hl : 4 < fs.length) (hd : decode cc pc = .ok (.putfield 22, 3)) (hw : ws.set q0 (a, .inr (6, fs.set 4 (.ref v))) = ws') (kk : GG X D Q n ws' lv (pc + 3) st o) : GG X D Q n ws lv pc (.ref v :: .ref a :: st) o := gg_putF C hini in_X9 tyX9 tyX9_ok nmX9 rfl 4 (by decide) tw_538 rfl rfl q0 rfl rfl he hl hd hw kk
theorem gf_X9_25 (C : Cx X D T cc RX9 rm) (q0 : Nat) {a : Nat} {fs : List Value} {v : Value} (he : ws[q0]? = some (a, .inr (6, fs))) (hv : fs[5]? = some v) (hd : decode cc pc = .ok (.getfield 25, 3)) (kk : GG X D Q n ws lv (pc + 3) (v :: st) o) : GG X D Q n ws lv pc (.ref a :: st) o := gg_get C in_X9 rfl 5 (by decide) tw_539 q0 he hv hd kk
theorem pF_X9_25 (C : Cx X D T cc RX9 rm) (hini : (kxM X).name = "<init>") (q0 : Nat) {a v : Nat} {fs : List Value} (he : ws[q0]? = some (a, .inr (6, fs))) (hl : 5 < fs.length) (hd : decode cc pc = .ok (.putfield 25, 3)) (hw : ws.set q0 (a, .inr (6, fs.set 5 (.ref v))) = ws') (kk : GG X D Q n ws' lv (pc + 3) st o) : GG X D Q n ws lv pc (.ref v :: .ref a :: st) o := gg_putF C hini in_X9 tyX9 tyX9_ok nmX9 rfl 5 (by decide) tw_539 rfl rfl q0 rfl rfl he hl hd hw kk
theorem gf_X9_28 (C : Cx X D T cc RX9 rm) (q0 : Nat) {a : Nat} {fs : List Value} {v : Value} (he : ws[q0]? = some (a, .inr (6, fs))) (hv : fs[6]? = some v) (hd : decode cc pc = .ok (.getfield 28, 3)) (kk : GG X D Q n ws lv (pc + 3) (v :: st) o) : GG X D Q n ws lv pc (.ref a :: st) o := gg_get C in_X9 rfl 6 (by decide) tw_540 q0 he hv hd kk
theorem pF_X9_28 (C : Cx X D T cc RX9 rm) (hini : (kxM X).name = "<init>") (q0 : Nat) {a v : Nat} {fs : List Value} (he : ws[q0]? = some (a, .inr (6, fs))) (hl : 6 < fs.length) (hd : decode cc pc = .ok (.putfield 28, 3)) (hw : ws.set q0 (a, .inr (6, fs.set 6 (.ref v))) = ws') (kk : GG X D Q n ws' lv (pc + 3) st o) : GG X D Q n ws lv pc (.ref v :: .ref a :: st) o := gg_putF C hini in_X9 tyX9 tyX9_ok nmX9 rfl 6 (by decide) tw_540 rfl rfl q0 rfl rfl he hl hd hw kk
theorem gf_X9_129 (C : Cx X D T cc RX9 rm) (q0 : Nat) {a : Nat} {fs : List Value} {v : Value} (he : ws[q0]? = some (a, .inr (6, fs))) (hv : fs[7]? = some v) (hd : decode cc pc = .ok (.getfield 129, 3)) (kk : GG X D Q n ws lv (pc + 3) (v :: st) o) : GG X D Q n ws lv pc (.ref a :: st) o := gg_get C in_X9 rfl 7 (by decide) tw_541 q0 he hv hd kk
theorem pf_X9_129 (C : Cx X D T cc RX9 rm) (q0 : Nat) {a : Nat} {fs : List Value} {v : Int32} (he : ws[q0]? = some (a, .inr (6, fs))) (hl : 7 < fs.length) (hd : decode cc pc = .ok (.putfield 129, 3)) (hw : ws.set q0 (a, .inr (6, fs.set 7 (.int v))) = ws') (kk : GG X D Q n ws' lv (pc + 3) st o) : GG X D Q n ws lv pc (.int v :: .ref a :: st) o := gg_put C in_X9 tyX9 tyX9_ok nmX9 rfl 7 (by decide) tw_541 rfl q0 rfl rfl he hl hd hw kk
theorem gf_X9_31 (C : Cx X D T cc RX9 rm) (q0 : Nat) {a : Nat} {fs : List Value} {v : Value} (he : ws[q0]? = some (a, .inr (6, fs))) (hv : fs[8]? = some v) (hd : decode cc pc = .ok (.getfield 31, 3)) (kk : GG X D Q n ws lv (pc + 3) (v :: st) o) : GG X D Q n ws lv pc (.ref a :: st) o := gg_get C in_X9 rfl 8 (by decide) tw_542 q0 he hv hd kk
theorem pF_X9_31 (C : Cx X D T cc RX9 rm) (hini : (kxM X).name = "<init>") (q0 : Nat) {a v : Nat} {fs : List Value} (he : ws[q0]? = some (a, .inr (6, fs))) (hl : 8 < fs.length) (hd : decode cc pc = .ok (.putfield 31, 3)) (hw : ws.set q0 (a, .inr (6, fs.set 8 (.ref v))) = ws') (kk : GG X D Q n ws' lv (pc + 3) st o) : GG X D Q n ws lv pc (.ref v :: .ref a :: st) o := gg_putF C hini in_X9 tyX9 tyX9_ok nmX9 rfl 8 (by decide) tw_542 rfl rfl q0 rfl rfl he hl hd hw kk
theorem gf_X9_34 (C : Cx X D T cc RX9 rm) (q0 : Nat) {a : Nat} {fs : List Value} {v : Value} (he : ws[q0]? = some (a, .inr (6, fs))) (hv : fs[9]? = some v) (hd : decode cc pc = .ok (.getfield 34, 3)) (kk : GG X D Q n ws lv (pc + 3) (v :: st) o) : GG X D Q n ws lv pc (.ref a :: st) o := gg_get C in_X9 rfl 9 (by decide) tw_543 q0 he hv hd kk
theorem pF_X9_34 (C : Cx X D T cc RX9 rm) (hini : (kxM X).name = "<init>") (q0 : Nat) {a v : Nat} {fs : List Value} (he : ws[q0]? = some (a, .inr (6, fs))) (hl : 9 < fs.length) (hd : decode cc pc = .ok (.putfield 34, 3)) (hw : ws.set q0 (a, .inr (6, fs.set 9 (.ref v))) = ws') (kk : GG X D Q n ws' lv (pc + 3) st o) : GG X D Q n ws lv pc (.ref v :: .ref a :: st) o := gg_putF C hini in_X9 tyX9 tyX9_ok nmX9 rfl 9 (by decide) tw_543 rfl rfl q0 rfl rfl he hl hd hw kk
theorem gf_X9_37 (C : Cx X D T cc RX9 rm) (q0 : Nat) {a : Nat} {fs : List Value} {v : Value} (he : ws[q0]? = some (a, .inr (6, fs))) (hv : fs[10]? = some v) (hd : decode cc pc = .ok (.getfield 37, 3)) (kk : GG X D Q n ws lv (pc + 3) (v :: st) o) : GG X D Q n ws lv pc (.ref a :: st) o := gg_get C in_X9 rfl 10 (by decide) tw_544 q0 he hv hd kk
theorem pF_X9_37 (C : Cx X D T cc RX9 rm) (hini : (kxM X).name = "<init>") (q0 : Nat) {a v : Nat} {fs : List Value} (he : ws[q0]? = some (a, .inr (6, fs))) (hl : 10 < fs.length) (hd : decode cc pc = .ok (.putfield 37, 3)) (hw : ws.set q0 (a, .inr (6, fs.set 10 (.ref v))) = ws') (kk : GG X D Q n ws' lv (pc + 3) st o) : GG X D Q n ws lv pc (.ref v :: .ref a :: st) o := gg_putF C hini in_X9 tyX9 tyX9_ok nmX9 rfl 10 (by decide) tw_544 rfl rfl q0 rfl rfl he hl hd hw kk
theorem gf_X9_250 (C : Cx X D T cc RX9 rm) (q0 : Nat) {a : Nat} {fs : List Value} {v : Value} (he : ws[q0]? = some (a, .inr (6, fs))) (hv : fs[11]? = some v) (hd : decode cc pc = .ok (.getfield 250, 3)) (kk : GG X D Q n ws lv (pc + 3) (v :: st) o) : GG X D Q n ws lv pc (.ref a :: st) o := gg_get C in_X9 rfl 11 (by decide) tw_545 q0 he hv hd kk
theorem pf_X9_250 (C : Cx X D T cc RX9 rm) (q0 : Nat) {a : Nat} {fs : List Value} {v : Int32} (he : ws[q0]? = some (a, .inr (6, fs))) (hl : 11 < fs.length) (hd : decode cc pc = .ok (.putfield 250, 3)) (hw : ws.set q0 (a, .inr (6, fs.set 11 (.int v))) = ws') (kk : GG X D Q n ws' lv (pc + 3) st o) : GG X D Q n ws lv pc (.int v :: .ref a :: st) o := gg_put C in_X9 tyX9 tyX9_ok nmX9 rfl 11 (by decide) tw_545 rfl q0 rfl rfl he hl hd hw kk
theorem gf_X9_40 (C : Cx X D T cc RX9 rm) (q0 : Nat) {a : Nat} {fs : List Value} {v : Value} (he : ws[q0]? = some (a, .inr (6, fs))) (hv : fs[12]? = some v) (hd : decode cc pc = .ok (.getfield 40, 3)) (kk : GG X D Q n ws lv (pc + 3) (v :: st) o) : GG X D Q n ws lv pc (.ref a :: st) o := gg_get C in_X9 rfl 12 (by decide) tw_546 q0 he hv hd kk
theorem pF_X9_40 (C : Cx X D T cc RX9 rm) (hini : (kxM X).name = "<init>") (q0 : Nat) {a v : Nat} {fs : List Value} (he : ws[q0]? = some (a, .inr (6, fs))) (hl : 12 < fs.length) (hd : decode cc pc = .ok (.putfield 40, 3)) (hw : ws.set q0 (a, .inr (6, fs.set 12 (.ref v))) = ws') (kk : GG X D Q n ws' lv (pc + 3) st o) : GG X D Q n ws lv pc (.ref v :: .ref a :: st) o := gg_putF C hini in_X9 tyX9 tyX9_ok nmX9 rfl 12 (by decide) tw_546 rfl rfl q0 rfl rfl he hl hd hw kk
theorem gf_X9_97 (C : Cx X D T cc RX9 rm) (q0 : Nat) {a : Nat} {fs : List Value} {v : Value} (he : ws[q0]? = some (a, .inr (6, fs))) (hv : fs[13]? = some v) (hd : decode cc pc = .ok (.getfield 97, 3)) (kk : GG X D Q n ws lv (pc + 3) (v :: st) o) : GG X D Q n ws lv pc (.ref a :: st) o := gg_get C in_X9 rfl 13 (by decide) tw_547 q0 he hv hd kk
theorem pf_X9_97 (C : Cx X D T cc RX9 rm) (q0 : Nat) {a : Nat} {fs : List Value} {v : Int32} (he : ws[q0]? = some (a, .inr (6, fs))) (hl : 13 < fs.length) (hd : decode cc pc = .ok (.putfield 97, 3)) (hw : ws.set q0 (a, .inr (6, fs.set 13 (.int v))) = ws') (kk : GG X D Q n ws' lv (pc + 3) st o) : GG X D Q n ws lv pc (.int v :: .ref a :: st) o := gg_put C in_X9 tyX9 tyX9_ok nmX9 rfl 13 (by decide) tw_547 rfl q0 rfl rfl he hl hd hw kk
theorem gf_X9_43 (C : Cx X D T cc RX9 rm) (q0 : Nat) {a : Nat} {fs : List Value} {v : Value} (he : ws[q0]? = some (a, .inr (6, fs))) (hv : fs[14]? = some v) (hd : decode cc pc = .ok (.getfield 43, 3)) (kk : GG X D Q n ws lv (pc + 3) (v :: st) o) : GG X D Q n ws lv pc (.ref a :: st) o := gg_get C in_X9 rfl 14 (by decide) tw_548 q0 he hv hd kk
theorem pF_X9_43 (C : Cx X D T cc RX9 rm) (hini : (kxM X).name = "<init>") (q0 : Nat) {a v : Nat} {fs : List Value} (he : ws[q0]? = some (a, .inr (6, fs))) (hl : 14 < fs.length) (hd : decode cc pc = .ok (.putfield 43, 3)) (hw : ws.set q0 (a, .inr (6, fs.set 14 (.ref v))) = ws') (kk : GG X D Q n ws' lv (pc + 3) st o) : GG X D Q n ws lv pc (.ref v :: .ref a :: st) o := gg_putF C hini in_X9 tyX9 tyX9_ok nmX9 rfl 14 (by decide) tw_548 rfl rfl q0 rfl rfl he hl hd hw kk
theorem gf_X9_46 (C : Cx X D T cc RX9 rm) (q0 : Nat) {a : Nat} {fs : List Value} {v : Value} (he : ws[q0]? = some (a, .inr (6, fs))) (hv : fs[15]? = some v) (hd : decode cc pc = .ok (.getfield 46, 3)) (kk : GG X D Q n ws lv (pc + 3) (v :: st) o) : GG X D Q n ws lv pc (.ref a :: st) o := gg_get C in_X9 rfl 15 (by decide) tw_549 q0 he hv hd kk
theorem pF_X9_46 (C : Cx X D T cc RX9 rm) (hini : (kxM X).name = "<init>") (q0 : Nat) {a v : Nat} {fs : List Value} (he : ws[q0]? = some (a, .inr (6, fs))) (hl : 15 < fs.length) (hd : decode cc pc = .ok (.putfield 46, 3)) (hw : ws.set q0 (a, .inr (6, fs.set 15 (.ref v))) = ws') (kk : GG X D Q n ws' lv (pc + 3) st o) : GG X D Q n ws lv pc (.ref v :: .ref a :: st) o := gg_putF C hini in_X9 tyX9 tyX9_ok nmX9 rfl 15 (by decide) tw_549 rfl rfl q0 rfl rfl he hl hd hw kk
theorem gf_X9_49 (C : Cx X D T cc RX9 rm) (q0 : Nat) {a : Nat} {fs : List Value} {v : Value} (he : ws[q0]? = some (a, .inr (6, fs))) (hv : fs[16]? = some v) (hd : decode cc pc = .ok (.getfield 49, 3)) (kk : GG X D Q n ws lv (pc + 3) (v :: st) o) : GG X D Q n ws lv pc (.ref a :: st) o := gg_get C in_X9 rfl 16 (by decide) tw_550 q0 he hv hd kk
theorem pF_X9_49 (C : Cx X D T cc RX9 rm) (hini : (kxM X).name = "<init>") (q0 : Nat) {a v : Nat} {fs : List Value} (he : ws[q0]? = some (a, .inr (6, fs))) (hl : 16 < fs.length) (hd : decode cc pc = .ok (.putfield 49, 3)) (hw : ws.set q0 (a, .inr (6, fs.set 16 (.ref v))) = ws') (kk : GG X D Q n ws' lv (pc + 3) st o) : GG X D Q n ws lv pc (.ref v :: .ref a :: st) o := gg_putF C hini in_X9 tyX9 tyX9_ok nmX9 rfl 16 (by decide) tw_550 rfl rfl q0 rfl rfl he hl hd hw kk
theorem gf_X9_101 (C : Cx X D T cc RX9 rm) (q0 : Nat) {a : Nat} {fs : List Value} {v : Value} (he : ws[q0]? = some (a, .inr (6, fs))) (hv : fs[17]? = some v) (hd : decode cc pc = .ok (.getfield 101, 3)) (kk : GG X D Q n ws lv (pc + 3) (v :: st) o) : GG X D Q n ws lv pc (.ref a :: st) o := gg_get C in_X9 rfl 17 (by decide) tw_551 q0 he hv hd kk
theorem pf_X9_101 (C : Cx X D T cc RX9 rm) (q0 : Nat) {a : Nat} {fs : List Value} {v : Int32} (he : ws[q0]? = some (a, .inr (6, fs))) (hl : 17 < fs.length) (hd : decode cc pc = .ok (.putfield 101, 3)) (hw : ws.set q0 (a, .inr (6, fs.set 17 (.int v))) = ws') (kk : GG X D Q n ws' lv (pc + 3) st o) : GG X D Q n ws lv pc (.int v :: .ref a :: st) o := gg_put C in_X9 tyX9 tyX9_ok nmX9 rfl 17 (by decide) tw_551 rfl q0 rfl rfl he hl hd hw kk
theorem gf_X9_135 (C : Cx X D T cc RX9 rm) (q0 : Nat) {a : Nat} {fs : List Value} {v : Value} (he : ws[q0]? = some (a, .inr (6, fs))) (hv : fs[18]? = some v) (hd : decode cc pc = .ok (.getfield 135, 3)) (kk : GG X D Q n ws lv (pc + 3) (v :: st) o) : GG X D Q n ws lv pc (.ref a :: st) o := gg_get C in_X9 rfl 18 (by decide) tw_552 q0 he hv hd kk
theorem pf_X9_135 (C : Cx X D T cc RX9 rm) (q0 : Nat) {a : Nat} {fs : List Value} {v : Int32} (he : ws[q0]? = some (a, .inr (6, fs))) (hl : 18 < fs.length) (hd : decode cc pc = .ok (.putfield 135, 3)) (hw : ws.set q0 (a, .inr (6, fs.set 18 (.int v))) = ws') (kk : GG X D Q n ws' lv (pc + 3) st o) : GG X D Q n ws lv pc (.int v :: .ref a :: st) o := gg_put C in_X9 tyX9 tyX9_ok nmX9 rfl 18 (by decide) tw_552 rfl q0 rfl rfl he hl hd hw kk
theorem gf_X9_141 (C : Cx X D T cc RX9 rm) (q0 : Nat) {a : Nat} {fs : List Value} {v : Value} (he : ws[q0]? = some (a, .inr (6, fs))) (hv : fs[19]? = some v) (hd : decode cc pc = .ok (.getfield 141, 3)) (kk : GG X D Q n ws lv (pc + 3) (v :: st) o) : GG X D Q n ws lv pc (.ref a :: st) o := gg_get C in_X9 rfl 19 (by decide) tw_553 q0 he hv hd kk
theorem pf_X9_141 (C : Cx X D T cc RX9 rm) (q0 : Nat) {a : Nat} {fs : List Value} {v : Int32} (he : ws[q0]? = some (a, .inr (6, fs))) (hl : 19 < fs.length) (hd : decode cc pc = .ok (.putfield 141, 3)) (hw : ws.set q0 (a, .inr (6, fs.set 19 (.int v))) = ws') (kk : GG X D Q n ws' lv (pc + 3) st o) : GG X D Q n ws lv pc (.int v :: .ref a :: st) o := gg_put C in_X9 tyX9 tyX9_ok nmX9 rfl 19 (by decide) tw_553 rfl q0 rfl rfl he hl hd hw kk
theorem gf_X9_52 (C : Cx X D T cc RX9 rm) (q0 : Nat) {a : Nat} {fs : List Value} {v : Value} (he : ws[q0]? = some (a, .inr (6, fs))) (hv : fs[20]? = some v) (hd : decode cc pc = .ok (.getfield 52, 3)) (kk : GG X D Q n ws lv (pc + 3) (v :: st) o) : GG X D Q n ws lv pc (.ref a :: st) o := gg_get C in_X9 rfl 20 (by decide) tw_554 q0 he hv hd kk
theorem pF_X9_52 (C : Cx X D T cc RX9 rm) (hini : (kxM X).name = "<init>") (q0 : Nat) {a v : Nat} {fs : List Value} (he : ws[q0]? = some (a, .inr (6, fs))) (hl : 20 < fs.length) (hd : decode cc pc = .ok (.putfield 52, 3)) (hw : ws.set q0 (a, .inr (6, fs.set 20 (.ref v))) = ws') (kk : GG X D Q n ws' lv (pc + 3) st o) : GG X D Q n ws lv pc (.ref v :: .ref a :: st) o := gg_putF C hini in_X9 tyX9 tyX9_ok nmX9 rfl 20 (by decide) tw_554 rfl rfl q0 rfl rfl he hl hd hw kk
theorem gf_X9_167 (C : Cx X D T cc RX9 rm) (q0 : Nat) {a : Nat} {fs : List Value} {v : Value} (he : ws[q0]? = some (a, .inr (6, fs))) (hv : fs[21]? = some v) (hd : decode cc pc = .ok (.getfield 167, 3)) (kk : GG X D Q n ws lv (pc + 3) (v :: st) o) : GG X D Q n ws lv pc (.ref a :: st) o := gg_get C in_X9 rfl 21 (by decide) tw_555 q0 he hv hd kk
theorem pf_X9_167 (C : Cx X D T cc RX9 rm) (q0 : Nat) {a : Nat} {fs : List Value} {v : Int32} (he : ws[q0]? = some (a, .inr (6, fs))) (hl : 21 < fs.length) (hd : decode cc pc = .ok (.putfield 167, 3)) (hw : ws.set q0 (a, .inr (6, fs.set 21 (.int v))) = ws') (kk : GG X D Q n ws' lv (pc + 3) st o) : GG X D Q n ws lv pc (.int v :: .ref a :: st) o := gg_put C in_X9 tyX9 tyX9_ok nmX9 rfl 21 (by decide) tw_555 rfl q0 rfl rfl he hl hd hw kk
theorem gf_X9_170 (C : Cx X D T cc RX9 rm) (q0 : Nat) {a : Nat} {fs : List Value} {v : Value} (he : ws[q0]? = some (a, .inr (6, fs))) (hv : fs[22]? = some v) (hd : decode cc pc = .ok (.getfield 170, 3)) (kk : GG X D Q n ws lv (pc + 3) (v :: st) o) : GG X D Q n ws lv pc (.ref a :: st) o := gg_get C in_X9 rfl 22 (by decide) tw_556 q0 he hv hd kk
theorem pf_X9_170 (C : Cx X D T cc RX9 rm) (q0 : Nat) {a : Nat} {fs : List Value} {v : Int32} (he : ws[q0]? = some (a, .inr (6, fs))) (hl : 22 < fs.length) (hd : decode cc pc = .ok (.putfield 170, 3)) (hw : ws.set q0 (a, .inr (6, fs.set 22 (.int v))) = ws') (kk : GG X D Q n ws' lv (pc + 3) st o) : GG X D Q n ws lv pc (.int v :: .ref a :: st) o := gg_put C in_X9 tyX9 tyX9_ok nmX9 rfl 22 (by decide) tw_556 rfl q0 rfl rfl he hl hd hw kk
theorem gf_X9_161 (C : Cx X D T cc RX9 rm) (q0 : Nat) {a : Nat} {fs : List Value} {v : Value} (he : ws[q0]? = some (a, .inr (6, fs))) (hv : fs[23]? = some v) (hd : decode cc pc = .ok (.getfield 161, 3)) (kk : GG X D Q n ws lv (pc + 3) (v :: st) o) : GG X D Q n ws lv pc (.ref a :: st) o := gg_get C in_X9 rfl 23 (by decide) tw_557 q0 he hv hd kk
theorem pf_X9_161 (C : Cx X D T cc RX9 rm) (q0 : Nat) {a : Nat} {fs : List Value} {v : Int32} (he : ws[q0]? = some (a, .inr (6, fs))) (hl : 23 < fs.length) (hd : decode cc pc = .ok (.putfield 161, 3)) (hw : ws.set q0 (a, .inr (6, fs.set 23 (.int v))) = ws') (kk : GG X D Q n ws' lv (pc + 3) st o) : GG X D Q n ws lv pc (.int v :: .ref a :: st) o := gg_put C in_X9 tyX9 tyX9_ok nmX9 rfl 23 (by decide) tw_557 rfl q0 rfl rfl he hl hd hw kk
theorem gf_X9_164 (C : Cx X D T cc RX9 rm) (q0 : Nat) {a : Nat} {fs : List Value} {v : Value} (he : ws[q0]? = some (a, .inr (6, fs))) (hv : fs[24]? = some v) (hd : decode cc pc = .ok (.getfield 164, 3)) (kk : GG X D Q n ws lv (pc + 3) (v :: st) o) : GG X D Q n ws lv pc (.ref a :: st) o := gg_get C in_X9 rfl 24 (by decide) tw_558 q0 he hv hd kk
theorem pf_X9_164 (C : Cx X D T cc RX9 rm) (q0 : Nat) {a : Nat} {fs : List Value} {v : Int32} (he : ws[q0]? = some (a, .inr (6, fs))) (hl : 24 < fs.length) (hd : decode cc pc = .ok (.putfield 164, 3)) (hw : ws.set q0 (a, .inr (6, fs.set 24 (.int v))) = ws') (kk : GG X D Q n ws' lv (pc + 3) st o) : GG X D Q n ws lv pc (.int v :: .ref a :: st) o := gg_put C in_X9 tyX9 tyX9_ok nmX9 rfl 24 (by decide) tw_558 rfl q0 rfl rfl he hl hd hw kk
theorem gf_X9_55 (C : Cx X D T cc RX9 rm) (q0 : Nat) {a : Nat} {fs : List Value} {v : Value} (he : ws[q0]? = some (a, .inr (6, fs))) (hv : fs[25]? = some v) (hd : decode cc pc = .ok (.getfield 55, 3)) (kk : GG X D Q n ws lv (pc + 3) (v :: st) o) : GG X D Q n ws lv pc (.ref a :: st) o := gg_get C in_X9 rfl 25 (by decide) tw_559 q0 he hv hd kk
theorem pF_X9_55 (C : Cx X D T cc RX9 rm) (hini : (kxM X).name = "<init>") (q0 : Nat) {a v : Nat} {fs : List Value} (he : ws[q0]? = some (a, .inr (6, fs))) (hl : 25 < fs.length) (hd : decode cc pc = .ok (.putfield 55, 3)) (hw : ws.set q0 (a, .inr (6, fs.set 25 (.ref v))) = ws') (kk : GG X D Q n ws' lv (pc + 3) st o) : GG X D Q n ws lv pc (.ref v :: .ref a :: st) o := gg_putF C hini in_X9 tyX9 tyX9_ok nmX9 rfl 25 (by decide) tw_559 rfl rfl q0 rfl rfl he hl hd hw kk
theorem gf_X9_58 (C : Cx X D T cc RX9 rm) (q0 : Nat) {a : Nat} {fs : List Value} {v : Value} (he : ws[q0]? = some (a, .inr (6, fs))) (hv : fs[26]? = some v) (hd : decode cc pc = .ok (.getfield 58, 3)) (kk : GG X D Q n ws lv (pc + 3) (v :: st) o) : GG X D Q n ws lv pc (.ref a :: st) o := gg_get C in_X9 rfl 26 (by decide) tw_560 q0 he hv hd kk
theorem pF_X9_58 (C : Cx X D T cc RX9 rm) (hini : (kxM X).name = "<init>") (q0 : Nat) {a v : Nat} {fs : List Value} (he : ws[q0]? = some (a, .inr (6, fs))) (hl : 26 < fs.length) (hd : decode cc pc = .ok (.putfield 58, 3)) (hw : ws.set q0 (a, .inr (6, fs.set 26 (.ref v))) = ws') (kk : GG X D Q n ws' lv (pc + 3) st o) : GG X D Q n ws lv pc (.ref v :: .ref a :: st) o := gg_putF C hini in_X9 tyX9 tyX9_ok nmX9 rfl 26 (by decide) tw_560 rfl rfl q0 rfl rfl he hl hd hw kk
theorem gf_X9_61 (C : Cx X D T cc RX9 rm) (q0 : Nat) {a : Nat} {fs : List Value} {v : Value} (he : ws[q0]? = some (a, .inr (6, fs))) (hv : fs[27]? = some v) (hd : decode cc pc = .ok (.getfield 61, 3)) (kk : GG X D Q n ws lv (pc + 3) (v :: st) o) : GG X D Q n ws lv pc (.ref a :: st) o := gg_get C in_X9 rfl 27 (by decide) tw_561 q0 he hv hd kk
theorem pF_X9_61 (C : Cx X D T cc RX9 rm) (hini : (kxM X).name = "<init>") (q0 : Nat) {a v : Nat} {fs : List Value} (he : ws[q0]? = some (a, .inr (6, fs))) (hl : 27 < fs.length) (hd : decode cc pc = .ok (.putfield 61, 3)) (hw : ws.set q0 (a, .inr (6, fs.set 27 (.ref v))) = ws') (kk : GG X D Q n ws' lv (pc + 3) st o) : GG X D Q n ws lv pc (.ref v :: .ref a :: st) o := gg_putF C hini in_X9 tyX9 tyX9_ok nmX9 rfl 27 (by decide) tw_561 rfl rfl q0 rfl rfl he hl hd hw kk
theorem gf_X9_64 (C : Cx X D T cc RX9 rm) (q0 : Nat) {a : Nat} {fs : List Value} {v : Value} (he : ws[q0]? = some (a, .inr (6, fs))) (hv : fs[28]? = some v) (hd : decode cc pc = .ok (.getfield 64, 3)) (kk : GG X D Q n ws lv (pc + 3) (v :: st) o) : GG X D Q n ws lv pc (.ref a :: st) o := gg_get C in_X9 rfl 28 (by decide) tw_562 q0 he hv hd kk
theorem pF_X9_64 (C : Cx X D T cc RX9 rm) (hini : (kxM X).name = "<init>") (q0 : Nat) {a v : Nat} {fs : List Value} (he : ws[q0]? = some (a, .inr (6, fs))) (hl : 28 < fs.length) (hd : decode cc pc = .ok (.putfield 64, 3)) (hw : ws.set q0 (a, .inr (6, fs.set 28 (.ref v))) = ws') (kk : GG X D Q n ws' lv (pc + 3) st o) : GG X D Q n ws lv pc (.ref v :: .ref a :: st) o := gg_putF C hini in_X9 tyX9 tyX9_ok nmX9 rfl 28 (by decide) tw_562 rfl rfl q0 rfl rfl he hl hd hw kk
theorem gf_X9_68 (C : Cx X D T cc RX9 rm) (q0 : Nat) {a : Nat} {fs : List Value} {v : Value} (he : ws[q0]? = some (a, .inr (6, fs))) (hv : fs[29]? = some v) (hd : decode cc pc = .ok (.getfield 68, 3)) (kk : GG X D Q n ws lv (pc + 3) (v :: st) o) : GG X D Q n ws lv pc (.ref a :: st) o := gg_get C in_X9 rfl 29 (by decide) tw_563 q0 he hv hd kk
theorem pF_X9_68 (C : Cx X D T cc RX9 rm) (hini : (kxM X).name = "<init>") (q0 : Nat) {a v : Nat} {fs : List Value} (he : ws[q0]? = some (a, .inr (6, fs))) (hl : 29 < fs.length) (hd : decode cc pc = .ok (.putfield 68, 3)) (hw : ws.set q0 (a, .inr (6, fs.set 29 (.ref v))) = ws') (kk : GG X D Q n ws' lv (pc + 3) st o) : GG X D Q n ws lv pc (.ref v :: .ref a :: st) o := gg_putF C hini in_X9 tyX9 tyX9_ok nmX9 rfl 29 (by decide) tw_563 rfl rfl q0 rfl rfl he hl hd hw kk
theorem gf_X9_71 (C : Cx X D T cc RX9 rm) (q0 : Nat) {a : Nat} {fs : List Value} {v : Value} (he : ws[q0]? = some (a, .inr (6, fs))) (hv : fs[30]? = some v) (hd : decode cc pc = .ok (.getfield 71, 3)) (kk : GG X D Q n ws lv (pc + 3) (v :: st) o) : GG X D Q n ws lv pc (.ref a :: st) o := gg_get C in_X9 rfl 30 (by decide) tw_564 q0 he hv hd kk
theorem pF_X9_71 (C : Cx X D T cc RX9 rm) (hini : (kxM X).name = "<init>") (q0 : Nat) {a v : Nat} {fs : List Value} (he : ws[q0]? = some (a, .inr (6, fs))) (hl : 30 < fs.length) (hd : decode cc pc = .ok (.putfield 71, 3)) (hw : ws.set q0 (a, .inr (6, fs.set 30 (.ref v))) = ws') (kk : GG X D Q n ws' lv (pc + 3) st o) : GG X D Q n ws lv pc (.ref v :: .ref a :: st) o := gg_putF C hini in_X9 tyX9 tyX9_ok nmX9 rfl 30 (by decide) tw_564 rfl rfl q0 rfl rfl he hl hd hw kk
theorem gf_X9_292 (C : Cx X D T cc RX9 rm) (q0 : Nat) {a : Nat} {fs : List Value} {v : Value} (he : ws[q0]? = some (a, .inr (6, fs))) (hv : fs[31]? = some v) (hd : decode cc pc = .ok (.getfield 292, 3)) (kk : GG X D Q n ws lv (pc + 3) (v :: st) o) : GG X D Q n ws lv pc (.ref a :: st) o := gg_get C in_X9 rfl 31 (by decide) tw_565 q0 he hv hd kk
theorem pf_X9_292 (C : Cx X D T cc RX9 rm) (q0 : Nat) {a : Nat} {fs : List Value} {v : Int32} (he : ws[q0]? = some (a, .inr (6, fs))) (hl : 31 < fs.length) (hd : decode cc pc = .ok (.putfield 292, 3)) (hw : ws.set q0 (a, .inr (6, fs.set 31 (.int v))) = ws') (kk : GG X D Q n ws' lv (pc + 3) st o) : GG X D Q n ws lv pc (.int v :: .ref a :: st) o := gg_put C in_X9 tyX9 tyX9_ok nmX9 rfl 31 (by decide) tw_565 rfl q0 rfl rfl he hl hd hw kk
theorem gf_X9_288 (C : Cx X D T cc RX9 rm) (q0 : Nat) {a : Nat} {fs : List Value} {v : Value} (he : ws[q0]? = some (a, .inr (6, fs))) (hv : fs[32]? = some v) (hd : decode cc pc = .ok (.getfield 288, 3)) (kk : GG X D Q n ws lv (pc + 3) (v :: st) o) : GG X D Q n ws lv pc (.ref a :: st) o := gg_get C in_X9 rfl 32 (by decide) tw_566 q0 he hv hd kk
theorem pf_X9_288 (C : Cx X D T cc RX9 rm) (q0 : Nat) {a : Nat} {fs : List Value} {v : Int32} (hn : narrow .boolean (.int v) = .int v) (hf : fits .boolean (.int v) = true) (he : ws[q0]? = some (a, .inr (6, fs))) (hl : 32 < fs.length) (hd : decode cc pc = .ok (.putfield 288, 3)) (hw : ws.set q0 (a, .inr (6, fs.set 32 (.int v))) = ws') (kk : GG X D Q n ws' lv (pc + 3) st o) : GG X D Q n ws lv pc (.int v :: .ref a :: st) o := gg_put C in_X9 tyX9 tyX9_ok nmX9 rfl 32 (by decide) tw_566 rfl q0 hn hf he hl hd hw kk
end GF
theorem lk_L_9 : LkI RL 9 yX8_init cX8_init 2 0 := ⟨⟨tw_15, tw_16, tw_1, tw_17⟩, rfl, by decide +kernel, by decide +kernel, by decide +kernel⟩
theorem lk_X8_9 : LkI RX8 9 yX0_init cX0_init 2 0 := ⟨⟨tw_23, tw_24, tw_2, tw_25⟩, rfl, by decide +kernel, by decide +kernel, by decide +kernel⟩
theorem lk_X8_18 : LkI RX8 18 yX6_init cX6_init 1 0 := ⟨⟨tw_63, tw_64, tw_3, tw_65⟩, rfl, by decide +kernel, by decide +kernel, by decide +kernel⟩
theorem lk_X8_25 : LkI RX8 25 yX2_init cX2_init 1 0 := ⟨⟨tw_95, tw_96, tw_4, tw_97⟩, rfl, by decide +kernel, by decide +kernel, by decide +kernel⟩
theorem lk_X8_32 : LkI RX8 32 yX7_init cX7_init 1 0 := ⟨⟨tw_111, tw_112, tw_5, tw_113⟩, rfl, by decide +kernel, by decide +kernel, by decide +kernel⟩
theorem lk_X7_11 : LkI RX7 11 yX0_init cX0_init 2 0 := ⟨⟨tw_116, tw_24, tw_2, tw_25⟩, rfl, by decide +kernel, by decide +kernel, by decide +kernel⟩
theorem lk_X8_39 : LkI RX8 39 yX4_init cX4_init 1 0 := ⟨⟨tw_148, tw_149, tw_6, tw_150⟩, rfl, by decide +kernel, by decide +kernel, by decide +kernel⟩
theorem lk_L_13 : LkV RL 13 RX8 yX8_cradle cX8_cradle 6 (some .int) 4 := ⟨⟨tw_191, tw_192, tw_193, tw_1, tw_194⟩, rfl, by decide +kernel, by decide +kernel, by decide +kernel⟩
theorem lk_X8_56 : LkS RX8 56 yX8_isPlace cX8_isPlace 1 (some .boolean) 1 := ⟨⟨tw_195, tw_196, tw_1, tw_197⟩, by decide +kernel, by decide +kernel, by decide +kernel⟩
theorem lk_X8_66 : LkS RX8 66 yX8_isWithin cX8_isWithin 3 (some .boolean) 3 := ⟨⟨tw_198, tw_199, tw_1, tw_200⟩, by decide +kernel, by decide +kernel, by decide +kernel⟩
theorem lk_X8_60 : LkS RX8 60 yX8_isHeir cX8_isHeir 1 (some .boolean) 1 := ⟨⟨tw_201, tw_202, tw_1, tw_203⟩, by decide +kernel, by decide +kernel, by decide +kernel⟩
theorem lk_X8_63 : LkS RX8 63 yX8_isBeat cX8_isBeat 1 (some .boolean) 1 := ⟨⟨tw_204, tw_205, tw_1, tw_206⟩, by decide +kernel, by decide +kernel, by decide +kernel⟩
theorem lk_L_18 : LkV RL 18 RX8 yX8_heir cX8_heir 5 (some .int) 3 := ⟨⟨tw_207, tw_208, tw_209, tw_1, tw_210⟩, rfl, by decide +kernel, by decide +kernel, by decide +kernel⟩
theorem lk_L_23 : LkV RL 23 RX8 yX8_say cX8_say 2 (some .int) 1 := ⟨⟨tw_211, tw_212, tw_213, tw_1, tw_214⟩, rfl, by decide +kernel, by decide +kernel, by decide +kernel⟩
theorem lk_X8_92 : LkV RX8 92 RX2 yX2_add cX2_add 2 (some .int) 1 := ⟨⟨tw_215, tw_216, tw_217, tw_4, tw_218⟩, rfl, by decide +kernel, by decide +kernel, by decide +kernel⟩
theorem lk_L_28 : LkV RL 28 RX8 yX8_wipe cX8_wipe 1 (some .int) 0 := ⟨⟨tw_219, tw_220, tw_221, tw_1, tw_222⟩, rfl, by decide +kernel, by decide +kernel, by decide +kernel⟩
theorem lk_X8_96 : LkV RX8 96 RX2 yX2_clear cX2_clear 2 (some .int) 0 := ⟨⟨tw_223, tw_224, tw_225, tw_4, tw_226⟩, rfl, by decide +kernel, by decide +kernel, by decide +kernel⟩
theorem lk_L_33 : LkV RL 33 RX8 yX8_fault cX8_fault 1 (some .int) 0 := ⟨⟨tw_227, tw_228, tw_229, tw_1, tw_230⟩, rfl, by decide +kernel, by decide +kernel, by decide +kernel⟩
theorem lk_X8_100 : LkV RX8 100 RX2 yX2_flaw cX2_flaw 3 (some .int) 0 := ⟨⟨tw_231, tw_232, tw_233, tw_4, tw_234⟩, rfl, by decide +kernel, by decide +kernel, by decide +kernel⟩
theorem lk_X2_19 : LkS RX2 19 yX2_awaitedBehind cX2_awaitedBehind 2 (some .int) 2 := ⟨⟨tw_235, tw_236, tw_4, tw_237⟩, by decide +kernel, by decide +kernel, by decide +kernel⟩
theorem lk_X2_23 : LkS RX2 23 yX2_isLetter cX2_isLetter 1 (some .boolean) 1 := ⟨⟨tw_238, tw_239, tw_4, tw_240⟩, by decide +kernel, by decide +kernel, by decide +kernel⟩
theorem lk_X2_27 : LkS RX2 27 yX2_isDigit cX2_isDigit 1 (some .boolean) 1 := ⟨⟨tw_242, tw_243, tw_4, tw_244⟩, by decide +kernel, by decide +kernel, by decide +kernel⟩
theorem lk_X2_30 : LkS RX2 30 yX2_isWay cX2_isWay 1 (some .boolean) 1 := ⟨⟨tw_245, tw_246, tw_4, tw_247⟩, by decide +kernel, by decide +kernel, by decide +kernel⟩
theorem lk_X2_33 : LkS RX2 33 yX2_isPlainDeed cX2_isPlainDeed 1 (some .boolean) 1 := ⟨⟨tw_248, tw_249, tw_4, tw_250⟩, by decide +kernel, by decide +kernel, by decide +kernel⟩
theorem lk_L_37 : LkV RL 37 RX8 yX8_judge cX8_judge 3 (some .int) 1 := ⟨⟨tw_251, tw_252, tw_253, tw_1, tw_254⟩, rfl, by decide +kernel, by decide +kernel, by decide +kernel⟩
theorem lk_X8_103 : LkV RX8 103 RX8 yX8_followText cX8_followText 1 (some .int) 0 := ⟨⟨tw_255, tw_257, ts_0, tw_1, tw_258⟩, rfl, by decide +kernel, by decide +kernel, by decide +kernel⟩
theorem lk_X8_235 : LkV RX8 235 RX7 yX7_follow cX7_follow 7 none 2 := ⟨⟨tw_259, tw_260, tw_261, tw_5, tw_262⟩, rfl, by decide +kernel, by decide +kernel, by decide +kernel⟩
theorem lk_X7_18 : LkV RX7 18 RX7 yX7_begin cX7_begin 2 none 1 := ⟨⟨tw_263, tw_265, ts_1, tw_5, tw_266⟩, rfl, by decide +kernel, by decide +kernel, by decide +kernel⟩
theorem lk_X7_61 : LkV RX7 61 RX0 yX0_copyFrom cX0_copyFrom 2 none 1 := ⟨⟨tw_267, tw_268, tw_269, tw_2, tw_270⟩, rfl, by decide +kernel, by decide +kernel, by decide +kernel⟩
theorem lk_X7_35 : LkV RX7 35 RX7 yX7_attempt cX7_attempt 5 none 3 := ⟨⟨tw_274, tw_276, ts_2, tw_5, tw_277⟩, rfl, by decide +kernel, by decide +kernel, by decide +kernel⟩
theorem lk_X7_54 : LkV RX7 54 RX0 yX0_bar cX0_bar 5 (some .int) 3 := ⟨⟨tw_278, tw_279, tw_280, tw_2, tw_281⟩, rfl, by decide +kernel, by decide +kernel, by decide +kernel⟩
theorem lk_X0_47 : LkV RX0 47 RX0 yX0_isChosen cX0_isChosen 3 (some .boolean) 1 := ⟨⟨tw_283, tw_285, ts_3, tw_2, tw_286⟩, rfl, by decide +kernel, by decide +kernel, by decide +kernel⟩
theorem lk_X7_79 : LkV RX7 79 RX0 yX0_hearsOwnBeat cX0_hearsOwnBeat 2 (some .boolean) 1 := ⟨⟨tw_287, tw_288, tw_289, tw_2, tw_290⟩, rfl, by decide +kernel, by decide +kernel, by decide +kernel⟩
theorem lk_X7_82 : LkV RX7 82 RX0 yX0_standsAtOwn cX0_standsAtOwn 2 (some .boolean) 1 := ⟨⟨tw_291, tw_292, tw_293, tw_2, tw_294⟩, rfl, by decide +kernel, by decide +kernel, by decide +kernel⟩
theorem lk_X7_58 : LkV RX7 58 RX0 yX0_act cX0_act 5 none 3 := ⟨⟨tw_295, tw_296, tw_297, tw_2, tw_298⟩, rfl, by decide +kernel, by decide +kernel, by decide +kernel⟩
theorem lk_X0_50 : LkV RX0 50 RX0 yX0_listen cX0_listen 2 none 1 := ⟨⟨tw_299, tw_301, ts_4, tw_2, tw_302⟩, rfl, by decide +kernel, by decide +kernel, by decide +kernel⟩
theorem lk_X0_60 : LkV RX0 60 RX0 yX0_hearsOwnBeat cX0_hearsOwnBeat 2 (some .boolean) 1 := ⟨⟨tw_303, tw_288, tw_289, tw_2, tw_290⟩, rfl, by decide +kernel, by decide +kernel, by decide +kernel⟩
theorem lk_X0_54 : LkV RX0 54 RX0 yX0_changeWithNext cX0_changeWithNext 2 none 1 := ⟨⟨tw_304, tw_306, ts_5, tw_2, tw_307⟩, rfl, by decide +kernel, by decide +kernel, by decide +kernel⟩
theorem lk_X0_63 : LkS RX0 63 yX0_swapWithNext cX0_swapWithNext 3 none 2 := ⟨⟨tw_308, tw_309, tw_2, tw_310⟩, by decide +kernel, by decide +kernel, by decide +kernel⟩
theorem lk_X0_57 : LkV RX0 57 RX0 yX0_letMinutePass cX0_letMinutePass 3 none 0 := ⟨⟨tw_311, tw_313, ts_6, tw_2, tw_314⟩, rfl, by decide +kernel, by decide +kernel, by decide +kernel⟩
theorem lk_X7_39 : LkS RX7 39 yX2_isLetter cX2_isLetter 1 (some .boolean) 1 := ⟨⟨tw_315, tw_239, tw_4, tw_240⟩, by decide +kernel, by decide +kernel, by decide +kernel⟩
theorem lk_X7_43 : LkS RX7 43 yX2_isWay cX2_isWay 1 (some .boolean) 1 := ⟨⟨tw_316, tw_246, tw_4, tw_247⟩, by decide +kernel, by decide +kernel, by decide +kernel⟩
theorem lk_X7_46 : LkS RX7 46 yX2_isDigit cX2_isDigit 1 (some .boolean) 1 := ⟨⟨tw_317, tw_243, tw_4, tw_244⟩, by decide +kernel, by decide +kernel, by decide +kernel⟩
theorem lk_L_41 : LkV RL 41 RX8 yX8_behind cX8_behind 4 (some .int) 2 := ⟨⟨tw_318, tw_319, tw_320, tw_1, tw_321⟩, rfl, by decide +kernel, by decide +kernel, by decide +kernel⟩
theorem lk_L_46 : LkV RL 46 RX8 yX8_stands cX8_stands 4 (some .int) 2 := ⟨⟨tw_322, tw_323, tw_324, tw_1, tw_325⟩, rfl, by decide +kernel, by decide +kernel, by decide +kernel⟩
theorem lk_L_50 : LkV RL 50 RX8 yX8_house cX8_house 3 (some .int) 1 := ⟨⟨tw_326, tw_327, tw_328, tw_1, tw_329⟩, rfl, by decide +kernel, by decide +kernel, by decide +kernel⟩
theorem lk_X8_119 : LkV RX8 119 RX0 yX0_chosenBits cX0_chosenBits 3 (some .int) 0 := ⟨⟨tw_330, tw_331, tw_332, tw_2, tw_333⟩, rfl, by decide +kernel, by decide +kernel, by decide +kernel⟩
theorem lk_X8_122 : LkV RX8 122 RX0 yX0_rightBits cX0_rightBits 3 (some .int) 0 := ⟨⟨tw_334, tw_335, tw_336, tw_2, tw_337⟩, rfl, by decide +kernel, by decide +kernel, by decide +kernel⟩
theorem lk_X8_125 : LkV RX8 125 RX0 yX0_nickCount cX0_nickCount 3 (some .int) 0 := ⟨⟨tw_338, tw_339, tw_340, tw_2, tw_341⟩, rfl, by decide +kernel, by decide +kernel, by decide +kernel⟩
theorem lk_L_54 : LkV RL 54 RX8 yX8_wrong cX8_wrong 3 (some .int) 1 := ⟨⟨tw_342, tw_343, tw_344, tw_1, tw_345⟩, rfl, by decide +kernel, by decide +kernel, by decide +kernel⟩
theorem lk_L_58 : LkV RL 58 RX8 yX8_done cX8_done 2 (some .int) 0 := ⟨⟨tw_346, tw_347, tw_348, tw_1, tw_349⟩, rfl, by decide +kernel, by decide +kernel, by decide +kernel⟩
theorem lk_X8_137 : LkV RX8 137 RX0 yX0_copyFrom cX0_copyFrom 2 none 1 := ⟨⟨tw_350, tw_268, tw_269, tw_2, tw_270⟩, rfl, by decide +kernel, by decide +kernel, by decide +kernel⟩
theorem lk_L_62 : LkV RL 62 RX8 yX8_seek cX8_seek 5 (some .long) 4 := ⟨⟨tw_351, tw_352, tw_353, tw_1, tw_354⟩, rfl, by decide +kernel, by decide +kernel, by decide +kernel⟩
theorem lk_X8_144 : LkS RX8 144 yX5_isAsTold cX5_isAsTold 3 (some .boolean) 3 := ⟨⟨tw_355, tw_356, tw_9, tw_357⟩, by decide +kernel, by decide +kernel, by decide +kernel⟩
theorem lk_X5_15 : LkS RX5 15 yX5_isRow cX5_isRow 3 (some .boolean) 2 := ⟨⟨tw_359, tw_360, tw_9, tw_361⟩, by decide +kernel, by decide +kernel, by decide +kernel⟩
theorem lk_X5_23 : LkS RX5 23 yX5_digit cX5_digit 3 (some .int) 3 := ⟨⟨tw_364, tw_365, tw_9, tw_366⟩, by decide +kernel, by decide +kernel, by decide +kernel⟩
theorem lk_X8_151 : LkS RX8 151 yX5_leastSum cX5_leastSum 9 (some .long) 3 := ⟨⟨tw_368, tw_369, tw_9, tw_370⟩, by decide +kernel, by decide +kernel, by decide +kernel⟩
theorem lk_X8_155 : LkS RX8 155 yX5_digitSum cX5_digitSum 5 (some .long) 2 := ⟨⟨tw_374, tw_375, tw_9, tw_376⟩, by decide +kernel, by decide +kernel, by decide +kernel⟩
theorem lk_X8_159 : LkS RX8 159 yX8_lowestTerm cX8_lowestTerm 9 (some .long) 3 := ⟨⟨tw_377, tw_378, tw_1, tw_379⟩, by decide +kernel, by decide +kernel, by decide +kernel⟩
theorem lk_X8_239 : LkS RX8 239 yX8_commonDivisor cX8_commonDivisor 11 (some .long) 2 := ⟨⟨tw_380, tw_381, tw_1, tw_382⟩, by decide +kernel, by decide +kernel, by decide +kernel⟩
theorem lk_L_67 : LkV RL 67 RX8 yX8_looks cX8_looks 4 (some .int) 3 := ⟨⟨tw_383, tw_384, tw_385, tw_1, tw_386⟩, rfl, by decide +kernel, by decide +kernel, by decide +kernel⟩
theorem lk_X8_163 : LkS RX8 163 yX5_first cX5_first 7 (some .int) 3 := ⟨⟨tw_387, tw_388, tw_9, tw_389⟩, by decide +kernel, by decide +kernel, by decide +kernel⟩
theorem lk_L_71 : LkV RL 71 RX8 yX8_mix cX8_mix 5 (some .int) 4 := ⟨⟨tw_390, tw_391, tw_392, tw_1, tw_393⟩, rfl, by decide +kernel, by decide +kernel, by decide +kernel⟩
theorem lk_X8_168 : LkS RX8 168 yX1_placeBehind cX1_placeBehind 7 (some .int) 3 := ⟨⟨tw_395, tw_396, tw_11, tw_397⟩, by decide +kernel, by decide +kernel, by decide +kernel⟩
theorem lk_X8_173 : LkS RX8 173 yX1_round cX1_round 5 (some .int) 1 := ⟨⟨tw_398, tw_399, tw_11, tw_400⟩, by decide +kernel, by decide +kernel, by decide +kernel⟩
theorem lk_L_75 : LkV RL 75 RX8 yX8_rises cX8_rises 3 (some .int) 2 := ⟨⟨tw_401, tw_402, tw_403, tw_1, tw_404⟩, rfl, by decide +kernel, by decide +kernel, by decide +kernel⟩
theorem lk_X8_176 : LkV RX8 176 RX4 yX4_measure cX4_measure 6 none 2 := ⟨⟨tw_405, tw_406, tw_407, tw_6, tw_408⟩, rfl, by decide +kernel, by decide +kernel, by decide +kernel⟩
theorem lk_X4_26 : LkV RX4 26 RX4 yX4_longestFrom cX4_longestFrom 4 (some .int) 1 := ⟨⟨tw_410, tw_412, ts_7, tw_6, tw_413⟩, rfl, by decide +kernel, by decide +kernel, by decide +kernel⟩
theorem lk_L_79 : LkV RL 79 RX8 yX8_like cX8_like 4 (some .int) 3 := ⟨⟨tw_417, tw_418, tw_419, tw_1, tw_420⟩, rfl, by decide +kernel, by decide +kernel, by decide +kernel⟩
theorem lk_X8_185 : LkV RX8 185 RX6 yX6_add cX6_add 4 (some .int) 3 := ⟨⟨tw_421, tw_422, tw_423, tw_3, tw_424⟩, rfl, by decide +kernel, by decide +kernel, by decide +kernel⟩
theorem lk_L_84 : LkV RL 84 RX8 yX8_forget cX8_forget 1 (some .int) 0 := ⟨⟨tw_425, tw_426, tw_427, tw_1, tw_428⟩, rfl, by decide +kernel, by decide +kernel, by decide +kernel⟩
theorem lk_X8_188 : LkV RX8 188 RX6 yX6_clear cX6_clear 2 (some .int) 0 := ⟨⟨tw_429, tw_430, tw_431, tw_3, tw_432⟩, rfl, by decide +kernel, by decide +kernel, by decide +kernel⟩
theorem lk_L_88 : LkV RL 88 RX8 yX8_own cX8_own 4 (some .int) 1 := ⟨⟨tw_433, tw_434, tw_435, tw_1, tw_436⟩, rfl, by decide +kernel, by decide +kernel, by decide +kernel⟩
theorem lk_X8_189 : LkV RX8 189 RX6 yX6_fit cX6_fit 3 (some .boolean) 1 := ⟨⟨tw_437, tw_438, tw_439, tw_3, tw_440⟩, rfl, by decide +kernel, by decide +kernel, by decide +kernel⟩
theorem lk_X6_29 : LkS RX6 29 yX6_isNear cX6_isNear 3 (some .boolean) 3 := ⟨⟨tw_441, tw_442, tw_3, tw_443⟩, by decide +kernel, by decide +kernel, by decide +kernel⟩
theorem lk_L_92 : LkV RL 92 RX8 yX8_ask cX8_ask 2 (some .int) 1 := ⟨⟨tw_447, tw_448, tw_449, tw_1, tw_450⟩, rfl, by decide +kernel, by decide +kernel, by decide +kernel⟩
theorem lk_X8_192 : LkV RX8 192 RX6 yX6_findQuestion cX6_findQuestion 7 none 1 := ⟨⟨tw_451, tw_452, tw_453, tw_3, tw_454⟩, rfl, by decide +kernel, by decide +kernel, by decide +kernel⟩
theorem lk_X6_39 : LkV RX6 39 RX6 yX6_countFitting cX6_countFitting 5 (some .int) 1 := ⟨⟨tw_455, tw_457, ts_8, tw_3, tw_458⟩, rfl, by decide +kernel, by decide +kernel, by decide +kernel⟩
theorem lk_X6_56 : LkV RX6 56 RX6 yX6_fit cX6_fit 3 (some .boolean) 1 := ⟨⟨tw_460, tw_438, tw_439, tw_3, tw_440⟩, rfl, by decide +kernel, by decide +kernel, by decide +kernel⟩
theorem lk_X6_43 : LkV RX6 43 RX6 yX6_countNear cX6_countNear 5 (some .int) 2 := ⟨⟨tw_461, tw_463, ts_9, tw_3, tw_464⟩, rfl, by decide +kernel, by decide +kernel, by decide +kernel⟩
theorem lk_L_96 : LkV RL 96 RX8 yX8_take cX8_take 4 (some .int) 2 := ⟨⟨tw_466, tw_467, tw_468, tw_1, tw_469⟩, rfl, by decide +kernel, by decide +kernel, by decide +kernel⟩
theorem lk_X8_202 : LkS RX8 202 yX8_firstTaking cX8_firstTaking 3 (some .int) 1 := ⟨⟨tw_470, tw_471, tw_1, tw_472⟩, by decide +kernel, by decide +kernel, by decide +kernel⟩
theorem lk_L_100 : LkV RL 100 RX8 yX8_pass cX8_pass 4 (some .long) 3 := ⟨⟨tw_473, tw_474, tw_475, tw_1, tw_476⟩, rfl, by decide +kernel, by decide +kernel, by decide +kernel⟩
theorem lk_X8_207 : LkS RX8 207 yX3_weight cX3_weight 5 (some .long) 2 := ⟨⟨tw_477, tw_478, tw_12, tw_479⟩, by decide +kernel, by decide +kernel, by decide +kernel⟩
theorem lk_X8_210 : LkS RX8 210 yX3_whole cX3_whole 1 (some .long) 1 := ⟨⟨tw_481, tw_482, tw_12, tw_483⟩, by decide +kernel, by decide +kernel, by decide +kernel⟩
theorem lk_L_105 : LkV RL 105 RX8 yX8_passes cX8_passes 2 (some .int) 1 := ⟨⟨tw_484, tw_485, tw_486, tw_1, tw_487⟩, rfl, by decide +kernel, by decide +kernel, by decide +kernel⟩
theorem lk_X8_214 : LkS RX8 214 yX3_best cX3_best 3 (some .int) 1 := ⟨⟨tw_488, tw_489, tw_12, tw_490⟩, by decide +kernel, by decide +kernel, by decide +kernel⟩
theorem lk_X3_11 : LkS RX3 11 yX3_weight cX3_weight 5 (some .long) 2 := ⟨⟨tw_491, tw_478, tw_12, tw_479⟩, by decide +kernel, by decide +kernel, by decide +kernel⟩
theorem lk_L_109 : LkV RL 109 RX8 yX8_hour cX8_hour 4 (some .int) 3 := ⟨⟨tw_492, tw_493, tw_494, tw_1, tw_495⟩, rfl, by decide +kernel, by decide +kernel, by decide +kernel⟩
theorem lk_X8_217 : LkV RX8 217 RX7 yX7_draw cX7_draw 8 none 3 := ⟨⟨tw_496, tw_497, tw_498, tw_5, tw_499⟩, rfl, by decide +kernel, by decide +kernel, by decide +kernel⟩
theorem lk_X7_50 : LkS RX7 50 yX7_drawnKind cX7_drawnKind 2 (some .int) 2 := ⟨⟨tw_501, tw_502, tw_5, tw_503⟩, by decide +kernel, by decide +kernel, by decide +kernel⟩
theorem lk_L_113 : LkV RL 113 RX8 yX8_image cX8_image 2 (some .int) 1 := ⟨⟨tw_504, tw_505, tw_506, tw_1, tw_507⟩, rfl, by decide +kernel, by decide +kernel, by decide +kernel⟩
theorem lk_X8_221 : LkV RX8 221 RX6 yX6_copyFrom cX6_copyFrom 3 none 1 := ⟨⟨tw_508, tw_509, tw_510, tw_3, tw_511⟩, rfl, by decide +kernel, by decide +kernel, by decide +kernel⟩
theorem lk_L_117 : LkV RL 117 RX8 yX8_restore cX8_restore 2 (some .int) 1 := ⟨⟨tw_512, tw_513, tw_514, tw_1, tw_515⟩, rfl, by decide +kernel, by decide +kernel, by decide +kernel⟩
theorem lk_L_121 : LkV RL 121 RX8 yX8_told cX8_told 2 (some .int) 1 := ⟨⟨tw_516, tw_517, tw_518, tw_1, tw_519⟩, rfl, by decide +kernel, by decide +kernel, by decide +kernel⟩
theorem lk_X8_224 : LkV RX8 224 RX8 yX8_toldOfPlace cX8_toldOfPlace 3 (some .int) 2 := ⟨⟨tw_520, tw_522, ts_10, tw_1, tw_523⟩, rfl, by decide +kernel, by decide +kernel, by decide +kernel⟩
theorem lk_X8_228 : LkV RX8 228 RX8 yX8_toldOfHeir cX8_toldOfHeir 3 (some .int) 2 := ⟨⟨tw_524, tw_526, ts_11, tw_1, tw_527⟩, rfl, by decide +kernel, by decide +kernel, by decide +kernel⟩
theorem lk_L_12 : LkI RL 12 yX9_init cX9_init 2 0 := ⟨⟨tw_530, tw_531, tw_7, tw_532⟩, rfl, by decide +kernel, by decide +kernel, by decide +kernel⟩
theorem lk_L_17 : LkV RL 17 RX9 yX9_cradle cX9_cradle 6 (some .int) 4 := ⟨⟨tw_634, tw_635, tw_636, tw_7, tw_637⟩, rfl, by decide +kernel, by decide +kernel, by decide +kernel⟩
theorem lk_X9_82 : LkS RX9 82 yX9_isPlace cX9_isPlace 1 (some .boolean) 1 := ⟨⟨tw_638, tw_639, tw_7, tw_640⟩, by decide +kernel, by decide +kernel, by decide +kernel⟩
theorem lk_X9_76 : LkS RX9 76 yX9_in cX9_in 6 (some .boolean) 3 := ⟨⟨tw_642, tw_643, tw_7, tw_644⟩, by decide +kernel, by decide +kernel, by decide +kernel⟩
theorem lk_L_22 : LkV RL 22 RX9 yX9_heir cX9_heir 5 (some .int) 3 := ⟨⟨tw_648, tw_649, tw_650, tw_7, tw_651⟩, rfl, by decide +kernel, by decide +kernel, by decide +kernel⟩
theorem lk_X9_90 : LkS RX9 90 yX9_isHeir cX9_isHeir 1 (some .boolean) 1 := ⟨⟨tw_652, tw_653, tw_7, tw_654⟩, by decide +kernel, by decide +kernel, by decide +kernel⟩
theorem lk_L_27 : LkV RL 27 RX9 yX9_say cX9_say 2 (some .int) 1 := ⟨⟨tw_655, tw_656, tw_657, tw_7, tw_658⟩, rfl, by decide +kernel, by decide +kernel, by decide +kernel⟩
theorem lk_L_32 : LkV RL 32 RX9 yX9_wipe cX9_wipe 2 (some .int) 0 := ⟨⟨tw_661, tw_662, tw_663, tw_7, tw_664⟩, rfl, by decide +kernel, by decide +kernel, by decide +kernel⟩
theorem lk_L_36 : LkV RL 36 RX9 yX9_fault cX9_fault 3 (some .int) 0 := ⟨⟨tw_665, tw_666, tw_667, tw_7, tw_668⟩, rfl, by decide +kernel, by decide +kernel, by decide +kernel⟩
theorem lk_X9_126 : LkV RX9 126 RX9 yX9_readOn cX9_readOn 3 (some .int) 2 := ⟨⟨tw_669, tw_671, ts_12, tw_7, tw_672⟩, rfl, by decide +kernel, by decide +kernel, by decide +kernel⟩
theorem lk_X9_120 : LkV RX9 120 RX9 yX9_begin cX9_begin 3 (some .int) 1 := ⟨⟨tw_673, tw_675, ts_13, tw_7, tw_676⟩, rfl, by decide +kernel, by decide +kernel, by decide +kernel⟩
theorem lk_X9_108 : LkV RX9 108 RX9 yX9_close cX9_close 2 (some .int) 1 := ⟨⟨tw_679, tw_681, ts_14, tw_7, tw_682⟩, rfl, by decide +kernel, by decide +kernel, by decide +kernel⟩
theorem lk_X9_123 : LkV RX9 123 RX9 yX9_deed cX9_deed 2 (some .int) 1 := ⟨⟨tw_683, tw_685, ts_15, tw_7, tw_686⟩, rfl, by decide +kernel, by decide +kernel, by decide +kernel⟩
theorem lk_X9_116 : LkV RX9 116 RX9 yX9_count cX9_count 3 (some .int) 2 := ⟨⟨tw_687, tw_689, ts_16, tw_7, tw_690⟩, rfl, by decide +kernel, by decide +kernel, by decide +kernel⟩
theorem lk_L_40 : LkV RL 40 RX9 yX9_judge cX9_judge 3 (some .int) 1 := ⟨⟨tw_693, tw_694, tw_695, tw_7, tw_696⟩, rfl, by decide +kernel, by decide +kernel, by decide +kernel⟩
theorem lk_X9_192 : LkV RX9 192 RX9 yX9_refusal cX9_refusal 1 (some .int) 0 := ⟨⟨tw_698, tw_700, ts_17, tw_7, tw_701⟩, rfl, by decide +kernel, by decide +kernel, by decide +kernel⟩
theorem lk_X9_180 : LkV RX9 180 RX9 yX9_keepNow cX9_keepNow 2 none 0 := ⟨⟨tw_702, tw_704, ts_18, tw_7, tw_705⟩, rfl, by decide +kernel, by decide +kernel, by decide +kernel⟩
theorem lk_X9_183 : LkV RX9 183 RX9 yX9_fault cX9_fault 3 (some .int) 0 := ⟨⟨tw_706, tw_666, tw_667, tw_7, tw_668⟩, rfl, by decide +kernel, by decide +kernel, by decide +kernel⟩
theorem lk_X9_187 : LkV RX9 187 RX9 yX9_goHours cX9_goHours 3 none 0 := ⟨⟨tw_707, tw_709, ts_19, tw_7, tw_710⟩, rfl, by decide +kernel, by decide +kernel, by decide +kernel⟩
theorem lk_X9_173 : LkV RX9 173 RX9 yX9_whyNot cX9_whyNot 4 (some .int) 3 := ⟨⟨tw_711, tw_713, ts_20, tw_7, tw_714⟩, rfl, by decide +kernel, by decide +kernel, by decide +kernel⟩
theorem lk_X9_132 : LkV RX9 132 RX9 yX9_isChosen cX9_isChosen 4 (some .boolean) 1 := ⟨⟨tw_715, tw_717, ts_21, tw_7, tw_718⟩, rfl, by decide +kernel, by decide +kernel, by decide +kernel⟩
theorem lk_X9_177 : LkV RX9 177 RX9 yX9_goOne cX9_goOne 2 none 1 := ⟨⟨tw_719, tw_721, ts_22, tw_7, tw_722⟩, rfl, by decide +kernel, by decide +kernel, by decide +kernel⟩
theorem lk_X9_157 : LkV RX9 157 RX9 yX9_happen cX9_happen 4 none 3 := ⟨⟨tw_723, tw_725, ts_23, tw_7, tw_726⟩, rfl, by decide +kernel, by decide +kernel, by decide +kernel⟩
theorem lk_X9_144 : LkV RX9 144 RX9 yX9_listen cX9_listen 2 none 1 := ⟨⟨tw_727, tw_729, ts_24, tw_7, tw_730⟩, rfl, by decide +kernel, by decide +kernel, by decide +kernel⟩
theorem lk_X9_138 : LkS RX9 138 yX9_less cX9_less 2 (some .int) 2 := ⟨⟨tw_731, tw_732, tw_7, tw_733⟩, by decide +kernel, by decide +kernel, by decide +kernel⟩
theorem lk_X9_148 : LkV RX9 148 RX9 yX9_swap cX9_swap 5 none 1 := ⟨⟨tw_734, tw_736, ts_25, tw_7, tw_737⟩, rfl, by decide +kernel, by decide +kernel, by decide +kernel⟩
theorem lk_X9_151 : LkV RX9 151 RX9 yX9_choose cX9_choose 2 none 1 := ⟨⟨tw_738, tw_740, ts_26, tw_7, tw_741⟩, rfl, by decide +kernel, by decide +kernel, by decide +kernel⟩
theorem lk_X9_154 : LkV RX9 154 RX9 yX9_passMinute cX9_passMinute 3 none 0 := ⟨⟨tw_742, tw_744, ts_27, tw_7, tw_745⟩, rfl, by decide +kernel, by decide +kernel, by decide +kernel⟩
theorem lk_X9_195 : LkV RX9 195 RX9 yX9_back cX9_back 3 (some .int) 1 := ⟨⟨tw_746, tw_748, ts_28, tw_7, tw_749⟩, rfl, by decide +kernel, by decide +kernel, by decide +kernel⟩
theorem lk_L_45 : LkV RL 45 RX9 yX9_behind cX9_behind 4 (some .int) 2 := ⟨⟨tw_750, tw_751, tw_752, tw_7, tw_753⟩, rfl, by decide +kernel, by decide +kernel, by decide +kernel⟩
theorem lk_L_49 : LkV RL 49 RX9 yX9_stands cX9_stands 4 (some .int) 2 := ⟨⟨tw_754, tw_755, tw_756, tw_7, tw_757⟩, rfl, by decide +kernel, by decide +kernel, by decide +kernel⟩
theorem lk_L_53 : LkV RL 53 RX9 yX9_house cX9_house 3 (some .int) 1 := ⟨⟨tw_758, tw_759, tw_760, tw_7, tw_761⟩, rfl, by decide +kernel, by decide +kernel, by decide +kernel⟩
theorem lk_X9_209 : LkV RX9 209 RX9 yX9_ofHouse cX9_ofHouse 2 (some .int) 1 := ⟨⟨tw_763, tw_765, ts_29, tw_7, tw_766⟩, rfl, by decide +kernel, by decide +kernel, by decide +kernel⟩
theorem lk_X9_198 : LkV RX9 198 RX9 yX9_whoChose cX9_whoChose 3 (some .int) 0 := ⟨⟨tw_767, tw_769, ts_30, tw_7, tw_770⟩, rfl, by decide +kernel, by decide +kernel, by decide +kernel⟩
theorem lk_X9_201 : LkV RX9 201 RX9 yX9_whoRight cX9_whoRight 4 (some .int) 0 := ⟨⟨tw_771, tw_773, ts_31, tw_7, tw_774⟩, rfl, by decide +kernel, by decide +kernel, by decide +kernel⟩
theorem lk_X9_204 : LkV RX9 204 RX9 yX9_nickMany cX9_nickMany 3 (some .int) 0 := ⟨⟨tw_775, tw_777, ts_32, tw_7, tw_778⟩, rfl, by decide +kernel, by decide +kernel, by decide +kernel⟩
theorem lk_L_57 : LkV RL 57 RX9 yX9_wrong cX9_wrong 3 (some .int) 1 := ⟨⟨tw_779, tw_780, tw_781, tw_7, tw_782⟩, rfl, by decide +kernel, by decide +kernel, by decide +kernel⟩
theorem lk_L_61 : LkV RL 61 RX9 yX9_done cX9_done 2 (some .int) 0 := ⟨⟨tw_783, tw_784, tw_785, tw_7, tw_786⟩, rfl, by decide +kernel, by decide +kernel, by decide +kernel⟩
theorem lk_L_66 : LkV RL 66 RX9 yX9_seek cX9_seek 5 (some .long) 4 := ⟨⟨tw_787, tw_788, tw_789, tw_7, tw_790⟩, rfl, by decide +kernel, by decide +kernel, by decide +kernel⟩
theorem lk_X9_219 : LkV RX9 219 RX9 yX9_readBoth cX9_readBoth 7 (some .boolean) 3 := ⟨⟨tw_791, tw_793, ts_33, tw_7, tw_794⟩, rfl, by decide +kernel, by decide +kernel, by decide +kernel⟩
theorem lk_X9_212 : LkS RX9 212 yX9_isRow cX9_isRow 5 (some .boolean) 2 := ⟨⟨tw_795, tw_796, tw_7, tw_797⟩, by decide +kernel, by decide +kernel, by decide +kernel⟩
theorem lk_X9_225 : LkV RX9 225 RX9 yX9_timeOf cX9_timeOf 6 (some .int) 1 := ⟨⟨tw_799, tw_801, ts_34, tw_7, tw_802⟩, rfl, by decide +kernel, by decide +kernel, by decide +kernel⟩
theorem lk_X9_216 : LkV RX9 216 RX9 yX9_nextOf cX9_nextOf 7 (some .int) 2 := ⟨⟨tw_803, tw_805, ts_35, tw_7, tw_806⟩, rfl, by decide +kernel, by decide +kernel, by decide +kernel⟩
theorem lk_X9_228 : LkV RX9 228 RX9 yX9_sumOf cX9_sumOf 4 (some .int) 1 := ⟨⟨tw_807, tw_809, ts_36, tw_7, tw_810⟩, rfl, by decide +kernel, by decide +kernel, by decide +kernel⟩
theorem lk_X9_231 : LkS RX9 231 yX9_lowest cX9_lowest 11 (some .long) 3 := ⟨⟨tw_811, tw_812, tw_7, tw_813⟩, by decide +kernel, by decide +kernel, by decide +kernel⟩
theorem lk_L_70 : LkV RL 70 RX9 yX9_looks cX9_looks 4 (some .int) 3 := ⟨⟨tw_814, tw_815, tw_816, tw_7, tw_817⟩, rfl, by decide +kernel, by decide +kernel, by decide +kernel⟩
theorem lk_L_74 : LkV RL 74 RX9 yX9_mix cX9_mix 8 (some .int) 4 := ⟨⟨tw_818, tw_819, tw_820, tw_7, tw_821⟩, rfl, by decide +kernel, by decide +kernel, by decide +kernel⟩
theorem lk_X9_242 : LkS RX9 242 yX9_orderOf cX9_orderOf 3 (some .int) 1 := ⟨⟨tw_824, tw_825, tw_7, tw_826⟩, by decide +kernel, by decide +kernel, by decide +kernel⟩
theorem lk_X9_235 : LkS RX9 235 yX9_mixedOnce cX9_mixedOnce 2 (some .int) 2 := ⟨⟨tw_827, tw_828, tw_7, tw_829⟩, by decide +kernel, by decide +kernel, by decide +kernel⟩
theorem lk_L_78 : LkV RL 78 RX9 yX9_rises cX9_rises 5 (some .int) 2 := ⟨⟨tw_830, tw_831, tw_832, tw_7, tw_833⟩, rfl, by decide +kernel, by decide +kernel, by decide +kernel⟩
theorem lk_X9_245 : LkV RX9 245 RX9 yX9_riseFrom cX9_riseFrom 4 (some .int) 1 := ⟨⟨tw_834, tw_836, ts_37, tw_7, tw_837⟩, rfl, by decide +kernel, by decide +kernel, by decide +kernel⟩
theorem lk_L_83 : LkV RL 83 RX9 yX9_like cX9_like 4 (some .int) 3 := ⟨⟨tw_838, tw_839, tw_840, tw_7, tw_841⟩, rfl, by decide +kernel, by decide +kernel, by decide +kernel⟩
theorem lk_L_87 : LkV RL 87 RX9 yX9_forget cX9_forget 2 (some .int) 0 := ⟨⟨tw_843, tw_844, tw_845, tw_7, tw_846⟩, rfl, by decide +kernel, by decide +kernel, by decide +kernel⟩
theorem lk_L_91 : LkV RL 91 RX9 yX9_own cX9_own 4 (some .int) 1 := ⟨⟨tw_847, tw_848, tw_849, tw_7, tw_850⟩, rfl, by decide +kernel, by decide +kernel, by decide +kernel⟩
theorem lk_X9_256 : LkV RX9 256 RX9 yX9_isFit cX9_isFit 4 (some .boolean) 1 := ⟨⟨tw_851, tw_853, ts_38, tw_7, tw_854⟩, rfl, by decide +kernel, by decide +kernel, by decide +kernel⟩
theorem lk_X9_253 : LkS RX9 253 yX9_isLike cX9_isLike 3 (some .boolean) 3 := ⟨⟨tw_855, tw_856, tw_7, tw_857⟩, by decide +kernel, by decide +kernel, by decide +kernel⟩
theorem lk_L_95 : LkV RL 95 RX9 yX9_ask cX9_ask 6 (some .int) 1 := ⟨⟨tw_858, tw_859, tw_860, tw_7, tw_861⟩, rfl, by decide +kernel, by decide +kernel, by decide +kernel⟩
theorem lk_X9_259 : LkV RX9 259 RX9 yX9_mostLeft cX9_mostLeft 7 (some .int) 2 := ⟨⟨tw_862, tw_864, ts_39, tw_7, tw_865⟩, rfl, by decide +kernel, by decide +kernel, by decide +kernel⟩
theorem lk_L_99 : LkV RL 99 RX9 yX9_take cX9_take 4 (some .int) 2 := ⟨⟨tw_866, tw_867, tw_868, tw_7, tw_869⟩, rfl, by decide +kernel, by decide +kernel, by decide +kernel⟩
theorem lk_X9_264 : LkV RX9 264 RX9 yX9_leastTake cX9_leastTake 4 (some .int) 1 := ⟨⟨tw_871, tw_873, ts_40, tw_7, tw_874⟩, rfl, by decide +kernel, by decide +kernel, by decide +kernel⟩
theorem lk_L_104 : LkV RL 104 RX9 yX9_pass cX9_pass 4 (some .long) 3 := ⟨⟨tw_875, tw_876, tw_877, tw_7, tw_878⟩, rfl, by decide +kernel, by decide +kernel, by decide +kernel⟩
theorem lk_X9_271 : LkS RX9 271 yX9_likely cX9_likely 5 (some .long) 2 := ⟨⟨tw_880, tw_881, tw_7, tw_882⟩, by decide +kernel, by decide +kernel, by decide +kernel⟩
theorem lk_L_108 : LkV RL 108 RX9 yX9_passes cX9_passes 4 (some .int) 1 := ⟨⟨tw_884, tw_885, tw_886, tw_7, tw_887⟩, rfl, by decide +kernel, by decide +kernel, by decide +kernel⟩
theorem lk_L_112 : LkV RL 112 RX9 yX9_hour cX9_hour 9 (some .int) 3 := ⟨⟨tw_888, tw_889, tw_890, tw_7, tw_891⟩, rfl, by decide +kernel, by decide +kernel, by decide +kernel⟩
theorem lk_X9_285 : LkS RX9 285 yX9_actBy cX9_actBy 2 (some .int) 2 := ⟨⟨tw_897, tw_898, tw_7, tw_899⟩, by decide +kernel, by decide +kernel, by decide +kernel⟩
theorem lk_L_116 : LkV RL 116 RX9 yX9_image cX9_image 2 (some .int) 1 := ⟨⟨tw_900, tw_901, tw_902, tw_7, tw_903⟩, rfl, by decide +kernel, by decide +kernel, by decide +kernel⟩
theorem lk_X9_302 : LkV RX9 302 RX9 yX9_passAll cX9_passAll 1 none 0 := ⟨⟨tw_904, tw_906, ts_41, tw_7, tw_907⟩, rfl, by decide +kernel, by decide +kernel, by decide +kernel⟩
theorem lk_X9_295 : LkV RX9 295 RX9 yX9_put cX9_put 3 (some .int) 1 := ⟨⟨tw_908, tw_910, ts_42, tw_7, tw_911⟩, rfl, by decide +kernel, by decide +kernel, by decide +kernel⟩
theorem lk_X9_298 : LkV RX9 298 RX9 yX9_passRow cX9_passRow 4 none 2 := ⟨⟨tw_912, tw_914, ts_43, tw_7, tw_915⟩, rfl, by decide +kernel, by decide +kernel, by decide +kernel⟩
theorem lk_L_120 : LkV RL 120 RX9 yX9_restore cX9_restore 2 (some .int) 1 := ⟨⟨tw_916, tw_917, tw_918, tw_7, tw_919⟩, rfl, by decide +kernel, by decide +kernel, by decide +kernel⟩
theorem lk_L_124 : LkV RL 124 RX9 yX9_told cX9_told 2 (some .int) 1 := ⟨⟨tw_920, tw_921, tw_922, tw_7, tw_923⟩, rfl, by decide +kernel, by decide +kernel, by decide +kernel⟩
theorem lk_X9_309 : LkV RX9 309 RX9 yX9_toldOfPlace cX9_toldOfPlace 3 (some .int) 1 := ⟨⟨tw_926, tw_928, ts_44, tw_7, tw_929⟩, rfl, by decide +kernel, by decide +kernel, by decide +kernel⟩
theorem lk_X9_314 : LkV RX9 314 RX9 yX9_toldOfHeir cX9_toldOfHeir 3 (some .int) 1 := ⟨⟨tw_931, tw_933, ts_45, tw_7, tw_934⟩, rfl, by decide +kernel, by decide +kernel, by decide +kernel⟩
theorem lk_X2_36 : LkN RX2 36 yX8_isWithin cX8_isWithin 3 (some .boolean) 3 := ⟨⟨by decide +kernel, tw_199, tw_1, tw_200⟩, by decide +kernel, by decide +kernel, by decide +kernel⟩
theorem lk_X0_43 : LkN RX0 43 yX8_isPlace cX8_isPlace 1 (some .boolean) 1 := ⟨⟨by decide +kernel, tw_196, tw_1, tw_197⟩, by decide +kernel, by decide +kernel, by decide +kernel⟩
theorem lk_X5_9 : LkN RX5 9 yX8_isWithin cX8_isWithin 3 (some .boolean) 3 := ⟨⟨by decide +kernel, tw_199, tw_1, tw_200⟩, by decide +kernel, by decide +kernel, by decide +kernel⟩
theorem lk_X4_22 : LkN RX4 22 yX8_isBeat cX8_isBeat 1 (some .boolean) 1 := ⟨⟨by decide +kernel, tw_205, tw_1, tw_206⟩, by decide +kernel, by decide +kernel, by decide +kernel⟩
theorem lk_X6_52 : LkN RX6 52 yX8_isBeat cX8_isBeat 1 (some .boolean) 1 := ⟨⟨by decide +kernel, tw_205, tw_1, tw_206⟩, by decide +kernel, by decide +kernel, by decide +kernel⟩
end
section
/-! the worlds: a group of cells a kind of object -/
def wG (T : Nat → ClassId) (a : Nat → Nat) (b n o s k h c : Nat → Int32) (mn : Int32) : va_W := [(a 0, .inr (0, [.ref (a 1), .ref (a 2), .ref (a 3), .ref (a 4), .ref (a 5), .ref (a 6), .ref (a 7), .int mn])), (a 1, .inl (T 0, 40, .inl b)), (a 2, .inl (T 0, 40, .inl n)), (a 3, .inl (T 0, 40, .inl o)), (a 4, .inl (T 0, 6, .inl s)), (a 5, .inl (T 0, 6, .inl k)), (a 6, .inl (T 0, 6, .inl h)), (a 7, .inl (T 0, 6, .inl c))]
def wP (T : Nat → ClassId) (a : Nat → Nat) (sg : Nat → Int32) (cn : Int32) : va_W := [(a 0, .inr (1, [.ref (a 1), .int cn])), (a 1, .inl (T 0, 60, .inl sg))]
def wR (T : Nat → ClassId) (a : Nat → Nat) (lb : Nat → Int32) (mo fi : Int32) : va_W := [(a 0, .inr (2, [.ref (a 1), .int mo, .int fi])), (a 1, .inl (T 0, 10, .inl lb))]
def wS (T : Nat → ClassId) (a : Nat → Nat) (b s i f : Nat → Int32) (cn qu le : Int32) : va_W := [(a 0, .inr (3, [.ref (a 1), .ref (a 2), .ref (a 3), .ref (a 4), .int cn, .int qu, .int le])), (a 1, .inl (T 0, 8, .inl b)), (a 2, .inl (T 0, 8, .inl s)), (a 3, .inl (T 1, 8, .inl i)), (a 4, .inl (T 0, 10, .inl f))]
def wT (a g : Nat) (ac ba bw he wa wh : Int32) : va_W := [(a, .inr (4, [.ref g, .int ac, .int ba, .int bw, .int he, .int wa, .int wh]))]
def wC (h x0 x1 x2 x3 x4 x5 x6 x7 : Nat) : va_W := [(h, .inr (5, [.ref x0, .ref x1, .ref x2, .ref x3, .ref x4, .ref x5, .ref x6, .ref x7]))]
def pr2 (g0 g1 : Nat) : Nat → Option Nat := va_up (va_up (fun _ => none) 0 (some g0)) 1 (some g1)
def wI (T : Nat → ClassId) (x5 x6 x7 g0 g1 s0 s1 : Nat) (kp : Nat → Int32) : va_W := [(x5, .inl (T 2, 2, .inr (.inr (.inr (.inr (pr2 g0 g1)))))), (x6, .inl (T 3, 2, .inr (.inr (.inr (.inr (pr2 s0 s1)))))), (x7, .inl (T 1, 2, .inl kp))]
def wA (T : Nat → ClassId) (x N : Nat) (f : Nat → Int32) : va_W := [(x, .inl (T 0, N, .inl f))]
def wM (T : Nat → ClassId) (a : Nat → Nat) (beat : Nat → Int32) (nick : Nat → Int32) (owner : Nat → Int32) (place : Nat → Int32) (kept : Nat → Int32) (heard : Nat → Int32) (chosen : Nat → Int32) (minutes : Int32) (sightBeat : Nat → Int32) (sightOff : Nat → Int32) (sightIs : Nat → Int32) (sights : Int32) (pad : Nat → Int32) (padMany : Int32) (act : Nat → Int32) (who : Nat → Int32) (much : Nat → Int32) (acts : Int32) (heardMany : Int32) (wrongNow : Int32) (had : Nat → Int32) (badAct : Int32) (badWhy : Int32) (wrongAct : Int32) (wrongHeir : Int32) (odd : Nat → Int32) (span : Nat → Int32) (rise : Nat → Int32) (wins : Nat → Int32) (stored : Nat → Int32) (isStored : Nat → Int32) (storedAt : Int32) (isWriting : Int32) : va_W := [(a 0, .inr (6, [.ref (a 1), .ref (a 2), .ref (a 3), .ref (a 4), .ref (a 5), .ref (a 6), .ref (a 7), .int minutes, .ref (a 8), .ref (a 9), .ref (a 10), .int sights, .ref (a 11), .int padMany, .ref (a 12), .ref (a 13), .ref (a 14), .int acts, .int heardMany, .int wrongNow, .ref (a 15), .int badAct, .int badWhy, .int wrongAct, .int wrongHeir, .ref (a 16), .ref (a 17), .ref (a 18), .ref (a 19), .ref (a 20), .ref (a 21), .int storedAt, .int isWriting])), (a 1, .inl (T 0, 40, .inl beat)), (a 2, .inl (T 0, 40, .inl nick)), (a 3, .inl (T 0, 40, .inl owner)), (a 4, .inl (T 0, 6, .inl place)), (a 5, .inl (T 0, 6, .inl kept)), (a 6, .inl (T 0, 6, .inl heard)), (a 7, .inl (T 0, 6, .inl chosen)), (a 8, .inl (T 0, 8, .inl sightBeat)), (a 9, .inl (T 0, 8, .inl sightOff)), (a 10, .inl (T 0, 8, .inl sightIs)), (a 11, .inl (T 0, 60, .inl pad)), (a 12, .inl (T 0, 60, .inl act)), (a 13, .inl (T 0, 60, .inl who)), (a 14, .inl (T 0, 60, .inl much)), (a 15, .inl (T 0, 139, .inl had)), (a 16, .inl (T 0, 9, .inl odd)), (a 17, .inl (T 0, 9, .inl span)), (a 18, .inl (T 0, 40, .inl rise)), (a 19, .inl (T 1, 1000, .inl wins)), (a 20, .inl (T 0, 340, .inl stored)), (a 21, .inl (T 1, 2, .inl isStored))]
end
section
theorem kB_m6 : (Int8.ofInt (-6)).toInt32 = (-6) := by decide
theorem kB_m5 : (Int8.ofInt (-5)).toInt32 = (-5) := by decide
theorem kB_m4 : (Int8.ofInt (-4)).toInt32 = (-4) := by decide
theorem kB_m3 : (Int8.ofInt (-3)).toInt32 = (-3) := by decide
theorem kB_m2 : (Int8.ofInt (-2)).toInt32 = (-2) := by decide
theorem kB_6 : (Int8.ofInt 6).toInt32 = 6 := by decide
theorem kB_7 : (Int8.ofInt 7).toInt32 = 7 := by decide
theorem kB_8 : (Int8.ofInt 8).toInt32 = 8 := by decide
theorem kB_9 : (Int8.ofInt 9).toInt32 = 9 := by decide
theorem kB_10 : (Int8.ofInt 10).toInt32 = 10 := by decide
theorem kB_11 : (Int8.ofInt 11).toInt32 = 11 := by decide
theorem kB_20 : (Int8.ofInt 20).toInt32 = 20 := by decide
theorem kB_30 : (Int8.ofInt 30).toInt32 = 30 := by decide
theorem kB_33 : (Int8.ofInt 33).toInt32 = 33 := by decide
theorem kB_39 : (Int8.ofInt 39).toInt32 = 39 := by decide
theorem kB_40 : (Int8.ofInt 40).toInt32 = 40 := by decide
theorem kB_42 : (Int8.ofInt 42).toInt32 = 42 := by decide
theorem kB_46 : (Int8.ofInt 46).toInt32 = 46 := by decide
theorem kB_48 : (Int8.ofInt 48).toInt32 = 48 := by decide
theorem kB_49 : (Int8.ofInt 49).toInt32 = 49 := by decide
theorem kB_57 : (Int8.ofInt 57).toInt32 = 57 := by decide
theorem kB_60 : (Int8.ofInt 60).toInt32 = 60 := by decide
theorem kB_62 : (Int8.ofInt 62).toInt32 = 62 := by decide
theorem kB_63 : (Int8.ofInt 63).toInt32 = 63 := by decide
theorem kB_65 : (Int8.ofInt 65).toInt32 = 65 := by decide
theorem kB_70 : (Int8.ofInt 70).toInt32 = 70 := by decide
theorem kB_74 : (Int8.ofInt 74).toInt32 = 74 := by decide
theorem kB_75 : (Int8.ofInt 75).toInt32 = 75 := by decide
theorem kB_80 : (Int8.ofInt 80).toInt32 = 80 := by decide
theorem kB_99 : (Int8.ofInt 99).toInt32 = 99 := by decide
theorem kB_100 : (Int8.ofInt 100).toInt32 = 100 := by decide
theorem kB_120 : (Int8.ofInt 120).toInt32 = 120 := by decide
theorem kB_126 : (Int8.ofInt 126).toInt32 = 126 := by decide
theorem kI_m1 : Int32.ofInt (-1) = (-1) := by decide
theorem kI_0 : Int32.ofInt 0 = 0 := by decide
theorem kI_1 : Int32.ofInt 1 = 1 := by decide
theorem kI_2 : Int32.ofInt 2 = 2 := by decide
theorem kI_3 : Int32.ofInt 3 = 3 := by decide
theorem kI_4 : Int32.ofInt 4 = 4 := by decide
theorem kI_5 : Int32.ofInt 5 = 5 := by decide
theorem kS_128 : (Int16.ofInt 128).toInt32 = 128 := by decide
theorem kS_132 : (Int16.ofInt 132).toInt32 = 132 := by decide
theorem kS_138 : (Int16.ofInt 138).toInt32 = 138 := by decide
theorem kS_170 : (Int16.ofInt 170).toInt32 = 170 := by decide
theorem kS_200 : (Int16.ofInt 200).toInt32 = 200 := by decide
theorem kS_300 : (Int16.ofInt 300).toInt32 = 300 := by decide
theorem kS_399 : (Int16.ofInt 399).toInt32 = 399 := by decide
theorem kS_998 : (Int16.ofInt 998).toInt32 = 998 := by decide
theorem kS_999 : (Int16.ofInt 999).toInt32 = 999 := by decide
theorem kS_9999 : (Int16.ofInt 9999).toInt32 = 9999 := by decide
section GGM
variable {ρ : Type} {X : KX} {D : va_G} {T : Nat → ClassId} {Q : ρ → State → Prop} {n : Nat × Nat} {ws ws' : va_W} {lv lv' : List (Nat × Value)} {pc : Nat} {st : List Value} {o o1 o2 : Option ρ} {cc : ByteArray} {own : String} {rm : Room}
theorem gg_leafL {α β : Type} {v : α} {f : α → Option ρ} {g : β → Option ρ} (h0 : GG X D Q n ws lv pc st (f v)) : GG X D (JQ (Sum.elim f g) Q) n ws lv pc st (some (Sum.inl v)) := gg_leaf (k := Sum.elim f g) (v := Sum.inl v) h0
theorem gg_leafR {α β : Type} {v : β} {f : α → Option ρ} {g : β → Option ρ} (h0 : GG X D Q n ws lv pc st (g v)) : GG X D (JQ (Sum.elim f g) Q) n ws lv pc st (some (Sum.inr v)) := gg_leaf (k := Sum.elim f g) (v := Sum.inr v) h0
theorem gg_aald2_0 (C : Cx X D T cc own rm) (q0 : Nat) {a g0 g1 : Nat} {i : Int32} (he : ws[q0]? = some (a, .inl (T 2, 2, .inr (.inr (.inr (.inr (pr2 g0 g1))))))) (hd : decode cc pc = .ok (.aaload, 1)) (k0 : i = 0 → GG X D Q n ws lv (pc + 1) (.ref g0 :: st) o1) (k1 : i = 1 → GG X D Q n ws lv (pc + 1) (.ref g1 :: st) o2) : GG X D Q n ws lv pc (.int i :: .ref a :: st) (if i = 0 then o1 else if i = 1 then o2 else none) := by
  obtain ⟨p, l, e, R, s, m, args, below, meth, c, A, nL⟩ := X
  obtain ⟨hx, hb, hml, hown, hts, hK, hA, hlk, hR, hSE⟩ := C
  intro res h H locs ls hP hD hS hL
  by_cases h0 : i = 0
  · rw [if_pos h0] at h
    subst h0
    exact va_aldq hx hb hK hP q0 2 he (C := RX0) rfl (by unfold vp_in; decide) hd (k0 rfl res h H locs ls hP hD hS hL)
  · rw [if_neg h0] at h
    by_cases h1 : i = 1
    · rw [if_pos h1] at h
      subst h1
      exact va_aldq hx hb hK hP q0 2 he (C := RX0) rfl (by unfold vp_in; decide) hd (k1 rfl res h H locs ls hP hD hS hL)
    · rw [if_neg h1] at h
      cases h
theorem gg_aald2_1 (C : Cx X D T cc own rm) (q0 : Nat) {a g0 g1 : Nat} {i : Int32} (he : ws[q0]? = some (a, .inl (T 3, 2, .inr (.inr (.inr (.inr (pr2 g0 g1))))))) (hd : decode cc pc = .ok (.aaload, 1)) (k0 : i = 0 → GG X D Q n ws lv (pc + 1) (.ref g0 :: st) o1) (k1 : i = 1 → GG X D Q n ws lv (pc + 1) (.ref g1 :: st) o2) : GG X D Q n ws lv pc (.int i :: .ref a :: st) (if i = 0 then o1 else if i = 1 then o2 else none) := by
  obtain ⟨p, l, e, R, s, m, args, below, meth, c, A, nL⟩ := X
  obtain ⟨hx, hb, hml, hown, hts, hK, hA, hlk, hR, hSE⟩ := C
  intro res h H locs ls hP hD hS hL
  by_cases h0 : i = 0
  · rw [if_pos h0] at h
    subst h0
    exact va_aldq hx hb hK hP q0 3 he (C := RX6) rfl (by unfold vp_in; decide) hd (k0 rfl res h H locs ls hP hD hS hL)
  · rw [if_neg h0] at h
    by_cases h1 : i = 1
    · rw [if_pos h1] at h
      subst h1
      exact va_aldq hx hb hK hP q0 3 he (C := RX6) rfl (by unfold vp_in; decide) hd (k1 rfl res h H locs ls hP hD hS hL)
    · rw [if_neg h1] at h
      cases h
end GGM
end
section
def f_X8_isWithin (v0 : Int32) (v1 : Int32) (v2 : Int32) : Option (Int32) := if v0 < v1 then some 0 else if v2 < v0 then some 0 else some 1
set_option maxHeartbeats 4000000 in
set_option maxRecDepth 100000 in
theorem c_X8_isWithin (l : Launch) (D : va_G) (T : Nat → ClassId)   (v0 : Int32) (v1 : Int32) (v2 : Int32) (r : Int32) (h : f_X8_isWithin v0 v1 v2 = some r) : Kt l D T yX8_isWithin cX8_isWithin 3 (some .boolean) (0, 0, 0, 0) [.int v0, .int v1, .int v2] ([]) (FF (fun (r : Int32) => some (.int r)) (fun r => []) r) := by
  refine kt_of (own := RX8) (nm := "isWithin") (lv := [(0, .int v0), (1, .int v1), (2, .int v2)]) (by decide) rfl rfl rfl (Nat.le_of_ble_eq_true rfl) h (fun X hn C M => ?_)
  have hnn : ((0, 0) : Nat × Nat).1 ≤ 0 ∧ ((0, 0) : Nat × Nat).2 ≤ 0 := ⟨Nat.le_refl 0, Nat.le_refl 0⟩
  unfold f_X8_isWithin
  refine gg_iload_n C dX8_isWithin_0 rfl 0 rfl ?_
  refine gg_iload_n C dX8_isWithin_1 rfl 1 rfl ?_
  refine gg_icmp_lt C dX8_isWithin_2 (tgt := 14) (by decide) (fun _ => ?_) (fun _ => ?_)
  · refine gg_iconst C dX8_isWithin_14 kI_0 ?_
    exact gg_zret C M dX8_isWithin_15 rfl ⟨rfl, rfl⟩
  · refine gg_iload_n C dX8_isWithin_5 rfl 0 rfl ?_
    refine gg_iload_n C dX8_isWithin_6 rfl 2 rfl ?_
    refine gg_icmp_gt C dX8_isWithin_7 (tgt := 14) (by decide) (fun _ => ?_) (fun _ => ?_)
    · refine gg_iconst C dX8_isWithin_14 kI_0 ?_
      exact gg_zret C M dX8_isWithin_15 rfl ⟨rfl, rfl⟩
    · refine gg_iconst C dX8_isWithin_10 kI_1 ?_
      refine gg_goto C dX8_isWithin_11 (tgt := 15) (by decide) ?_
      exact gg_zret C M dX8_isWithin_15 rfl ⟨rfl, rfl⟩
def f_X8_isPlace (v0 : Int32) : Option (Int32) := jn (f_X8_isWithin v0 0 39) (fun r1 => gz r1 (some r1))
set_option maxHeartbeats 4000000 in
set_option maxRecDepth 100000 in
theorem c_X8_isPlace (l : Launch) (D : va_G) (T : Nat → ClassId)   (v0 : Int32) (r : Int32) (h : f_X8_isPlace v0 = some r) : Kt l D T yX8_isPlace cX8_isPlace 1 (some .boolean) (1, 0, 0, 22) [.int v0] ([]) (FF (fun (r : Int32) => some (.int r)) (fun r => []) r) := by
  refine kt_of (own := RX8) (nm := "isPlace") (lv := [(0, .int v0)]) (by decide) rfl rfl rfl (Nat.le_of_ble_eq_true rfl) h (fun X hn C M => ?_)
  have hnn : ((0, 0) : Nat × Nat).1 ≤ 0 ∧ ((0, 0) : Nat × Nat).2 ≤ 0 := ⟨Nat.le_refl 0, Nat.le_refl 0⟩
  unfold f_X8_isPlace
  refine gg_iload_n C dX8_isPlace_0 rfl 0 rfl ?_
  refine gg_iconst C dX8_isPlace_1 kI_0 ?_
  refine gg_bipush C dX8_isPlace_2 kB_39 ?_
  refine gg_callS C (fun l r h => c_X8_isWithin l D T v0 0 39 r h) lk_X8_66 ⟨by decide, by decide⟩ hnn rfl (rest := []) rfl (Nat.le_of_ble_eq_true rfl) dX8_isPlace_4 cut_none (st2 := fun r1 => [.int r1]) (fun _ => rfl) (fun r1 => ?_)
  exact gg_zretG C M dX8_isPlace_7 ⟨rfl, rfl⟩
def f_X8_isHeir (v0 : Int32) : Option (Int32) := jn (f_X8_isWithin v0 0 5) (fun r1 => gz r1 (some r1))
set_option maxHeartbeats 4000000 in
set_option maxRecDepth 100000 in
theorem c_X8_isHeir (l : Launch) (D : va_G) (T : Nat → ClassId)   (v0 : Int32) (r : Int32) (h : f_X8_isHeir v0 = some r) : Kt l D T yX8_isHeir cX8_isHeir 1 (some .boolean) (1, 0, 0, 22) [.int v0] ([]) (FF (fun (r : Int32) => some (.int r)) (fun r => []) r) := by
  refine kt_of (own := RX8) (nm := "isHeir") (lv := [(0, .int v0)]) (by decide) rfl rfl rfl (Nat.le_of_ble_eq_true rfl) h (fun X hn C M => ?_)
  have hnn : ((0, 0) : Nat × Nat).1 ≤ 0 ∧ ((0, 0) : Nat × Nat).2 ≤ 0 := ⟨Nat.le_refl 0, Nat.le_refl 0⟩
  unfold f_X8_isHeir
  refine gg_iload_n C dX8_isHeir_0 rfl 0 rfl ?_
  refine gg_iconst C dX8_isHeir_1 kI_0 ?_
  refine gg_iconst C dX8_isHeir_2 kI_5 ?_
  refine gg_callS C (fun l r h => c_X8_isWithin l D T v0 0 5 r h) lk_X8_66 ⟨by decide, by decide⟩ hnn rfl (rest := []) rfl (Nat.le_of_ble_eq_true rfl) dX8_isHeir_3 cut_none (st2 := fun r1 => [.int r1]) (fun _ => rfl) (fun r1 => ?_)
  exact gg_zretG C M dX8_isHeir_6 ⟨rfl, rfl⟩
def f_X8_isBeat (v0 : Int32) : Option (Int32) := jn (f_X8_isWithin v0 1 9) (fun r1 => gz r1 (some r1))
set_option maxHeartbeats 4000000 in
set_option maxRecDepth 100000 in
theorem c_X8_isBeat (l : Launch) (D : va_G) (T : Nat → ClassId)   (v0 : Int32) (r : Int32) (h : f_X8_isBeat v0 = some r) : Kt l D T yX8_isBeat cX8_isBeat 1 (some .boolean) (1, 0, 0, 22) [.int v0] ([]) (FF (fun (r : Int32) => some (.int r)) (fun r => []) r) := by
  refine kt_of (own := RX8) (nm := "isBeat") (lv := [(0, .int v0)]) (by decide) rfl rfl rfl (Nat.le_of_ble_eq_true rfl) h (fun X hn C M => ?_)
  have hnn : ((0, 0) : Nat × Nat).1 ≤ 0 ∧ ((0, 0) : Nat × Nat).2 ≤ 0 := ⟨Nat.le_refl 0, Nat.le_refl 0⟩
  unfold f_X8_isBeat
  refine gg_iload_n C dX8_isBeat_0 rfl 0 rfl ?_
  refine gg_iconst C dX8_isBeat_1 kI_1 ?_
  refine gg_bipush C dX8_isBeat_2 kB_9 ?_
  refine gg_callS C (fun l r h => c_X8_isWithin l D T v0 1 9 r h) lk_X8_66 ⟨by decide, by decide⟩ hnn rfl (rest := []) rfl (Nat.le_of_ble_eq_true rfl) dX8_isBeat_4 cut_none (st2 := fun r1 => [.int r1]) (fun _ => rfl) (fun r1 => ?_)
  exact gg_zretG C M dX8_isBeat_7 ⟨rfl, rfl⟩
def f_X8_commonDivisor_L9  : Nat → Int64 → Int64 → Int32 → Option (Int64 × Int64 × Int32)
  | 0, _, _, _ => none
  | nn + 1, y4, y6, y8 => if 128 ≤ y8 then some (y4, y6, y8) else if lg_cmp y6 0 = 0 then some (y4, y6, y8) else gdL y6 (bi (y4 - y4 / y6 * y6) (fun x1 => f_X8_commonDivisor_L9 nn y6 x1 (y8 + 1)))
set_option maxHeartbeats 4000000 in
set_option maxRecDepth 100000 in
theorem g_X8_commonDivisor_L9 {X : KX} {D : va_G} {T : Nat → ClassId} {Q : Int64 × Int64 × Int32 → State → Prop} {n : Nat × Nat} (C : Cx X D T cX8_commonDivisor RX8 { frames := 0, cells := 0, slots := 0, locals := 0 }) (hnn : n.1 ≤ 0 ∧ n.2 ≤ 0) (hn : kxL X = 11)   (y0 : Int64) (y2 : Int64) (hk : ∀ v : Int64 × Int64 × Int32, GG X D Q n ([]) [(0, .long y0), (2, .long y2), (4, .long v.1), (6, .long v.2.1), (8, .int v.2.2)] 45 [] (some (v))) : ∀ (nn : Nat) (y4 : Int64) (y6 : Int64) (y8 : Int32), GG X D Q n ([]) [(0, .long y0), (2, .long y2), (4, .long y4), (6, .long y6), (8, .int y8)] 9 [] (f_X8_commonDivisor_L9 nn y4 y6 y8) := by
  intro nn
  induction nn with
  | zero => intros; exact gg_none
  | succ nn ih =>
    intro y4 y6 y8
    unfold f_X8_commonDivisor_L9
    refine gg_iload C dX8_commonDivisor_9 4 rfl ?_
    refine gg_sipush C dX8_commonDivisor_11 kS_128 ?_
    refine gg_icmp_ge C dX8_commonDivisor_14 (tgt := 45) (by decide) (fun _ => ?_) (fun _ => ?_)
    · refine gg_sub [0, 1, 2, 3, 4] rfl ?_
      exact hk (y4, y6, y8)
    · refine gg_lload C dX8_commonDivisor_17 3 rfl ?_
      refine gg_lconst C dX8_commonDivisor_19 (v := 0) (by decide) ?_
      refine gg_lcmp C dX8_commonDivisor_20 ?_
      refine gg_if_eq C dX8_commonDivisor_21 (tgt := 45) (by decide) (fun _ => ?_) (fun _ => ?_)
      · refine gg_sub [0, 1, 2, 3, 4] rfl ?_
        exact hk (y4, y6, y8)
      · refine gg_lload C dX8_commonDivisor_24 2 rfl ?_
        refine gg_lload C dX8_commonDivisor_26 3 rfl ?_
        refine gg_lrem C dX8_commonDivisor_28 ?_
        refine gg_biL (fun x1 => ?_)
        refine gg_lstore C dX8_commonDivisor_29 hn (by decide) (lv' := [(9, .long x1), (0, .long y0), (2, .long y2), (4, .long y4), (6, .long y6), (8, .int y8)]) rfl ?_
        refine gg_lload C dX8_commonDivisor_31 4 rfl ?_
        refine gg_lstore C dX8_commonDivisor_33 hn (by decide) (lv' := [(4, .long y6), (9, .long x1), (0, .long y0), (2, .long y2), (6, .long y6), (8, .int y8)]) rfl ?_
        refine gg_lload C dX8_commonDivisor_35 1 rfl ?_
        refine gg_lstore C dX8_commonDivisor_37 hn (by decide) (lv' := [(6, .long x1), (4, .long y6), (9, .long x1), (0, .long y0), (2, .long y2), (8, .int y8)]) rfl ?_
        refine gg_iinc C dX8_commonDivisor_39 (j := 5) rfl (v := y8 + 1) (by first | rfl | decide) hn (by decide) (lv' := [(8, .int (y8 + 1)), (6, .long x1), (4, .long y6), (9, .long x1), (0, .long y0), (2, .long y2)]) rfl ?_
        refine gg_goto C dX8_commonDivisor_42 (tgt := 9) (by decide) ?_
        refine gg_sub [4, 5, 2, 1, 0] rfl ?_
        exact ih y6 x1 (y8 + 1)
def f_X8_commonDivisor (v0 : Int64) (v2 : Int64) : Option (Int64) := jn (α := Int64 × Int64 × Int32) (f_X8_commonDivisor_L9 100 v0 v2 0) (fun z2 => some z2.1)
set_option maxHeartbeats 4000000 in
set_option maxRecDepth 100000 in
theorem c_X8_commonDivisor (l : Launch) (D : va_G) (T : Nat → ClassId)   (v0 : Int64) (v2 : Int64) (r : Int64) (h : f_X8_commonDivisor v0 v2 = some r) : Kt l D T yX8_commonDivisor cX8_commonDivisor 11 (some .long) (0, 0, 0, 0) [.long v0, .long v2] ([]) (FF (fun (r : Int64) => some (.long r)) (fun r => []) r) := by
  refine kt_of (own := RX8) (nm := "commonDivisor") (lv := [(0, .long v0), (2, .long v2)]) (by decide) rfl rfl rfl (Nat.le_of_ble_eq_true rfl) h (fun X hn C M => ?_)
  have hnn : ((0, 0) : Nat × Nat).1 ≤ 0 ∧ ((0, 0) : Nat × Nat).2 ≤ 0 := ⟨Nat.le_refl 0, Nat.le_refl 0⟩
  unfold f_X8_commonDivisor
  refine gg_lload_n C dX8_commonDivisor_0 rfl 0 rfl ?_
  refine gg_lstore C dX8_commonDivisor_1 hn (by decide) (lv' := [(4, .long v0), (0, .long v0), (2, .long v2)]) rfl ?_
  refine gg_lload_n C dX8_commonDivisor_3 rfl 2 rfl ?_
  refine gg_lstore C dX8_commonDivisor_4 hn (by decide) (lv' := [(6, .long v2), (4, .long v0), (0, .long v0), (2, .long v2)]) rfl ?_
  refine gg_iconst C dX8_commonDivisor_6 kI_0 ?_
  refine gg_istore C dX8_commonDivisor_7 hn (by decide) (lv' := [(8, .int 0), (6, .long v2), (4, .long v0), (0, .long v0), (2, .long v2)]) rfl ?_
  refine gg_join (α := Int64 × Int64 × Int32) 45 (fun z2 => []) (fun z2 => [(0, .long v0), (2, .long v2), (4, .long z2.1), (6, .long z2.2.1), (8, .int z2.2.2)]) (fun z2 => []) (fun z2 => ?_) (fun K3 => ?_)
  · refine gg_lload C dX8_commonDivisor_45 2 rfl ?_
    exact gg_lret C M dX8_commonDivisor_47 ⟨rfl, rfl⟩
  · refine gg_sub [3, 4, 2, 1, 0] rfl ?_
    exact g_X8_commonDivisor_L9 C hnn hn  v0 v2 K3 100 v0 v2 0
def f_X8_lowestTerm (v0 : Int64) (v2 : Int64) (v4 : Int32) : Option (Int64) := jn (f_X8_commonDivisor v0 v2) (fun r1 => jn (α := Int64) (if v4 = 0 then some v0 else some v2) (fun z2 => if lg_cmp r1 0 ≤ 0 then some z2 else gdL r1 (some (z2 / r1))))
set_option maxHeartbeats 4000000 in
set_option maxRecDepth 100000 in
theorem c_X8_lowestTerm (l : Launch) (D : va_G) (T : Nat → ClassId)   (v0 : Int64) (v2 : Int64) (v4 : Int32) (r : Int64) (h : f_X8_lowestTerm v0 v2 v4 = some r) : Kt l D T yX8_lowestTerm cX8_lowestTerm 9 (some .long) (1, 0, 0, 30) [.long v0, .long v2, .int v4] ([]) (FF (fun (r : Int64) => some (.long r)) (fun r => []) r) := by
  refine kt_of (own := RX8) (nm := "lowestTerm") (lv := [(0, .long v0), (2, .long v2), (4, .int v4)]) (by decide) rfl rfl rfl (Nat.le_of_ble_eq_true rfl) h (fun X hn C M => ?_)
  have hnn : ((0, 0) : Nat × Nat).1 ≤ 0 ∧ ((0, 0) : Nat × Nat).2 ≤ 0 := ⟨Nat.le_refl 0, Nat.le_refl 0⟩
  unfold f_X8_lowestTerm
  refine gg_lload_n C dX8_lowestTerm_0 rfl 0 rfl ?_
  refine gg_lload_n C dX8_lowestTerm_1 rfl 1 rfl ?_
  refine gg_callS C (fun l r h => c_X8_commonDivisor l D T v0 v2 r h) lk_X8_239 ⟨by decide, by decide⟩ hnn rfl (rest := []) rfl (Nat.le_of_ble_eq_true rfl) dX8_lowestTerm_2 cut_none (st2 := fun r1 => [.long r1]) (fun _ => rfl) (fun r1 => ?_)
  refine gg_lstore C dX8_lowestTerm_5 hn (by decide) (lv' := [(5, .long r1), (0, .long v0), (2, .long v2), (4, .int v4)]) rfl ?_
  refine gg_iload C dX8_lowestTerm_7 3 rfl ?_
  refine gg_join (α := Int64) 17 (fun z2 => []) (fun z2 => [(0, .long v0), (2, .long v2), (4, .int v4), (5, .long r1)]) (fun z2 => [.long z2]) (fun z2 => ?_) (fun K3 => ?_)
  · refine gg_lstore C dX8_lowestTerm_17 hn (by decide) (lv' := [(7, .long z2), (0, .long v0), (2, .long v2), (4, .int v4), (5, .long r1)]) rfl ?_
    refine gg_lload C dX8_lowestTerm_19 4 rfl ?_
    refine gg_lconst C dX8_lowestTerm_21 (v := 0) (by decide) ?_
    refine gg_lcmp C dX8_lowestTerm_22 ?_
    refine gg_if_le C dX8_lowestTerm_23 (tgt := 34) (by decide) (fun _ => ?_) (fun _ => ?_)
    · refine gg_lload C dX8_lowestTerm_34 0 rfl ?_
      exact gg_lret C M dX8_lowestTerm_36 ⟨rfl, rfl⟩
    · refine gg_lload C dX8_lowestTerm_26 0 rfl ?_
      refine gg_lload C dX8_lowestTerm_28 4 rfl ?_
      refine gg_ldiv C dX8_lowestTerm_30 ?_
      refine gg_goto C dX8_lowestTerm_31 (tgt := 36) (by decide) ?_
      exact gg_lret C M dX8_lowestTerm_36 ⟨rfl, rfl⟩
  · refine gg_if_ne C dX8_lowestTerm_9 (tgt := 16) (by decide) (fun _ => ?_) (fun _ => ?_)
    · refine gg_lload_n C dX8_lowestTerm_16 rfl 2 rfl ?_
      refine gg_sub [1, 2, 3, 0] rfl ?_
      exact K3 v2
    · refine gg_lload_n C dX8_lowestTerm_12 rfl 1 rfl ?_
      refine gg_goto C dX8_lowestTerm_13 (tgt := 17) (by decide) ?_
      refine gg_sub [1, 2, 3, 0] rfl ?_
      exact K3 v0
def f_X8_firstTaking_L4 (y0 : Int32) : Nat → Int32 → Int32 → Option (Int32 × Int32)
  | 0, _, _ => none
  | nn + 1, y1, y2 => if y0 < y2 then some (y1, y2) else if 999 < y2 then some (y1, y2) else bi ((2 * y2) + 1) (fun x1 => f_X8_firstTaking_L4 y0 nn y2 x1)
set_option maxHeartbeats 4000000 in
set_option maxRecDepth 100000 in
theorem g_X8_firstTaking_L4 {X : KX} {D : va_G} {T : Nat → ClassId} {Q : Int32 × Int32 → State → Prop} {n : Nat × Nat} (C : Cx X D T cX8_firstTaking RX8 { frames := 0, cells := 0, slots := 0, locals := 0 }) (hnn : n.1 ≤ 0 ∧ n.2 ≤ 0) (hn : kxL X = 3)   (y0 : Int32) (hk : ∀ v : Int32 × Int32, GG X D Q n ([]) [(0, .int y0), (1, .int v.1), (2, .int v.2)] 27 [] (some (v))) : ∀ (nn : Nat) (y1 : Int32) (y2 : Int32), GG X D Q n ([]) [(0, .int y0), (1, .int y1), (2, .int y2)] 4 [] (f_X8_firstTaking_L4 y0 nn y1 y2) := by
  intro nn
  induction nn with
  | zero => intros; exact gg_none
  | succ nn ih =>
    intro y1 y2
    unfold f_X8_firstTaking_L4
    refine gg_iload_n C dX8_firstTaking_4 rfl 2 rfl ?_
    refine gg_iload_n C dX8_firstTaking_5 rfl 0 rfl ?_
    refine gg_icmp_gt C dX8_firstTaking_6 (tgt := 27) (by decide) (fun _ => ?_) (fun _ => ?_)
    · refine gg_sub [0, 1, 2] rfl ?_
      exact hk (y1, y2)
    · refine gg_iload_n C dX8_firstTaking_9 rfl 2 rfl ?_
      refine gg_sipush C dX8_firstTaking_10 kS_999 ?_
      refine gg_icmp_gt C dX8_firstTaking_13 (tgt := 27) (by decide) (fun _ => ?_) (fun _ => ?_)
      · refine gg_sub [0, 1, 2] rfl ?_
        exact hk (y1, y2)
      · refine gg_iload_n C dX8_firstTaking_16 rfl 2 rfl ?_
        refine gg_istore_n C dX8_firstTaking_17 rfl hn (by decide) (lv' := [(1, .int y2), (0, .int y0), (2, .int y2)]) rfl ?_
        refine gg_iconst C dX8_firstTaking_18 kI_2 ?_
        refine gg_iload_n C dX8_firstTaking_19 rfl 2 rfl ?_
        refine gg_imul C dX8_firstTaking_20 ?_
        refine gg_iconst C dX8_firstTaking_21 kI_1 ?_
        refine gg_iadd C dX8_firstTaking_22 ?_
        refine gg_bi (fun x1 => ?_)
        refine gg_istore_n C dX8_firstTaking_23 rfl hn (by decide) (lv' := [(2, .int x1), (1, .int y2), (0, .int y0)]) rfl ?_
        refine gg_goto C dX8_firstTaking_24 (tgt := 4) (by decide) ?_
        refine gg_sub [2, 1, 0] rfl ?_
        exact ih y2 x1
def f_X8_firstTaking (v0 : Int32) : Option (Int32) := jn (α := Int32 × Int32) (f_X8_firstTaking_L4 v0 100 1 1) (fun z2 => some (v0 - z2.1))
set_option maxHeartbeats 4000000 in
set_option maxRecDepth 100000 in
theorem c_X8_firstTaking (l : Launch) (D : va_G) (T : Nat → ClassId)   (v0 : Int32) (r : Int32) (h : f_X8_firstTaking v0 = some r) : Kt l D T yX8_firstTaking cX8_firstTaking 3 (some .int) (0, 0, 0, 0) [.int v0] ([]) (FF (fun (r : Int32) => some (.int r)) (fun r => []) r) := by
  refine kt_of (own := RX8) (nm := "firstTaking") (lv := [(0, .int v0)]) (by decide) rfl rfl rfl (Nat.le_of_ble_eq_true rfl) h (fun X hn C M => ?_)
  have hnn : ((0, 0) : Nat × Nat).1 ≤ 0 ∧ ((0, 0) : Nat × Nat).2 ≤ 0 := ⟨Nat.le_refl 0, Nat.le_refl 0⟩
  unfold f_X8_firstTaking
  refine gg_iconst C dX8_firstTaking_0 kI_1 ?_
  refine gg_istore_n C dX8_firstTaking_1 rfl hn (by decide) (lv' := [(1, .int 1), (0, .int v0)]) rfl ?_
  refine gg_iconst C dX8_firstTaking_2 kI_1 ?_
  refine gg_istore_n C dX8_firstTaking_3 rfl hn (by decide) (lv' := [(2, .int 1), (1, .int 1), (0, .int v0)]) rfl ?_
  refine gg_join (α := Int32 × Int32) 27 (fun z2 => []) (fun z2 => [(0, .int v0), (1, .int z2.1), (2, .int z2.2)]) (fun z2 => []) (fun z2 => ?_) (fun K3 => ?_)
  · refine gg_iload_n C dX8_firstTaking_27 rfl 0 rfl ?_
    refine gg_iload_n C dX8_firstTaking_28 rfl 1 rfl ?_
    refine gg_isub C dX8_firstTaking_29 ?_
    exact gg_iret C M dX8_firstTaking_30 ⟨rfl, rfl⟩
  · refine gg_sub [2, 1, 0] rfl ?_
    exact g_X8_firstTaking_L4 C hnn hn  v0 K3 100 1 1
def f_X1_placeBehind_L27 (y3 : Int32) : Nat → Int32 → Int32 → Int32 → Option (Int32 × Int32 × Int32)
  | 0, _, _, _ => none
  | nn + 1, y4, y5, y6 => if y6 ≤ 0 then some (y4, y5, y6) else jn (α := Int32) (if y6 - y6 / 2 * 2 = 1 then gd y3 (bi ((y4 * y5) - (y4 * y5) / y3 * y3) (fun x5 => some x5)) else some y4) (fun z3 => gd y3 (bi ((y5 * y5) - (y5 * y5) / y3 * y3) (fun x6 => bi (y6 / 2) (fun x7 => f_X1_placeBehind_L27 y3 nn z3 x6 x7))))
set_option maxHeartbeats 4000000 in
set_option maxRecDepth 100000 in
theorem g_X1_placeBehind_L27 {X : KX} {D : va_G} {T : Nat → ClassId} {Q : Int32 × Int32 × Int32 → State → Prop} {n : Nat × Nat} (C : Cx X D T cX1_placeBehind RX1 { frames := 0, cells := 0, slots := 0, locals := 0 }) (hnn : n.1 ≤ 0 ∧ n.2 ≤ 0) (hn : kxL X = 7)   (y0 : Int32) (y1 : Int32) (y2 : Int32) (y3 : Int32) (hk : ∀ v : Int32 × Int32 × Int32, GG X D Q n ([]) [(0, .int y0), (1, .int y1), (2, .int y2), (3, .int y3), (4, .int v.1), (5, .int v.2.1), (6, .int v.2.2)] 67 [] (some (v))) : ∀ (nn : Nat) (y4 : Int32) (y5 : Int32) (y6 : Int32), GG X D Q n ([]) [(0, .int y0), (1, .int y1), (2, .int y2), (3, .int y3), (4, .int y4), (5, .int y5), (6, .int y6)] 27 [] (f_X1_placeBehind_L27 y3 nn y4 y5 y6) := by
  intro nn
  induction nn with
  | zero => intros; exact gg_none
  | succ nn ih =>
    intro y4 y5 y6
    unfold f_X1_placeBehind_L27
    refine gg_iload C dX1_placeBehind_27 6 rfl ?_
    refine gg_if_le C dX1_placeBehind_29 (tgt := 67) (by decide) (fun _ => ?_) (fun _ => ?_)
    · refine gg_sub [0, 1, 2, 3, 4, 5, 6] rfl ?_
      exact hk (y4, y5, y6)
    · refine gg_iload C dX1_placeBehind_32 6 rfl ?_
      refine gg_iconst C dX1_placeBehind_34 kI_2 ?_
      refine gg_iremK C dX1_placeBehind_35 (by decide) ?_
      refine gg_iconst C dX1_placeBehind_36 kI_1 ?_
      refine gg_join (α := Int32) 49 (fun z3 => []) (fun z3 => [(0, .int y0), (1, .int y1), (2, .int y2), (3, .int y3), (4, .int z3), (5, .int y5), (6, .int y6)]) (fun z3 => []) (fun z3 => ?_) (fun K4 => ?_)
      · refine gg_iload C dX1_placeBehind_49 5 rfl ?_
        refine gg_iload C dX1_placeBehind_51 5 rfl ?_
        refine gg_imul C dX1_placeBehind_53 ?_
        refine gg_iload_n C dX1_placeBehind_54 rfl 3 rfl ?_
        refine gg_irem C dX1_placeBehind_55 ?_
        refine gg_bi (fun x6 => ?_)
        refine gg_istore C dX1_placeBehind_56 hn (by decide) (lv' := [(5, .int x6), (0, .int y0), (1, .int y1), (2, .int y2), (3, .int y3), (4, .int z3), (6, .int y6)]) rfl ?_
        refine gg_iload C dX1_placeBehind_58 6 rfl ?_
        refine gg_iconst C dX1_placeBehind_60 kI_2 ?_
        refine gg_idivK C dX1_placeBehind_61 (by decide) ?_
        refine gg_bi (fun x7 => ?_)
        refine gg_istore C dX1_placeBehind_62 hn (by decide) (lv' := [(6, .int x7), (5, .int x6), (0, .int y0), (1, .int y1), (2, .int y2), (3, .int y3), (4, .int z3)]) rfl ?_
        refine gg_goto C dX1_placeBehind_64 (tgt := 27) (by decide) ?_
        refine gg_sub [2, 3, 4, 5, 6, 1, 0] rfl ?_
        exact ih z3 x6 x7
      · refine gg_icmp_ne C dX1_placeBehind_37 (tgt := 49) (by decide) (fun _ => ?_) (fun _ => ?_)
        · refine gg_sub [0, 1, 2, 3, 4, 5, 6] rfl ?_
          exact K4 y4
        · refine gg_iload C dX1_placeBehind_40 4 rfl ?_
          refine gg_iload C dX1_placeBehind_42 5 rfl ?_
          refine gg_imul C dX1_placeBehind_44 ?_
          refine gg_iload_n C dX1_placeBehind_45 rfl 3 rfl ?_
          refine gg_irem C dX1_placeBehind_46 ?_
          refine gg_bi (fun x5 => ?_)
          refine gg_istore C dX1_placeBehind_47 hn (by decide) (lv' := [(4, .int x5), (0, .int y0), (1, .int y1), (2, .int y2), (3, .int y3), (5, .int y5), (6, .int y6)]) rfl ?_
          refine gg_sub [1, 2, 3, 4, 0, 5, 6] rfl ?_
          exact K4 x5
def f_X1_placeBehind (v0 : Int32) (v1 : Int32) (v2 : Int32) : Option (Int32) := bi (v0 - 1) (fun x1 => if x1 < 1 then some v1 else if v1 < x1 then gd x1 (bi (2 - 2 / x1 * x1) (fun x2 => jn (α := Int32 × Int32 × Int32) (f_X1_placeBehind_L27 x1 100 v1 x2 v2) (fun z8 => some z8.1))) else some v1)
set_option maxHeartbeats 4000000 in
set_option maxRecDepth 100000 in
theorem c_X1_placeBehind (l : Launch) (D : va_G) (T : Nat → ClassId)   (v0 : Int32) (v1 : Int32) (v2 : Int32) (r : Int32) (h : f_X1_placeBehind v0 v1 v2 = some r) : Kt l D T yX1_placeBehind cX1_placeBehind 7 (some .int) (0, 0, 0, 0) [.int v0, .int v1, .int v2] ([]) (FF (fun (r : Int32) => some (.int r)) (fun r => []) r) := by
  refine kt_of (own := RX1) (nm := "placeBehind") (lv := [(0, .int v0), (1, .int v1), (2, .int v2)]) (by decide) rfl rfl rfl (Nat.le_of_ble_eq_true rfl) h (fun X hn C M => ?_)
  have hnn : ((0, 0) : Nat × Nat).1 ≤ 0 ∧ ((0, 0) : Nat × Nat).2 ≤ 0 := ⟨Nat.le_refl 0, Nat.le_refl 0⟩
  unfold f_X1_placeBehind
  refine gg_iload_n C dX1_placeBehind_0 rfl 0 rfl ?_
  refine gg_iconst C dX1_placeBehind_1 kI_1 ?_
  refine gg_isub C dX1_placeBehind_2 ?_
  refine gg_bi (fun x1 => ?_)
  refine gg_istore_n C dX1_placeBehind_3 rfl hn (by decide) (lv' := [(3, .int x1), (0, .int v0), (1, .int v1), (2, .int v2)]) rfl ?_
  refine gg_iload_n C dX1_placeBehind_4 rfl 0 rfl ?_
  refine gg_iconst C dX1_placeBehind_5 kI_1 ?_
  refine gg_icmp_lt C dX1_placeBehind_6 (tgt := 14) (by decide) (fun _ => ?_) (fun _ => ?_)
  · refine gg_iload_n C dX1_placeBehind_14 rfl 2 rfl ?_
    exact gg_iret C M dX1_placeBehind_15 ⟨rfl, rfl⟩
  · refine gg_iload_n C dX1_placeBehind_9 rfl 2 rfl ?_
    refine gg_iload_n C dX1_placeBehind_10 rfl 0 rfl ?_
    refine gg_icmp_lt C dX1_placeBehind_11 (tgt := 16) (by decide) (fun _ => ?_) (fun _ => ?_)
    · refine gg_iload_n C dX1_placeBehind_16 rfl 2 rfl ?_
      refine gg_istore C dX1_placeBehind_17 hn (by decide) (lv' := [(4, .int v1), (3, .int x1), (0, .int v0), (1, .int v1), (2, .int v2)]) rfl ?_
      refine gg_iconst C dX1_placeBehind_19 kI_2 ?_
      refine gg_iload_n C dX1_placeBehind_20 rfl 1 rfl ?_
      refine gg_irem C dX1_placeBehind_21 ?_
      refine gg_bi (fun x2 => ?_)
      refine gg_istore C dX1_placeBehind_22 hn (by decide) (lv' := [(5, .int x2), (4, .int v1), (3, .int x1), (0, .int v0), (1, .int v1), (2, .int v2)]) rfl ?_
      refine gg_iload_n C dX1_placeBehind_24 rfl 5 rfl ?_
      refine gg_istore C dX1_placeBehind_25 hn (by decide) (lv' := [(6, .int v2), (5, .int x2), (4, .int v1), (3, .int x1), (0, .int v0), (1, .int v1), (2, .int v2)]) rfl ?_
      refine gg_join (α := Int32 × Int32 × Int32) 67 (fun z8 => []) (fun z8 => [(0, .int v0), (1, .int v1), (2, .int v2), (3, .int x1), (4, .int z8.1), (5, .int z8.2.1), (6, .int z8.2.2)]) (fun z8 => []) (fun z8 => ?_) (fun K9 => ?_)
      · refine gg_iload C dX1_placeBehind_67 4 rfl ?_
        exact gg_iret C M dX1_placeBehind_69 ⟨rfl, rfl⟩
      · refine gg_sub [4, 5, 6, 3, 2, 1, 0] rfl ?_
        exact g_X1_placeBehind_L27 C hnn hn  v0 v1 v2 x1 K9 100 v1 x2 v2
    · refine gg_iload_n C dX1_placeBehind_14 rfl 2 rfl ?_
      exact gg_iret C M dX1_placeBehind_15 ⟨rfl, rfl⟩
def f_X1_round_L20 (y0 : Int32) (y1 : Int32) : Nat → Int32 → Int32 → Int32 → Option (Int32 × Int32 × Int32)
  | 0, _, _, _ => none
  | nn + 1, y2, y3, y4 => if y0 ≤ y4 then some (y2, y3, y4) else gd y1 (if y2 = 1 - 1 / y1 * y1 then some (y2, y3, y4) else gd y1 (bi ((y2 * 2) - (y2 * 2) / y1 * y1) (fun x3 => f_X1_round_L20 y0 y1 nn x3 (y3 + 1) (y4 + 1))))
set_option maxHeartbeats 4000000 in
set_option maxRecDepth 100000 in
theorem g_X1_round_L20 {X : KX} {D : va_G} {T : Nat → ClassId} {Q : Int32 × Int32 × Int32 → State → Prop} {n : Nat × Nat} (C : Cx X D T cX1_round RX1 { frames := 0, cells := 0, slots := 0, locals := 0 }) (hnn : n.1 ≤ 0 ∧ n.2 ≤ 0) (hn : kxL X = 5)   (y0 : Int32) (y1 : Int32) (hk : ∀ v : Int32 × Int32 × Int32, GG X D Q n ([]) [(0, .int y0), (1, .int y1), (2, .int v.1), (3, .int v.2.1), (4, .int v.2.2)] 48 [] (some (v))) : ∀ (nn : Nat) (y2 : Int32) (y3 : Int32) (y4 : Int32), GG X D Q n ([]) [(0, .int y0), (1, .int y1), (2, .int y2), (3, .int y3), (4, .int y4)] 20 [] (f_X1_round_L20 y0 y1 nn y2 y3 y4) := by
  intro nn
  induction nn with
  | zero => intros; exact gg_none
  | succ nn ih =>
    intro y2 y3 y4
    unfold f_X1_round_L20
    refine gg_iload C dX1_round_20 4 rfl ?_
    refine gg_iload_n C dX1_round_22 rfl 0 rfl ?_
    refine gg_icmp_ge C dX1_round_23 (tgt := 48) (by decide) (fun _ => ?_) (fun _ => ?_)
    · refine gg_sub [0, 1, 2, 3, 4] rfl ?_
      exact hk (y2, y3, y4)
    · refine gg_iload_n C dX1_round_26 rfl 2 rfl ?_
      refine gg_iconst C dX1_round_27 kI_1 ?_
      refine gg_iload_n C dX1_round_28 rfl 1 rfl ?_
      refine gg_irem C dX1_round_29 ?_
      refine gg_icmp_eq C dX1_round_30 (tgt := 48) (by decide) (fun _ => ?_) (fun _ => ?_)
      · refine gg_sub [0, 1, 2, 3, 4] rfl ?_
        exact hk (y2, y3, y4)
      · refine gg_iload_n C dX1_round_33 rfl 2 rfl ?_
        refine gg_iconst C dX1_round_34 kI_2 ?_
        refine gg_imul C dX1_round_35 ?_
        refine gg_iload_n C dX1_round_36 rfl 1 rfl ?_
        refine gg_irem C dX1_round_37 ?_
        refine gg_bi (fun x3 => ?_)
        refine gg_istore_n C dX1_round_38 rfl hn (by decide) (lv' := [(2, .int x3), (0, .int y0), (1, .int y1), (3, .int y3), (4, .int y4)]) rfl ?_
        refine gg_iinc C dX1_round_39 (j := 3) rfl (v := y3 + 1) (by first | rfl | decide) hn (by decide) (lv' := [(3, .int (y3 + 1)), (2, .int x3), (0, .int y0), (1, .int y1), (4, .int y4)]) rfl ?_
        refine gg_iinc C dX1_round_42 (j := 4) rfl (v := y4 + 1) (by first | rfl | decide) hn (by decide) (lv' := [(4, .int (y4 + 1)), (3, .int (y3 + 1)), (2, .int x3), (0, .int y0), (1, .int y1)]) rfl ?_
        refine gg_goto C dX1_round_45 (tgt := 20) (by decide) ?_
        refine gg_sub [3, 4, 2, 1, 0] rfl ?_
        exact ih x3 (y3 + 1) (y4 + 1)
def f_X1_round (v0 : Int32) : Option (Int32) := bi (v0 - 1) (fun x1 => if 1 ≤ x1 then gd x1 (bi (2 - 2 / x1 * x1) (fun x2 => jn (α := Int32 × Int32 × Int32) (f_X1_round_L20 v0 x1 100 x2 1 0) (fun z4 => some z4.2.1))) else some 1)
set_option maxHeartbeats 4000000 in
set_option maxRecDepth 100000 in
theorem c_X1_round (l : Launch) (D : va_G) (T : Nat → ClassId)   (v0 : Int32) (r : Int32) (h : f_X1_round v0 = some r) : Kt l D T yX1_round cX1_round 5 (some .int) (0, 0, 0, 0) [.int v0] ([]) (FF (fun (r : Int32) => some (.int r)) (fun r => []) r) := by
  refine kt_of (own := RX1) (nm := "round") (lv := [(0, .int v0)]) (by decide) rfl rfl rfl (Nat.le_of_ble_eq_true rfl) h (fun X hn C M => ?_)
  have hnn : ((0, 0) : Nat × Nat).1 ≤ 0 ∧ ((0, 0) : Nat × Nat).2 ≤ 0 := ⟨Nat.le_refl 0, Nat.le_refl 0⟩
  unfold f_X1_round
  refine gg_iload_n C dX1_round_0 rfl 0 rfl ?_
  refine gg_iconst C dX1_round_1 kI_1 ?_
  refine gg_isub C dX1_round_2 ?_
  refine gg_bi (fun x1 => ?_)
  refine gg_istore_n C dX1_round_3 rfl hn (by decide) (lv' := [(1, .int x1), (0, .int v0)]) rfl ?_
  refine gg_iload_n C dX1_round_4 rfl 0 rfl ?_
  refine gg_iconst C dX1_round_5 kI_1 ?_
  refine gg_icmp_ge C dX1_round_6 (tgt := 11) (by decide) (fun _ => ?_) (fun _ => ?_)
  · refine gg_iconst C dX1_round_11 kI_2 ?_
    refine gg_iload_n C dX1_round_12 rfl 0 rfl ?_
    refine gg_irem C dX1_round_13 ?_
    refine gg_bi (fun x2 => ?_)
    refine gg_istore_n C dX1_round_14 rfl hn (by decide) (lv' := [(2, .int x2), (1, .int x1), (0, .int v0)]) rfl ?_
    refine gg_iconst C dX1_round_15 kI_1 ?_
    refine gg_istore_n C dX1_round_16 rfl hn (by decide) (lv' := [(3, .int 1), (2, .int x2), (1, .int x1), (0, .int v0)]) rfl ?_
    refine gg_iconst C dX1_round_17 kI_0 ?_
    refine gg_istore C dX1_round_18 hn (by decide) (lv' := [(4, .int 0), (3, .int 1), (2, .int x2), (1, .int x1), (0, .int v0)]) rfl ?_
    refine gg_join (α := Int32 × Int32 × Int32) 48 (fun z4 => []) (fun z4 => [(0, .int v0), (1, .int x1), (2, .int z4.1), (3, .int z4.2.1), (4, .int z4.2.2)]) (fun z4 => []) (fun z4 => ?_) (fun K5 => ?_)
    · refine gg_iload_n C dX1_round_48 rfl 3 rfl ?_
      exact gg_iret C M dX1_round_49 ⟨rfl, rfl⟩
    · refine gg_sub [4, 3, 2, 1, 0] rfl ?_
      exact g_X1_round_L20 C hnn hn  v0 x1 K5 100 x2 1 0
  · refine gg_iconst C dX1_round_9 kI_1 ?_
    exact gg_iret C M dX1_round_10 ⟨rfl, rfl⟩
def f_X3_whole (v0 : Int32) : Option (Int64) := some (v0.toInt64 * 232792560)
set_option maxHeartbeats 4000000 in
set_option maxRecDepth 100000 in
theorem c_X3_whole (l : Launch) (D : va_G) (T : Nat → ClassId)   (v0 : Int32) (r : Int64) (h : f_X3_whole v0 = some r) : Kt l D T yX3_whole cX3_whole 1 (some .long) (0, 0, 0, 0) [.int v0] ([]) (FF (fun (r : Int64) => some (.long r)) (fun r => []) r) := by
  refine kt_of (own := RX3) (nm := "whole") (lv := [(0, .int v0)]) (by decide) rfl rfl rfl (Nat.le_of_ble_eq_true rfl) h (fun X hn C M => ?_)
  have hnn : ((0, 0) : Nat × Nat).1 ≤ 0 ∧ ((0, 0) : Nat × Nat).2 ≤ 0 := ⟨Nat.le_refl 0, Nat.le_refl 0⟩
  unfold f_X3_whole
  refine gg_iload_n C dX3_whole_0 rfl 0 rfl ?_
  refine gg_i2l C dX3_whole_1 ?_
  refine gg_ldc2 C tw_480 dX3_whole_2 ?_
  refine gg_lmul C dX3_whole_5 ?_
  exact gg_lret C M dX3_whole_6 ⟨rfl, rfl⟩
def f_X3_weight_L14 (y0 : Int32) : Nat → Int64 → Int32 → Option (Int64 × Int32)
  | 0, _, _ => none
  | nn + 1, y2, y4 => if y0 ≤ y4 then some (y2, y4) else gdL y4.toInt64 (bi (y2 + (232792560 / y4.toInt64)) (fun x1 => f_X3_weight_L14 y0 nn x1 (y4 + 1)))
set_option maxHeartbeats 4000000 in
set_option maxRecDepth 100000 in
theorem g_X3_weight_L14 {X : KX} {D : va_G} {T : Nat → ClassId} {Q : Int64 × Int32 → State → Prop} {n : Nat × Nat} (C : Cx X D T cX3_weight RX3 { frames := 0, cells := 0, slots := 0, locals := 0 }) (hnn : n.1 ≤ 0 ∧ n.2 ≤ 0) (hn : kxL X = 5)   (y0 : Int32) (y1 : Int32) (hk : ∀ v : Int64 × Int32, GG X D Q n ([]) [(0, .int y0), (1, .int y1), (2, .long v.1), (4, .int v.2)] 36 [] (some (v))) : ∀ (nn : Nat) (y2 : Int64) (y4 : Int32), GG X D Q n ([]) [(0, .int y0), (1, .int y1), (2, .long y2), (4, .int y4)] 14 [] (f_X3_weight_L14 y0 nn y2 y4) := by
  intro nn
  induction nn with
  | zero => intros; exact gg_none
  | succ nn ih =>
    intro y2 y4
    unfold f_X3_weight_L14
    refine gg_iload C dX3_weight_14 3 rfl ?_
    refine gg_iload_n C dX3_weight_16 rfl 0 rfl ?_
    refine gg_icmp_ge C dX3_weight_17 (tgt := 36) (by decide) (fun _ => ?_) (fun _ => ?_)
    · refine gg_sub [0, 1, 2, 3] rfl ?_
      exact hk (y2, y4)
    · refine gg_lload_n C dX3_weight_20 rfl 2 rfl ?_
      refine gg_ldc2 C tw_480 dX3_weight_21 ?_
      refine gg_iload C dX3_weight_24 3 rfl ?_
      refine gg_i2l C dX3_weight_26 ?_
      refine gg_ldiv C dX3_weight_27 ?_
      refine gg_ladd C dX3_weight_28 ?_
      refine gg_biL (fun x1 => ?_)
      refine gg_lstore_n C dX3_weight_29 rfl hn (by decide) (lv' := [(2, .long x1), (0, .int y0), (1, .int y1), (4, .int y4)]) rfl ?_
      refine gg_iinc C dX3_weight_30 (j := 3) rfl (v := y4 + 1) (by first | rfl | decide) hn (by decide) (lv' := [(4, .int (y4 + 1)), (2, .long x1), (0, .int y0), (1, .int y1)]) rfl ?_
      refine gg_goto C dX3_weight_33 (tgt := 14) (by decide) ?_
      refine gg_sub [2, 3, 1, 0] rfl ?_
      exact ih x1 (y4 + 1)
def f_X3_weight (v0 : Int32) (v1 : Int32) : Option (Int64) := if 1 ≤ v1 then jn (α := Int64 × Int32) (f_X3_weight_L14 v0 100 0 v1) (fun z2 => some (v1.toInt64 * z2.1)) else some 232792560
set_option maxHeartbeats 4000000 in
set_option maxRecDepth 100000 in
theorem c_X3_weight (l : Launch) (D : va_G) (T : Nat → ClassId)   (v0 : Int32) (v1 : Int32) (r : Int64) (h : f_X3_weight v0 v1 = some r) : Kt l D T yX3_weight cX3_weight 5 (some .long) (0, 0, 0, 0) [.int v0, .int v1] ([]) (FF (fun (r : Int64) => some (.long r)) (fun r => []) r) := by
  refine kt_of (own := RX3) (nm := "weight") (lv := [(0, .int v0), (1, .int v1)]) (by decide) rfl rfl rfl (Nat.le_of_ble_eq_true rfl) h (fun X hn C M => ?_)
  have hnn : ((0, 0) : Nat × Nat).1 ≤ 0 ∧ ((0, 0) : Nat × Nat).2 ≤ 0 := ⟨Nat.le_refl 0, Nat.le_refl 0⟩
  unfold f_X3_weight
  refine gg_iload_n C dX3_weight_0 rfl 1 rfl ?_
  refine gg_iconst C dX3_weight_1 kI_1 ?_
  refine gg_icmp_ge C dX3_weight_2 (tgt := 9) (by decide) (fun _ => ?_) (fun _ => ?_)
  · refine gg_lconst C dX3_weight_9 (v := 0) (by decide) ?_
    refine gg_lstore_n C dX3_weight_10 rfl hn (by decide) (lv' := [(2, .long 0), (0, .int v0), (1, .int v1)]) rfl ?_
    refine gg_iload_n C dX3_weight_11 rfl 2 rfl ?_
    refine gg_istore C dX3_weight_12 hn (by decide) (lv' := [(4, .int v1), (2, .long 0), (0, .int v0), (1, .int v1)]) rfl ?_
    refine gg_join (α := Int64 × Int32) 36 (fun z2 => []) (fun z2 => [(0, .int v0), (1, .int v1), (2, .long z2.1), (4, .int z2.2)]) (fun z2 => []) (fun z2 => ?_) (fun K3 => ?_)
    · refine gg_iload_n C dX3_weight_36 rfl 1 rfl ?_
      refine gg_i2l C dX3_weight_37 ?_
      refine gg_lload_n C dX3_weight_38 rfl 2 rfl ?_
      refine gg_lmul C dX3_weight_39 ?_
      exact gg_lret C M dX3_weight_40 ⟨rfl, rfl⟩
    · refine gg_sub [2, 3, 1, 0] rfl ?_
      exact g_X3_weight_L14 C hnn hn  v0 v1 K3 100 0 v1
  · refine gg_ldc2 C tw_480 dX3_weight_5 ?_
    exact gg_lret C M dX3_weight_8 ⟨rfl, rfl⟩
def f_X3_best_L4 (y0 : Int32) : Nat → Int32 → Int32 → Option (Int32 × Int32)
  | 0, _, _ => none
  | nn + 1, y1, y2 => if y0 ≤ y2 then some (y1, y2) else jn (f_X3_weight y0 y2) (fun r1 => jn (f_X3_weight y0 y1) (fun r2 => if lg_cmp r1 r2 ≤ 0 then f_X3_best_L4 y0 nn y1 (y2 + 1) else f_X3_best_L4 y0 nn y2 (y2 + 1)))
set_option maxHeartbeats 4000000 in
set_option maxRecDepth 100000 in
theorem g_X3_best_L4 {X : KX} {D : va_G} {T : Nat → ClassId} {Q : Int32 × Int32 → State → Prop} {n : Nat × Nat} (C : Cx X D T cX3_best RX3 { frames := 1, cells := 0, slots := 0, locals := 24 }) (hnn : n.1 ≤ 0 ∧ n.2 ≤ 0) (hn : kxL X = 3)   (y0 : Int32) (hk : ∀ v : Int32 × Int32, GG X D Q n ([]) [(0, .int y0), (1, .int v.1), (2, .int v.2)] 31 [] (some (v))) : ∀ (nn : Nat) (y1 : Int32) (y2 : Int32), GG X D Q n ([]) [(0, .int y0), (1, .int y1), (2, .int y2)] 4 [] (f_X3_best_L4 y0 nn y1 y2) := by
  intro nn
  induction nn with
  | zero => intros; exact gg_none
  | succ nn ih =>
    intro y1 y2
    unfold f_X3_best_L4
    refine gg_iload_n C dX3_best_4 rfl 2 rfl ?_
    refine gg_iload_n C dX3_best_5 rfl 0 rfl ?_
    refine gg_icmp_ge C dX3_best_6 (tgt := 31) (by decide) (fun _ => ?_) (fun _ => ?_)
    · refine gg_sub [0, 1, 2] rfl ?_
      exact hk (y1, y2)
    · refine gg_iload_n C dX3_best_9 rfl 0 rfl ?_
      refine gg_iload_n C dX3_best_10 rfl 2 rfl ?_
      refine gg_callS C (fun l r h => c_X3_weight l D T y0 y2 r h) lk_X3_11 ⟨by decide, by decide⟩ hnn rfl (rest := []) rfl (Nat.le_of_ble_eq_true rfl) dX3_best_11 cut_none (st2 := fun r1 => [.long r1]) (fun _ => rfl) (fun r1 => ?_)
      refine gg_iload_n C dX3_best_14 rfl 0 rfl ?_
      refine gg_iload_n C dX3_best_15 rfl 1 rfl ?_
      refine gg_callS C (fun l r h => c_X3_weight l D T y0 y1 r h) lk_X3_11 ⟨by decide, by decide⟩ hnn rfl (rest := [.long r1]) rfl (Nat.le_of_ble_eq_true rfl) dX3_best_16 cut_none (st2 := fun r2 => [.long r2, .long r1]) (fun _ => rfl) (fun r2 => ?_)
      refine gg_lcmp C dX3_best_19 ?_
      refine gg_if_le C dX3_best_20 (tgt := 25) (by decide) (fun _ => ?_) (fun _ => ?_)
      · refine gg_iinc C dX3_best_25 (j := 2) rfl (v := y2 + 1) (by first | rfl | decide) hn (by decide) (lv' := [(2, .int (y2 + 1)), (0, .int y0), (1, .int y1)]) rfl ?_
        refine gg_goto C dX3_best_28 (tgt := 4) (by decide) ?_
        refine gg_sub [1, 2, 0] rfl ?_
        exact ih y1 (y2 + 1)
      · refine gg_iload_n C dX3_best_23 rfl 2 rfl ?_
        refine gg_istore_n C dX3_best_24 rfl hn (by decide) (lv' := [(1, .int y2), (0, .int y0), (2, .int y2)]) rfl ?_
        refine gg_iinc C dX3_best_25 (j := 2) rfl (v := y2 + 1) (by first | rfl | decide) hn (by decide) (lv' := [(2, .int (y2 + 1)), (1, .int y2), (0, .int y0)]) rfl ?_
        refine gg_goto C dX3_best_28 (tgt := 4) (by decide) ?_
        refine gg_sub [2, 1, 0] rfl ?_
        exact ih y2 (y2 + 1)
def f_X3_best (v0 : Int32) : Option (Int32) := jn (α := Int32 × Int32) (f_X3_best_L4 v0 100 0 1) (fun z3 => some z3.1)
set_option maxHeartbeats 4000000 in
set_option maxRecDepth 100000 in
theorem c_X3_best (l : Launch) (D : va_G) (T : Nat → ClassId)   (v0 : Int32) (r : Int32) (h : f_X3_best v0 = some r) : Kt l D T yX3_best cX3_best 3 (some .int) (1, 0, 0, 24) [.int v0] ([]) (FF (fun (r : Int32) => some (.int r)) (fun r => []) r) := by
  refine kt_of (own := RX3) (nm := "best") (lv := [(0, .int v0)]) (by decide) rfl rfl rfl (Nat.le_of_ble_eq_true rfl) h (fun X hn C M => ?_)
  have hnn : ((0, 0) : Nat × Nat).1 ≤ 0 ∧ ((0, 0) : Nat × Nat).2 ≤ 0 := ⟨Nat.le_refl 0, Nat.le_refl 0⟩
  unfold f_X3_best
  refine gg_iconst C dX3_best_0 kI_0 ?_
  refine gg_istore_n C dX3_best_1 rfl hn (by decide) (lv' := [(1, .int 0), (0, .int v0)]) rfl ?_
  refine gg_iconst C dX3_best_2 kI_1 ?_
  refine gg_istore_n C dX3_best_3 rfl hn (by decide) (lv' := [(2, .int 1), (1, .int 0), (0, .int v0)]) rfl ?_
  refine gg_join (α := Int32 × Int32) 31 (fun z3 => []) (fun z3 => [(0, .int v0), (1, .int z3.1), (2, .int z3.2)]) (fun z3 => []) (fun z3 => ?_) (fun K4 => ?_)
  · refine gg_iload_n C dX3_best_31 rfl 1 rfl ?_
    exact gg_iret C M dX3_best_32 ⟨rfl, rfl⟩
  · refine gg_sub [2, 1, 0] rfl ?_
    exact g_X3_best_L4 C hnn hn  v0 K4 100 0 1
def f_X5_digit (v0 : Int32) (v1 : Int32) (v2 : Int32) : Option (Int32) := gu ((v1 - 1) - v2) 10 (gd (tens ((v1 - 1) - v2).toNatClampNeg) (some ((v0 / (tens ((v1 - 1) - v2).toNatClampNeg)) - (v0 / (tens ((v1 - 1) - v2).toNatClampNeg)) / 10 * 10)))
set_option maxHeartbeats 4000000 in
set_option maxRecDepth 100000 in
theorem c_X5_digit (l : Launch) (D : va_G) (T : Nat → ClassId)   (v0 : Int32) (v1 : Int32) (v2 : Int32) (r : Int32) (h : f_X5_digit v0 v1 v2 = some r) : Kt l D T yX5_digit cX5_digit 3 (some .int) (0, 0, 0, 0) [.int v0, .int v1, .int v2] ([]) (FF (fun (r : Int32) => some (.int r)) (fun r => []) r) := by
  refine kt_of (own := RX5) (nm := "digit") (lv := [(0, .int v0), (1, .int v1), (2, .int v2)]) (by decide) rfl rfl rfl (Nat.le_of_ble_eq_true rfl) h (fun X hn C M => ?_)
  have hnn : ((0, 0) : Nat × Nat).1 ≤ 0 ∧ ((0, 0) : Nat × Nat).2 ≤ 0 := ⟨Nat.le_refl 0, Nat.le_refl 0⟩
  unfold f_X5_digit
  refine gg_iload_n C dX5_digit_0 rfl 0 rfl ?_
  refine gg_gets C tw_362 dX5_digit_1 (fun tt1 htt1 => ?_)
  refine gg_iload_n C dX5_digit_4 rfl 1 rfl ?_
  refine gg_iconst C dX5_digit_5 kI_1 ?_
  refine gg_isub C dX5_digit_6 ?_
  refine gg_iload_n C dX5_digit_7 rfl 2 rfl ?_
  refine gg_isub C dX5_digit_8 ?_
  refine htt1 dX5_digit_9 ?_
  refine gg_idiv C dX5_digit_10 ?_
  refine gg_bipush C dX5_digit_11 kB_10 ?_
  refine gg_iremK C dX5_digit_13 (by decide) ?_
  exact gg_iret C M dX5_digit_14 ⟨rfl, rfl⟩
def f_X5_isRow_L25 (y0 : Int32) (y1 : Int32) : Nat → Int32 → Option ((Int32) ⊕ (Int32))
  | 0, _ => none
  | nn + 1, y2 => if y1 ≤ y2 then some (.inl y2) else jn (f_X5_digit y0 y1 y2) (fun r3 => if r3 = 0 then some (.inr 0) else f_X5_isRow_L25 y0 y1 nn (y2 + 1))
set_option maxHeartbeats 4000000 in
set_option maxRecDepth 100000 in
theorem g_X5_isRow_L25 {X : KX} {D : va_G} {T : Nat → ClassId} {Q : (Int32) ⊕ (Int32) → State → Prop} {n : Nat × Nat} (C : Cx X D T cX5_isRow RX5 { frames := 1, cells := 0, slots := 0, locals := 22 }) (hnn : n.1 ≤ 0 ∧ n.2 ≤ 0) (hn : kxL X = 3)   (y0 : Int32) (y1 : Int32) (hk : ∀ v : Int32, GG X D Q n ([]) [(0, .int y0), (1, .int y1), (2, .int v)] 47 [] (some (.inl v))) (hr0 : GG X D Q n ([]) [] 40 [.int 0] (some (.inr 0))) : ∀ (nn : Nat) (y2 : Int32), GG X D Q n ([]) [(0, .int y0), (1, .int y1), (2, .int y2)] 25 [] (f_X5_isRow_L25 y0 y1 nn y2) := by
  intro nn
  induction nn with
  | zero => intros; exact gg_none
  | succ nn ih =>
    intro y2
    unfold f_X5_isRow_L25
    refine gg_iload_n C dX5_isRow_25 rfl 2 rfl ?_
    refine gg_iload_n C dX5_isRow_26 rfl 1 rfl ?_
    refine gg_icmp_ge C dX5_isRow_27 (tgt := 47) (by decide) (fun _ => ?_) (fun _ => ?_)
    · refine gg_sub [0, 1, 2] rfl ?_
      exact hk y2
    · refine gg_iload_n C dX5_isRow_30 rfl 0 rfl ?_
      refine gg_iload_n C dX5_isRow_31 rfl 1 rfl ?_
      refine gg_iload_n C dX5_isRow_32 rfl 2 rfl ?_
      refine gg_callS C (fun l r h => c_X5_digit l D T y0 y1 y2 r h) lk_X5_23 ⟨by decide, by decide⟩ hnn rfl (rest := []) rfl (Nat.le_of_ble_eq_true rfl) dX5_isRow_33 cut_none (st2 := fun r3 => [.int r3]) (fun _ => rfl) (fun r3 => ?_)
      refine gg_if_ne C dX5_isRow_36 (tgt := 41) (by decide) (fun _ => ?_) (fun _ => ?_)
      · refine gg_iinc C dX5_isRow_41 (j := 2) rfl (v := y2 + 1) (by first | rfl | decide) hn (by decide) (lv' := [(2, .int (y2 + 1)), (0, .int y0), (1, .int y1)]) rfl ?_
        refine gg_goto C dX5_isRow_44 (tgt := 25) (by decide) ?_
        refine gg_sub [1, 2, 0] rfl ?_
        exact ih (y2 + 1)
      · refine gg_iconst C dX5_isRow_39 kI_0 ?_
        refine gg_sub [] rfl ?_
        exact hr0
def f_X5_isRow (v0 : Int32) (v1 : Int32) : Option (Int32) := gu (v1 - 1) 10 (if v0 < tens (v1 - 1).toNatClampNeg then some 0 else gu v1 10 (gd (tens v1.toNatClampNeg) (if v0 / (tens v1.toNatClampNeg) = 0 then jn (f_X5_isRow_L25 v0 v1 100 0) (Sum.elim (fun z4 => some 1) some) else some 0)))
set_option maxHeartbeats 4000000 in
set_option maxRecDepth 100000 in
theorem c_X5_isRow (l : Launch) (D : va_G) (T : Nat → ClassId)   (v0 : Int32) (v1 : Int32) (r : Int32) (h : f_X5_isRow v0 v1 = some r) : Kt l D T yX5_isRow cX5_isRow 3 (some .boolean) (1, 0, 0, 22) [.int v0, .int v1] ([]) (FF (fun (r : Int32) => some (.int r)) (fun r => []) r) := by
  refine kt_of (own := RX5) (nm := "isRow") (lv := [(0, .int v0), (1, .int v1)]) (by decide) rfl rfl rfl (Nat.le_of_ble_eq_true rfl) h (fun X hn C M => ?_)
  have hnn : ((0, 0) : Nat × Nat).1 ≤ 0 ∧ ((0, 0) : Nat × Nat).2 ≤ 0 := ⟨Nat.le_refl 0, Nat.le_refl 0⟩
  unfold f_X5_isRow
  refine gg_iload_n C dX5_isRow_0 rfl 0 rfl ?_
  refine gg_gets C tw_362 dX5_isRow_1 (fun tt1 htt1 => ?_)
  refine gg_iload_n C dX5_isRow_4 rfl 1 rfl ?_
  refine gg_iconst C dX5_isRow_5 kI_1 ?_
  refine gg_isub C dX5_isRow_6 ?_
  refine htt1 dX5_isRow_7 ?_
  refine gg_icmp_lt C dX5_isRow_8 (tgt := 21) (by decide) (fun _ => ?_) (fun _ => ?_)
  · refine gg_iconst C dX5_isRow_21 kI_0 ?_
    exact gg_zret C M dX5_isRow_22 rfl ⟨rfl, rfl⟩
  · refine gg_iload_n C dX5_isRow_11 rfl 0 rfl ?_
    refine gg_gets C tw_362 dX5_isRow_12 (fun tt2 htt2 => ?_)
    refine gg_iload_n C dX5_isRow_15 rfl 1 rfl ?_
    refine htt2 dX5_isRow_16 ?_
    refine gg_idiv C dX5_isRow_17 ?_
    refine gg_if_eq C dX5_isRow_18 (tgt := 23) (by decide) (fun _ => ?_) (fun _ => ?_)
    · refine gg_iconst C dX5_isRow_23 kI_0 ?_
      refine gg_istore_n C dX5_isRow_24 rfl hn (by decide) (lv' := [(2, .int 0), (0, .int v0), (1, .int v1)]) rfl ?_
      refine gg_jn ?_
      refine gg_sub [1, 2, 0] rfl ?_
      refine g_X5_isRow_L25 C hnn hn  v0 v1 (fun z4 => gg_leafL ?_) (gg_leafR ?_) 100 0
      · refine gg_iconst C dX5_isRow_47 kI_1 ?_
        exact gg_zret C M dX5_isRow_48 rfl ⟨rfl, rfl⟩
      · exact gg_zret C M dX5_isRow_40 rfl ⟨rfl, rfl⟩
    · refine gg_iconst C dX5_isRow_21 kI_0 ?_
      exact gg_zret C M dX5_isRow_22 rfl ⟨rfl, rfl⟩
def f_X5_isAsTold (v0 : Int32) (v1 : Int32) (v2 : Int32) : Option (Int32) := jn (f_X8_isWithin v2 1 9) (fun r1 => if r1 = 0 then some 0 else jn (f_X5_isRow v0 v2) (fun r2 => if r2 = 0 then some 0 else jn (f_X5_isRow v1 v2) (fun r3 => if r3 = 0 then some 0 else some 1)))
set_option maxHeartbeats 4000000 in
set_option maxRecDepth 100000 in
theorem c_X5_isAsTold (l : Launch) (D : va_G) (T : Nat → ClassId)   (v0 : Int32) (v1 : Int32) (v2 : Int32) (r : Int32) (h : f_X5_isAsTold v0 v1 v2 = some r) : Kt l D T yX5_isAsTold cX5_isAsTold 3 (some .boolean) (2, 0, 0, 44) [.int v0, .int v1, .int v2] ([]) (FF (fun (r : Int32) => some (.int r)) (fun r => []) r) := by
  refine kt_of (own := RX5) (nm := "isAsTold") (lv := [(0, .int v0), (1, .int v1), (2, .int v2)]) (by decide) rfl rfl rfl (Nat.le_of_ble_eq_true rfl) h (fun X hn C M => ?_)
  have hnn : ((0, 0) : Nat × Nat).1 ≤ 0 ∧ ((0, 0) : Nat × Nat).2 ≤ 0 := ⟨Nat.le_refl 0, Nat.le_refl 0⟩
  unfold f_X5_isAsTold
  refine gg_iload_n C dX5_isAsTold_0 rfl 2 rfl ?_
  refine gg_iconst C dX5_isAsTold_1 kI_1 ?_
  refine gg_bipush C dX5_isAsTold_2 kB_9 ?_
  refine gg_callN C (fun l r h => c_X8_isWithin l D T v2 1 9 r h) lk_X5_9 ⟨by decide, by decide⟩ hnn rfl (rest := []) rfl (Nat.le_of_ble_eq_true rfl) dX5_isAsTold_4 cut_none (st2 := fun r1 => [.int r1]) (fun _ => rfl) (fun r1 => ?_)
  refine gg_if_eq C dX5_isAsTold_7 (tgt := 30) (by decide) (fun _ => ?_) (fun _ => ?_)
  · refine gg_iconst C dX5_isAsTold_30 kI_0 ?_
    exact gg_zret C M dX5_isAsTold_31 rfl ⟨rfl, rfl⟩
  · refine gg_iload_n C dX5_isAsTold_10 rfl 0 rfl ?_
    refine gg_iload_n C dX5_isAsTold_11 rfl 2 rfl ?_
    refine gg_callS C (fun l r h => c_X5_isRow l D T v0 v2 r h) lk_X5_15 ⟨by decide, by decide⟩ hnn rfl (rest := []) rfl (Nat.le_of_ble_eq_true rfl) dX5_isAsTold_12 cut_none (st2 := fun r2 => [.int r2]) (fun _ => rfl) (fun r2 => ?_)
    refine gg_if_eq C dX5_isAsTold_15 (tgt := 30) (by decide) (fun _ => ?_) (fun _ => ?_)
    · refine gg_iconst C dX5_isAsTold_30 kI_0 ?_
      exact gg_zret C M dX5_isAsTold_31 rfl ⟨rfl, rfl⟩
    · refine gg_iload_n C dX5_isAsTold_18 rfl 1 rfl ?_
      refine gg_iload_n C dX5_isAsTold_19 rfl 2 rfl ?_
      refine gg_callS C (fun l r h => c_X5_isRow l D T v1 v2 r h) lk_X5_15 ⟨by decide, by decide⟩ hnn rfl (rest := []) rfl (Nat.le_of_ble_eq_true rfl) dX5_isAsTold_20 cut_none (st2 := fun r3 => [.int r3]) (fun _ => rfl) (fun r3 => ?_)
      refine gg_if_eq C dX5_isAsTold_23 (tgt := 30) (by decide) (fun _ => ?_) (fun _ => ?_)
      · refine gg_iconst C dX5_isAsTold_30 kI_0 ?_
        exact gg_zret C M dX5_isAsTold_31 rfl ⟨rfl, rfl⟩
      · refine gg_iconst C dX5_isAsTold_26 kI_1 ?_
        refine gg_goto C dX5_isAsTold_27 (tgt := 31) (by decide) ?_
        exact gg_zret C M dX5_isAsTold_31 rfl ⟨rfl, rfl⟩
def f_X5_digitSum_L5 (y0 : Int32) (y1 : Int32) : Nat → Int64 → Int32 → Option (Int64 × Int32)
  | 0, _, _ => none
  | nn + 1, y2, y4 => if y1 ≤ y4 then some (y2, y4) else jn (f_X5_digit y0 y1 y4) (fun r1 => bi (y2 + r1.toInt64) (fun x2 => f_X5_digitSum_L5 y0 y1 nn x2 (y4 + 1)))
set_option maxHeartbeats 4000000 in
set_option maxRecDepth 100000 in
theorem g_X5_digitSum_L5 {X : KX} {D : va_G} {T : Nat → ClassId} {Q : Int64 × Int32 → State → Prop} {n : Nat × Nat} (C : Cx X D T cX5_digitSum RX5 { frames := 1, cells := 0, slots := 0, locals := 22 }) (hnn : n.1 ≤ 0 ∧ n.2 ≤ 0) (hn : kxL X = 5)   (y0 : Int32) (y1 : Int32) (hk : ∀ v : Int64 × Int32, GG X D Q n ([]) [(0, .int y0), (1, .int y1), (2, .long v.1), (4, .int v.2)] 28 [] (some (v))) : ∀ (nn : Nat) (y2 : Int64) (y4 : Int32), GG X D Q n ([]) [(0, .int y0), (1, .int y1), (2, .long y2), (4, .int y4)] 5 [] (f_X5_digitSum_L5 y0 y1 nn y2 y4) := by
  intro nn
  induction nn with
  | zero => intros; exact gg_none
  | succ nn ih =>
    intro y2 y4
    unfold f_X5_digitSum_L5
    refine gg_iload C dX5_digitSum_5 3 rfl ?_
    refine gg_iload_n C dX5_digitSum_7 rfl 1 rfl ?_
    refine gg_icmp_ge C dX5_digitSum_8 (tgt := 28) (by decide) (fun _ => ?_) (fun _ => ?_)
    · refine gg_sub [0, 1, 2, 3] rfl ?_
      exact hk (y2, y4)
    · refine gg_lload_n C dX5_digitSum_11 rfl 2 rfl ?_
      refine gg_iload_n C dX5_digitSum_12 rfl 0 rfl ?_
      refine gg_iload_n C dX5_digitSum_13 rfl 1 rfl ?_
      refine gg_iload C dX5_digitSum_14 3 rfl ?_
      refine gg_callS C (fun l r h => c_X5_digit l D T y0 y1 y4 r h) lk_X5_23 ⟨by decide, by decide⟩ hnn rfl (rest := [.long y2]) rfl (Nat.le_of_ble_eq_true rfl) dX5_digitSum_16 cut_none (st2 := fun r1 => [.int r1, .long y2]) (fun _ => rfl) (fun r1 => ?_)
      refine gg_i2l C dX5_digitSum_19 ?_
      refine gg_ladd C dX5_digitSum_20 ?_
      refine gg_biL (fun x2 => ?_)
      refine gg_lstore_n C dX5_digitSum_21 rfl hn (by decide) (lv' := [(2, .long x2), (0, .int y0), (1, .int y1), (4, .int y4)]) rfl ?_
      refine gg_iinc C dX5_digitSum_22 (j := 3) rfl (v := y4 + 1) (by first | rfl | decide) hn (by decide) (lv' := [(4, .int (y4 + 1)), (2, .long x2), (0, .int y0), (1, .int y1)]) rfl ?_
      refine gg_goto C dX5_digitSum_25 (tgt := 5) (by decide) ?_
      refine gg_sub [2, 3, 1, 0] rfl ?_
      exact ih x2 (y4 + 1)
def f_X5_digitSum (v0 : Int32) (v1 : Int32) : Option (Int64) := jn (α := Int64 × Int32) (f_X5_digitSum_L5 v0 v1 100 0 0) (fun z3 => some z3.1)
set_option maxHeartbeats 4000000 in
set_option maxRecDepth 100000 in
theorem c_X5_digitSum (l : Launch) (D : va_G) (T : Nat → ClassId)   (v0 : Int32) (v1 : Int32) (r : Int64) (h : f_X5_digitSum v0 v1 = some r) : Kt l D T yX5_digitSum cX5_digitSum 5 (some .long) (1, 0, 0, 22) [.int v0, .int v1] ([]) (FF (fun (r : Int64) => some (.long r)) (fun r => []) r) := by
  refine kt_of (own := RX5) (nm := "digitSum") (lv := [(0, .int v0), (1, .int v1)]) (by decide) rfl rfl rfl (Nat.le_of_ble_eq_true rfl) h (fun X hn C M => ?_)
  have hnn : ((0, 0) : Nat × Nat).1 ≤ 0 ∧ ((0, 0) : Nat × Nat).2 ≤ 0 := ⟨Nat.le_refl 0, Nat.le_refl 0⟩
  unfold f_X5_digitSum
  refine gg_lconst C dX5_digitSum_0 (v := 0) (by decide) ?_
  refine gg_lstore_n C dX5_digitSum_1 rfl hn (by decide) (lv' := [(2, .long 0), (0, .int v0), (1, .int v1)]) rfl ?_
  refine gg_iconst C dX5_digitSum_2 kI_0 ?_
  refine gg_istore C dX5_digitSum_3 hn (by decide) (lv' := [(4, .int 0), (2, .long 0), (0, .int v0), (1, .int v1)]) rfl ?_
  refine gg_join (α := Int64 × Int32) 28 (fun z3 => []) (fun z3 => [(0, .int v0), (1, .int v1), (2, .long z3.1), (4, .int z3.2)]) (fun z3 => []) (fun z3 => ?_) (fun K4 => ?_)
  · refine gg_lload_n C dX5_digitSum_28 rfl 2 rfl ?_
    exact gg_lret C M dX5_digitSum_29 ⟨rfl, rfl⟩
  · refine gg_sub [2, 3, 1, 0] rfl ?_
    exact g_X5_digitSum_L5 C hnn hn  v0 v1 K4 100 0 0
def f_X5_leastSum_L36 (y0 : Int32) (y1 : Int32) (y2 : Int32) (y5 : Int32) : Nat → Int64 → Int32 → Option (Int64 × Int32)
  | 0, _, _ => none
  | nn + 1, y3, y6 => if y2 ≤ y6 then some (y3, y6) else jn (f_X5_digit y0 y2 y5) (fun r5 => jn (f_X5_digit y1 y2 y6) (fun r6 => bi (r5 * r6) (fun x7 => jn (f_X5_digit y0 y2 y6) (fun r8 => jn (f_X5_digit y1 y2 y5) (fun r9 => bi (r8 * r9) (fun x10 => bi (if x10 < x7 then x10 else x7) (fun x11 => bi (y3 + x11.toInt64) (fun x12 => f_X5_leastSum_L36 y0 y1 y2 y5 nn x12 (y6 + 1)))))))))
set_option maxHeartbeats 4000000 in
set_option maxRecDepth 100000 in
theorem g_X5_leastSum_L36 {X : KX} {D : va_G} {T : Nat → ClassId} {Q : Int64 × Int32 → State → Prop} {n : Nat × Nat} (C : Cx X D T cX5_leastSum RX5 { frames := 1, cells := 0, slots := 0, locals := 22 }) (hnn : n.1 ≤ 0 ∧ n.2 ≤ 0) (hn : kxL X = 9)   (y0 : Int32) (y1 : Int32) (y2 : Int32) (y5 : Int32) (hk : ∀ v : Int64 × Int32, GG X D Q n ([]) [(0, .int y0), (1, .int y1), (2, .int y2), (3, .long v.1), (5, .int y5), (6, .int v.2)] 93 [] (some (v))) : ∀ (nn : Nat) (y3 : Int64) (y6 : Int32), GG X D Q n ([]) [(0, .int y0), (1, .int y1), (2, .int y2), (3, .long y3), (5, .int y5), (6, .int y6)] 36 [] (f_X5_leastSum_L36 y0 y1 y2 y5 nn y3 y6) := by
  intro nn
  induction nn with
  | zero => intros; exact gg_none
  | succ nn ih =>
    intro y3 y6
    unfold f_X5_leastSum_L36
    refine gg_iload C dX5_leastSum_36 5 rfl ?_
    refine gg_iload_n C dX5_leastSum_38 rfl 2 rfl ?_
    refine gg_icmp_ge C dX5_leastSum_39 (tgt := 93) (by decide) (fun _ => ?_) (fun _ => ?_)
    · refine gg_sub [0, 1, 2, 3, 4, 5] rfl ?_
      exact hk (y3, y6)
    · refine gg_iload_n C dX5_leastSum_42 rfl 0 rfl ?_
      refine gg_iload_n C dX5_leastSum_43 rfl 2 rfl ?_
      refine gg_iload C dX5_leastSum_44 4 rfl ?_
      refine gg_callS C (fun l r h => c_X5_digit l D T y0 y2 y5 r h) lk_X5_23 ⟨by decide, by decide⟩ hnn rfl (rest := []) rfl (Nat.le_of_ble_eq_true rfl) dX5_leastSum_46 cut_none (st2 := fun r5 => [.int r5]) (fun _ => rfl) (fun r5 => ?_)
      refine gg_iload_n C dX5_leastSum_49 rfl 1 rfl ?_
      refine gg_iload_n C dX5_leastSum_50 rfl 2 rfl ?_
      refine gg_iload C dX5_leastSum_51 5 rfl ?_
      refine gg_callS C (fun l r h => c_X5_digit l D T y1 y2 y6 r h) lk_X5_23 ⟨by decide, by decide⟩ hnn rfl (rest := [.int r5]) rfl (Nat.le_of_ble_eq_true rfl) dX5_leastSum_53 cut_none (st2 := fun r6 => [.int r6, .int r5]) (fun _ => rfl) (fun r6 => ?_)
      refine gg_imul C dX5_leastSum_56 ?_
      refine gg_bi (fun x7 => ?_)
      refine gg_istore C dX5_leastSum_57 hn (by decide) (lv' := [(7, .int x7), (0, .int y0), (1, .int y1), (2, .int y2), (3, .long y3), (5, .int y5), (6, .int y6)]) rfl ?_
      refine gg_iload_n C dX5_leastSum_59 rfl 1 rfl ?_
      refine gg_iload_n C dX5_leastSum_60 rfl 3 rfl ?_
      refine gg_iload C dX5_leastSum_61 6 rfl ?_
      refine gg_callS C (fun l r h => c_X5_digit l D T y0 y2 y6 r h) lk_X5_23 ⟨by decide, by decide⟩ hnn rfl (rest := []) rfl (Nat.le_of_ble_eq_true rfl) dX5_leastSum_63 cut_none (st2 := fun r8 => [.int r8]) (fun _ => rfl) (fun r8 => ?_)
      refine gg_iload_n C dX5_leastSum_66 rfl 2 rfl ?_
      refine gg_iload_n C dX5_leastSum_67 rfl 3 rfl ?_
      refine gg_iload C dX5_leastSum_68 5 rfl ?_
      refine gg_callS C (fun l r h => c_X5_digit l D T y1 y2 y5 r h) lk_X5_23 ⟨by decide, by decide⟩ hnn rfl (rest := [.int r8]) rfl (Nat.le_of_ble_eq_true rfl) dX5_leastSum_70 cut_none (st2 := fun r9 => [.int r9, .int r8]) (fun _ => rfl) (fun r9 => ?_)
      refine gg_imul C dX5_leastSum_73 ?_
      refine gg_bi (fun x10 => ?_)
      refine gg_istore C dX5_leastSum_74 hn (by decide) (lv' := [(8, .int x10), (7, .int x7), (0, .int y0), (1, .int y1), (2, .int y2), (3, .long y3), (5, .int y5), (6, .int y6)]) rfl ?_
      refine gg_lload_n C dX5_leastSum_76 rfl 5 rfl ?_
      refine gg_iload C dX5_leastSum_77 1 rfl ?_
      refine gg_iload C dX5_leastSum_79 0 rfl ?_
      refine gg_mmin C tw_371 tw_372 tw_10 tw_373 (by decide) (Nat.le_of_ble_eq_true rfl) hnn dX5_leastSum_81 ?_
      refine gg_bi (fun x11 => ?_)
      refine gg_i2l C dX5_leastSum_84 ?_
      refine gg_ladd C dX5_leastSum_85 ?_
      refine gg_biL (fun x12 => ?_)
      refine gg_lstore_n C dX5_leastSum_86 rfl hn (by decide) (lv' := [(3, .long x12), (8, .int x10), (7, .int x7), (0, .int y0), (1, .int y1), (2, .int y2), (5, .int y5), (6, .int y6)]) rfl ?_
      refine gg_iinc C dX5_leastSum_87 (j := 7) rfl (v := y6 + 1) (by first | rfl | decide) hn (by decide) (lv' := [(6, .int (y6 + 1)), (3, .long x12), (8, .int x10), (7, .int x7), (0, .int y0), (1, .int y1), (2, .int y2), (5, .int y5)]) rfl ?_
      refine gg_goto C dX5_leastSum_90 (tgt := 36) (by decide) ?_
      refine gg_sub [4, 5, 6, 1, 7, 0] rfl ?_
      exact ih x12 (y6 + 1)
def f_X5_leastSum_L5 (y0 : Int32) (y1 : Int32) (y2 : Int32) : Nat → Int64 → Int32 → Option (Int64 × Int32)
  | 0, _, _ => none
  | nn + 1, y3, y5 => if y2 ≤ y5 then some (y3, y5) else jn (f_X5_digit y0 y2 y5) (fun r1 => jn (f_X5_digit y1 y2 y5) (fun r2 => bi (y3 + (((r1 * r2 : Int32)).toInt64)) (fun x3 => bi (y5 + 1) (fun x4 => jn (α := Int64 × Int32) (f_X5_leastSum_L36 y0 y1 y2 y5 100 x3 x4) (fun z13 => f_X5_leastSum_L5 y0 y1 y2 nn z13.1 (y5 + 1))))))
set_option maxHeartbeats 4000000 in
set_option maxRecDepth 100000 in
theorem g_X5_leastSum_L5 {X : KX} {D : va_G} {T : Nat → ClassId} {Q : Int64 × Int32 → State → Prop} {n : Nat × Nat} (C : Cx X D T cX5_leastSum RX5 { frames := 1, cells := 0, slots := 0, locals := 22 }) (hnn : n.1 ≤ 0 ∧ n.2 ≤ 0) (hn : kxL X = 9)   (y0 : Int32) (y1 : Int32) (y2 : Int32) (hk : ∀ v : Int64 × Int32, GG X D Q n ([]) [(0, .int y0), (1, .int y1), (2, .int y2), (3, .long v.1), (5, .int v.2)] 99 [] (some (v))) : ∀ (nn : Nat) (y3 : Int64) (y5 : Int32), GG X D Q n ([]) [(0, .int y0), (1, .int y1), (2, .int y2), (3, .long y3), (5, .int y5)] 5 [] (f_X5_leastSum_L5 y0 y1 y2 nn y3 y5) := by
  intro nn
  induction nn with
  | zero => intros; exact gg_none
  | succ nn ih =>
    intro y3 y5
    unfold f_X5_leastSum_L5
    refine gg_iload C dX5_leastSum_5 4 rfl ?_
    refine gg_iload_n C dX5_leastSum_7 rfl 2 rfl ?_
    refine gg_icmp_ge C dX5_leastSum_8 (tgt := 99) (by decide) (fun _ => ?_) (fun _ => ?_)
    · refine gg_sub [0, 1, 2, 3, 4] rfl ?_
      exact hk (y3, y5)
    · refine gg_lload_n C dX5_leastSum_11 rfl 3 rfl ?_
      refine gg_iload_n C dX5_leastSum_12 rfl 0 rfl ?_
      refine gg_iload_n C dX5_leastSum_13 rfl 2 rfl ?_
      refine gg_iload C dX5_leastSum_14 4 rfl ?_
      refine gg_callS C (fun l r h => c_X5_digit l D T y0 y2 y5 r h) lk_X5_23 ⟨by decide, by decide⟩ hnn rfl (rest := [.long y3]) rfl (Nat.le_of_ble_eq_true rfl) dX5_leastSum_16 cut_none (st2 := fun r1 => [.int r1, .long y3]) (fun _ => rfl) (fun r1 => ?_)
      refine gg_iload_n C dX5_leastSum_19 rfl 1 rfl ?_
      refine gg_iload_n C dX5_leastSum_20 rfl 2 rfl ?_
      refine gg_iload C dX5_leastSum_21 4 rfl ?_
      refine gg_callS C (fun l r h => c_X5_digit l D T y1 y2 y5 r h) lk_X5_23 ⟨by decide, by decide⟩ hnn rfl (rest := [.int r1, .long y3]) rfl (Nat.le_of_ble_eq_true rfl) dX5_leastSum_23 cut_none (st2 := fun r2 => [.int r2, .int r1, .long y3]) (fun _ => rfl) (fun r2 => ?_)
      refine gg_imul C dX5_leastSum_26 ?_
      refine gg_i2l C dX5_leastSum_27 ?_
      refine gg_ladd C dX5_leastSum_28 ?_
      refine gg_biL (fun x3 => ?_)
      refine gg_lstore_n C dX5_leastSum_29 rfl hn (by decide) (lv' := [(3, .long x3), (0, .int y0), (1, .int y1), (2, .int y2), (5, .int y5)]) rfl ?_
      refine gg_iload C dX5_leastSum_30 4 rfl ?_
      refine gg_iconst C dX5_leastSum_32 kI_1 ?_
      refine gg_iadd C dX5_leastSum_33 ?_
      refine gg_bi (fun x4 => ?_)
      refine gg_istore C dX5_leastSum_34 hn (by decide) (lv' := [(6, .int x4), (3, .long x3), (0, .int y0), (1, .int y1), (2, .int y2), (5, .int y5)]) rfl ?_
      refine gg_join (α := Int64 × Int32) 93 (fun z13 => []) (fun z13 => [(0, .int y0), (1, .int y1), (2, .int y2), (3, .long z13.1), (5, .int y5), (6, .int z13.2)]) (fun z13 => []) (fun z13 => ?_) (fun K14 => ?_)
      · refine gg_iinc C dX5_leastSum_93 (j := 4) rfl (v := y5 + 1) (by first | rfl | decide) hn (by decide) (lv' := [(5, .int (y5 + 1)), (0, .int y0), (1, .int y1), (2, .int y2), (3, .long z13.1), (6, .int z13.2)]) rfl ?_
        refine gg_goto C dX5_leastSum_96 (tgt := 5) (by decide) ?_
        refine gg_sub [1, 2, 3, 4, 0] rfl ?_
        exact ih z13.1 (y5 + 1)
      · refine gg_sub [2, 3, 4, 1, 5, 0] rfl ?_
        exact g_X5_leastSum_L36 C hnn hn  y0 y1 y2 y5 K14 100 x3 x4
def f_X5_leastSum (v0 : Int32) (v1 : Int32) (v2 : Int32) : Option (Int64) := jn (α := Int64 × Int32) (f_X5_leastSum_L5 v0 v1 v2 100 0 0) (fun z15 => some z15.1)
set_option maxHeartbeats 4000000 in
set_option maxRecDepth 100000 in
theorem c_X5_leastSum (l : Launch) (D : va_G) (T : Nat → ClassId)   (v0 : Int32) (v1 : Int32) (v2 : Int32) (r : Int64) (h : f_X5_leastSum v0 v1 v2 = some r) : Kt l D T yX5_leastSum cX5_leastSum 9 (some .long) (1, 0, 0, 22) [.int v0, .int v1, .int v2] ([]) (FF (fun (r : Int64) => some (.long r)) (fun r => []) r) := by
  refine kt_of (own := RX5) (nm := "leastSum") (lv := [(0, .int v0), (1, .int v1), (2, .int v2)]) (by decide) rfl rfl rfl (Nat.le_of_ble_eq_true rfl) h (fun X hn C M => ?_)
  have hnn : ((0, 0) : Nat × Nat).1 ≤ 0 ∧ ((0, 0) : Nat × Nat).2 ≤ 0 := ⟨Nat.le_refl 0, Nat.le_refl 0⟩
  unfold f_X5_leastSum
  refine gg_lconst C dX5_leastSum_0 (v := 0) (by decide) ?_
  refine gg_lstore_n C dX5_leastSum_1 rfl hn (by decide) (lv' := [(3, .long 0), (0, .int v0), (1, .int v1), (2, .int v2)]) rfl ?_
  refine gg_iconst C dX5_leastSum_2 kI_0 ?_
  refine gg_istore C dX5_leastSum_3 hn (by decide) (lv' := [(5, .int 0), (3, .long 0), (0, .int v0), (1, .int v1), (2, .int v2)]) rfl ?_
  refine gg_join (α := Int64 × Int32) 99 (fun z15 => []) (fun z15 => [(0, .int v0), (1, .int v1), (2, .int v2), (3, .long z15.1), (5, .int z15.2)]) (fun z15 => []) (fun z15 => ?_) (fun K16 => ?_)
  · refine gg_lload_n C dX5_leastSum_99 rfl 3 rfl ?_
    exact gg_lret C M dX5_leastSum_100 ⟨rfl, rfl⟩
  · refine gg_sub [2, 3, 4, 1, 0] rfl ?_
    exact g_X5_leastSum_L5 C hnn hn  v0 v1 v2 K16 100 0 0
def f_X5_first_L5 (y0 : Int32) (y1 : Int32) (y2 : Int32) : Nat → Int32 → Int32 → Option (Int32 × Int32)
  | 0, _, _ => none
  | nn + 1, y3, y4 => if y2 ≤ y4 then some (y3, y4) else jn (f_X5_digit y0 y2 y4) (fun r1 => jn (f_X5_digit y1 y2 y3) (fun r2 => bi (r1 * r2) (fun x3 => jn (f_X5_digit y0 y2 y3) (fun r4 => jn (f_X5_digit y1 y2 y4) (fun r5 => bi (r4 * r5) (fun x6 => if x3 ≤ x6 then f_X5_first_L5 y0 y1 y2 nn y3 (y4 + 1) else f_X5_first_L5 y0 y1 y2 nn y4 (y4 + 1)))))))
set_option maxHeartbeats 4000000 in
set_option maxRecDepth 100000 in
theorem g_X5_first_L5 {X : KX} {D : va_G} {T : Nat → ClassId} {Q : Int32 × Int32 → State → Prop} {n : Nat × Nat} (C : Cx X D T cX5_first RX5 { frames := 1, cells := 0, slots := 0, locals := 22 }) (hnn : n.1 ≤ 0 ∧ n.2 ≤ 0) (hn : kxL X = 7)   (y0 : Int32) (y1 : Int32) (y2 : Int32) (hk : ∀ v : Int32 × Int32, GG X D Q n ([]) [(0, .int y0), (1, .int y1), (2, .int y2), (3, .int v.1), (4, .int v.2)] 59 [] (some (v))) : ∀ (nn : Nat) (y3 : Int32) (y4 : Int32), GG X D Q n ([]) [(0, .int y0), (1, .int y1), (2, .int y2), (3, .int y3), (4, .int y4)] 5 [] (f_X5_first_L5 y0 y1 y2 nn y3 y4) := by
  intro nn
  induction nn with
  | zero => intros; exact gg_none
  | succ nn ih =>
    intro y3 y4
    unfold f_X5_first_L5
    refine gg_iload C dX5_first_5 4 rfl ?_
    refine gg_iload_n C dX5_first_7 rfl 2 rfl ?_
    refine gg_icmp_ge C dX5_first_8 (tgt := 59) (by decide) (fun _ => ?_) (fun _ => ?_)
    · refine gg_sub [0, 1, 2, 3, 4] rfl ?_
      exact hk (y3, y4)
    · refine gg_iload_n C dX5_first_11 rfl 0 rfl ?_
      refine gg_iload_n C dX5_first_12 rfl 2 rfl ?_
      refine gg_iload C dX5_first_13 4 rfl ?_
      refine gg_callS C (fun l r h => c_X5_digit l D T y0 y2 y4 r h) lk_X5_23 ⟨by decide, by decide⟩ hnn rfl (rest := []) rfl (Nat.le_of_ble_eq_true rfl) dX5_first_15 cut_none (st2 := fun r1 => [.int r1]) (fun _ => rfl) (fun r1 => ?_)
      refine gg_iload_n C dX5_first_18 rfl 1 rfl ?_
      refine gg_iload_n C dX5_first_19 rfl 2 rfl ?_
      refine gg_iload_n C dX5_first_20 rfl 3 rfl ?_
      refine gg_callS C (fun l r h => c_X5_digit l D T y1 y2 y3 r h) lk_X5_23 ⟨by decide, by decide⟩ hnn rfl (rest := [.int r1]) rfl (Nat.le_of_ble_eq_true rfl) dX5_first_21 cut_none (st2 := fun r2 => [.int r2, .int r1]) (fun _ => rfl) (fun r2 => ?_)
      refine gg_imul C dX5_first_24 ?_
      refine gg_bi (fun x3 => ?_)
      refine gg_istore C dX5_first_25 hn (by decide) (lv' := [(5, .int x3), (0, .int y0), (1, .int y1), (2, .int y2), (3, .int y3), (4, .int y4)]) rfl ?_
      refine gg_iload_n C dX5_first_27 rfl 1 rfl ?_
      refine gg_iload_n C dX5_first_28 rfl 3 rfl ?_
      refine gg_iload_n C dX5_first_29 rfl 4 rfl ?_
      refine gg_callS C (fun l r h => c_X5_digit l D T y0 y2 y3 r h) lk_X5_23 ⟨by decide, by decide⟩ hnn rfl (rest := []) rfl (Nat.le_of_ble_eq_true rfl) dX5_first_30 cut_none (st2 := fun r4 => [.int r4]) (fun _ => rfl) (fun r4 => ?_)
      refine gg_iload_n C dX5_first_33 rfl 2 rfl ?_
      refine gg_iload_n C dX5_first_34 rfl 3 rfl ?_
      refine gg_iload C dX5_first_35 5 rfl ?_
      refine gg_callS C (fun l r h => c_X5_digit l D T y1 y2 y4 r h) lk_X5_23 ⟨by decide, by decide⟩ hnn rfl (rest := [.int r4]) rfl (Nat.le_of_ble_eq_true rfl) dX5_first_37 cut_none (st2 := fun r5 => [.int r5, .int r4]) (fun _ => rfl) (fun r5 => ?_)
      refine gg_imul C dX5_first_40 ?_
      refine gg_bi (fun x6 => ?_)
      refine gg_istore C dX5_first_41 hn (by decide) (lv' := [(6, .int x6), (5, .int x3), (0, .int y0), (1, .int y1), (2, .int y2), (3, .int y3), (4, .int y4)]) rfl ?_
      refine gg_iload C dX5_first_43 1 rfl ?_
      refine gg_iload C dX5_first_45 0 rfl ?_
      refine gg_icmp_le C dX5_first_47 (tgt := 53) (by decide) (fun _ => ?_) (fun _ => ?_)
      · refine gg_iinc C dX5_first_53 (j := 6) rfl (v := y4 + 1) (by first | rfl | decide) hn (by decide) (lv' := [(4, .int (y4 + 1)), (6, .int x6), (5, .int x3), (0, .int y0), (1, .int y1), (2, .int y2), (3, .int y3)]) rfl ?_
        refine gg_goto C dX5_first_56 (tgt := 5) (by decide) ?_
        refine gg_sub [3, 4, 5, 6, 0] rfl ?_
        exact ih y3 (y4 + 1)
      · refine gg_iload C dX5_first_50 6 rfl ?_
        refine gg_istore_n C dX5_first_52 rfl hn (by decide) (lv' := [(3, .int y4), (6, .int x6), (5, .int x3), (0, .int y0), (1, .int y1), (2, .int y2), (4, .int y4)]) rfl ?_
        refine gg_iinc C dX5_first_53 (j := 6) rfl (v := y4 + 1) (by first | rfl | decide) hn (by decide) (lv' := [(4, .int (y4 + 1)), (3, .int y4), (6, .int x6), (5, .int x3), (0, .int y0), (1, .int y1), (2, .int y2)]) rfl ?_
        refine gg_goto C dX5_first_56 (tgt := 5) (by decide) ?_
        refine gg_sub [4, 5, 6, 1, 0] rfl ?_
        exact ih y4 (y4 + 1)
def f_X5_first (v0 : Int32) (v1 : Int32) (v2 : Int32) : Option (Int32) := jn (α := Int32 × Int32) (f_X5_first_L5 v0 v1 v2 100 0 1) (fun z7 => some z7.1)
set_option maxHeartbeats 4000000 in
set_option maxRecDepth 100000 in
theorem c_X5_first (l : Launch) (D : va_G) (T : Nat → ClassId)   (v0 : Int32) (v1 : Int32) (v2 : Int32) (r : Int32) (h : f_X5_first v0 v1 v2 = some r) : Kt l D T yX5_first cX5_first 7 (some .int) (1, 0, 0, 22) [.int v0, .int v1, .int v2] ([]) (FF (fun (r : Int32) => some (.int r)) (fun r => []) r) := by
  refine kt_of (own := RX5) (nm := "first") (lv := [(0, .int v0), (1, .int v1), (2, .int v2)]) (by decide) rfl rfl rfl (Nat.le_of_ble_eq_true rfl) h (fun X hn C M => ?_)
  have hnn : ((0, 0) : Nat × Nat).1 ≤ 0 ∧ ((0, 0) : Nat × Nat).2 ≤ 0 := ⟨Nat.le_refl 0, Nat.le_refl 0⟩
  unfold f_X5_first
  refine gg_iconst C dX5_first_0 kI_0 ?_
  refine gg_istore_n C dX5_first_1 rfl hn (by decide) (lv' := [(3, .int 0), (0, .int v0), (1, .int v1), (2, .int v2)]) rfl ?_
  refine gg_iconst C dX5_first_2 kI_1 ?_
  refine gg_istore C dX5_first_3 hn (by decide) (lv' := [(4, .int 1), (3, .int 0), (0, .int v0), (1, .int v1), (2, .int v2)]) rfl ?_
  refine gg_join (α := Int32 × Int32) 59 (fun z7 => []) (fun z7 => [(0, .int v0), (1, .int v1), (2, .int v2), (3, .int z7.1), (4, .int z7.2)]) (fun z7 => []) (fun z7 => ?_) (fun K8 => ?_)
  · refine gg_iload_n C dX5_first_59 rfl 3 rfl ?_
    exact gg_iret C M dX5_first_60 ⟨rfl, rfl⟩
  · refine gg_sub [2, 3, 4, 1, 0] rfl ?_
    exact g_X5_first_L5 C hnn hn  v0 v1 v2 K8 100 0 1
end
