-- ===== PART A: goes FIRST, ahead of the names: the tables' words, and 'selects' of the private methods out of them =====
/-- a private method of a class that the tables say can be made, by its rows of tables_1 -/
def lw_okq (q : MethodName × Nat) : Prop := (q.1.cls ≠ "java/lang/invoke/MethodHandle" ∧ q.1.cls ≠ "java/lang/invoke/VarHandle") ∧ Cond.instantiable q.1.cls q.2 ∈ tables_1 ∧ Cond.privateMethod q.1 ∈ tables_1 ∧ Cond.instanceMethod q.1 ∈ tables_1
theorem lw_p0 : lw_okq (⟨"BoundBraces$Reader", "skipBlanks", "()V"⟩, 7) := ⟨⟨by decide +kernel, by decide +kernel⟩, List.mem_of_getElem? (i := 23) (by decide +kernel), List.mem_of_getElem? (i := 388) (by decide +kernel), List.mem_of_getElem? (i := 389) (by decide +kernel)⟩
theorem lw_p1 : lw_okq (⟨"BoundBraces$Reader", "readClause", "(I)V"⟩, 7) := ⟨⟨by decide +kernel, by decide +kernel⟩, List.mem_of_getElem? (i := 23) (by decide +kernel), List.mem_of_getElem? (i := 392) (by decide +kernel), List.mem_of_getElem? (i := 393) (by decide +kernel)⟩
theorem lw_p2 : lw_okq (⟨"BoundBraces$Reader", "readStrains", "(I)V"⟩, 7) := ⟨⟨by decide +kernel, by decide +kernel⟩, List.mem_of_getElem? (i := 23) (by decide +kernel), List.mem_of_getElem? (i := 396) (by decide +kernel), List.mem_of_getElem? (i := 397) (by decide +kernel)⟩
theorem lw_p3 : lw_okq (⟨"BoundBraces$Reader", "blame", "(II)V"⟩, 7) := ⟨⟨by decide +kernel, by decide +kernel⟩, List.mem_of_getElem? (i := 23) (by decide +kernel), List.mem_of_getElem? (i := 404) (by decide +kernel), List.mem_of_getElem? (i := 405) (by decide +kernel)⟩
theorem lw_p4 : lw_okq (⟨"BoundBraces$Reader", "readNumber", "(II)I"⟩, 7) := ⟨⟨by decide +kernel, by decide +kernel⟩, List.mem_of_getElem? (i := 23) (by decide +kernel), List.mem_of_getElem? (i := 408) (by decide +kernel), List.mem_of_getElem? (i := 409) (by decide +kernel)⟩
theorem lw_p5 : lw_okq (⟨"BoundBraces$Reader", "readEnd", "()V"⟩, 7) := ⟨⟨by decide +kernel, by decide +kernel⟩, List.mem_of_getElem? (i := 23) (by decide +kernel), List.mem_of_getElem? (i := 415) (by decide +kernel), List.mem_of_getElem? (i := 416) (by decide +kernel)⟩
theorem lw_p6 : lw_okq (⟨"BoundBraces$Reader", "readMember", "(I)V"⟩, 7) := ⟨⟨by decide +kernel, by decide +kernel⟩, List.mem_of_getElem? (i := 23) (by decide +kernel), List.mem_of_getElem? (i := 419) (by decide +kernel), List.mem_of_getElem? (i := 420) (by decide +kernel)⟩
theorem lw_p7 : lw_okq (⟨"BoundBraces$Reader", "readStrap", "(I)V"⟩, 7) := ⟨⟨by decide +kernel, by decide +kernel⟩, List.mem_of_getElem? (i := 23) (by decide +kernel), List.mem_of_getElem? (i := 423) (by decide +kernel), List.mem_of_getElem? (i := 424) (by decide +kernel)⟩
theorem lw_p8 : lw_okq (⟨"BoundBraces$Division", "pullBy", "(I)I"⟩, 9) := ⟨⟨by decide +kernel, by decide +kernel⟩, List.mem_of_getElem? (i := 179) (by decide +kernel), List.mem_of_getElem? (i := 483) (by decide +kernel), List.mem_of_getElem? (i := 484) (by decide +kernel)⟩
theorem lw_p9 : lw_okq (⟨"BoundBraces$Division", "wayOf", "(I)I"⟩, 9) := ⟨⟨by decide +kernel, by decide +kernel⟩, List.mem_of_getElem? (i := 179) (by decide +kernel), List.mem_of_getElem? (i := 487) (by decide +kernel), List.mem_of_getElem? (i := 488) (by decide +kernel)⟩
theorem lw_p10 : lw_okq (⟨"BoundBraces$Division", "votesOf", "(I)I"⟩, 9) := ⟨⟨by decide +kernel, by decide +kernel⟩, List.mem_of_getElem? (i := 179) (by decide +kernel), List.mem_of_getElem? (i := 491) (by decide +kernel), List.mem_of_getElem? (i := 492) (by decide +kernel)⟩
theorem lw_p11 : lw_okq (⟨"BoundBraces$Braces", "setSaid", "(III)I"⟩, 12) := ⟨⟨by decide +kernel, by decide +kernel⟩, List.mem_of_getElem? (i := 71) (by decide +kernel), List.mem_of_getElem? (i := 536) (by decide +kernel), List.mem_of_getElem? (i := 537) (by decide +kernel)⟩
theorem lw_p12 : lw_okq (⟨"BoundBraces$Division", "strainByKind", "(I)I"⟩, 9) := ⟨⟨by decide +kernel, by decide +kernel⟩, List.mem_of_getElem? (i := 179) (by decide +kernel), List.mem_of_getElem? (i := 588) (by decide +kernel), List.mem_of_getElem? (i := 589) (by decide +kernel)⟩
theorem lw_p13 : lw_okq (⟨"BoundBraces", "doByDraws", "()V"⟩, 13) := ⟨⟨by decide +kernel, by decide +kernel⟩, List.mem_of_getElem? (i := 15) (by decide +kernel), List.mem_of_getElem? (i := 626) (by decide +kernel), List.mem_of_getElem? (i := 627) (by decide +kernel)⟩
theorem lw_p14 : lw_okq (⟨"BoundBraces", "drawOf", "(I)I"⟩, 13) := ⟨⟨by decide +kernel, by decide +kernel⟩, List.mem_of_getElem? (i := 15) (by decide +kernel), List.mem_of_getElem? (i := 630) (by decide +kernel), List.mem_of_getElem? (i := 631) (by decide +kernel)⟩
theorem lw_p15 : lw_okq (⟨"BoundBraces$Trial", "priceGains", "(II)V"⟩, 7) := ⟨⟨by decide +kernel, by decide +kernel⟩, List.mem_of_getElem? (i := 238) (by decide +kernel), List.mem_of_getElem? (i := 667) (by decide +kernel), List.mem_of_getElem? (i := 668) (by decide +kernel)⟩
def lw_privs_1 : List (MethodName × Nat) := [(⟨"BoundBraces$Reader", "skipBlanks", "()V"⟩, 7), (⟨"BoundBraces$Reader", "readClause", "(I)V"⟩, 7), (⟨"BoundBraces$Reader", "readStrains", "(I)V"⟩, 7), (⟨"BoundBraces$Reader", "blame", "(II)V"⟩, 7), (⟨"BoundBraces$Reader", "readNumber", "(II)I"⟩, 7), (⟨"BoundBraces$Reader", "readEnd", "()V"⟩, 7), (⟨"BoundBraces$Reader", "readMember", "(I)V"⟩, 7), (⟨"BoundBraces$Reader", "readStrap", "(I)V"⟩, 7), (⟨"BoundBraces$Division", "pullBy", "(I)I"⟩, 9), (⟨"BoundBraces$Division", "wayOf", "(I)I"⟩, 9), (⟨"BoundBraces$Division", "votesOf", "(I)I"⟩, 9), (⟨"BoundBraces$Braces", "setSaid", "(III)I"⟩, 12), (⟨"BoundBraces$Division", "strainByKind", "(I)I"⟩, 9), (⟨"BoundBraces", "doByDraws", "()V"⟩, 13), (⟨"BoundBraces", "drawOf", "(I)I"⟩, 13), (⟨"BoundBraces$Trial", "priceGains", "(II)V"⟩, 7)]
theorem lw_r1 : ∀ q ∈ lw_privs_1, lw_okq q := List.forall_mem_cons.mpr ⟨lw_p0, List.forall_mem_cons.mpr ⟨lw_p1, List.forall_mem_cons.mpr ⟨lw_p2, List.forall_mem_cons.mpr ⟨lw_p3, List.forall_mem_cons.mpr ⟨lw_p4, List.forall_mem_cons.mpr ⟨lw_p5, List.forall_mem_cons.mpr ⟨lw_p6, List.forall_mem_cons.mpr ⟨lw_p7, List.forall_mem_cons.mpr ⟨lw_p8, List.forall_mem_cons.mpr ⟨lw_p9, List.forall_mem_cons.mpr ⟨lw_p10, List.forall_mem_cons.mpr ⟨lw_p11, List.forall_mem_cons.mpr ⟨lw_p12, List.forall_mem_cons.mpr ⟨lw_p13, List.forall_mem_cons.mpr ⟨lw_p14, List.forall_mem_cons.mpr ⟨lw_p15, fun _ h => absurd h List.not_mem_nil⟩⟩⟩⟩⟩⟩⟩⟩⟩⟩⟩⟩⟩⟩⟩⟩
theorem lw_p16 : lw_okq (⟨"BoundBraces$Trial", "joinGains", "()V"⟩, 7) := ⟨⟨by decide +kernel, by decide +kernel⟩, List.mem_of_getElem? (i := 238) (by decide +kernel), List.mem_of_getElem? (i := 680) (by decide +kernel), List.mem_of_getElem? (i := 681) (by decide +kernel)⟩
theorem lw_p17 : lw_okq (⟨"BoundBraces$Trial", "tryAgenda", "(III)V"⟩, 7) := ⟨⟨by decide +kernel, by decide +kernel⟩, List.mem_of_getElem? (i := 238) (by decide +kernel), List.mem_of_getElem? (i := 705) (by decide +kernel), List.mem_of_getElem? (i := 706) (by decide +kernel)⟩
theorem lw_p18 : lw_okq (⟨"BoundBracesModel", "readHouse", "()V"⟩, 31) := ⟨⟨by decide +kernel, by decide +kernel⟩, List.mem_of_getElem? (i := 806) (by decide +kernel), List.mem_of_getElem? (i := 920) (by decide +kernel), List.mem_of_getElem? (i := 921) (by decide +kernel)⟩
theorem lw_p19 : lw_okq (⟨"BoundBracesModel", "skips", "()V"⟩, 31) := ⟨⟨by decide +kernel, by decide +kernel⟩, List.mem_of_getElem? (i := 806) (by decide +kernel), List.mem_of_getElem? (i := 924) (by decide +kernel), List.mem_of_getElem? (i := 925) (by decide +kernel)⟩
theorem lw_p20 : lw_okq (⟨"BoundBracesModel", "here", "()I"⟩, 31) := ⟨⟨by decide +kernel, by decide +kernel⟩, List.mem_of_getElem? (i := 806) (by decide +kernel), List.mem_of_getElem? (i := 928) (by decide +kernel), List.mem_of_getElem? (i := 929) (by decide +kernel)⟩
theorem lw_p21 : lw_okq (⟨"BoundBracesModel", "readClause", "()V"⟩, 31) := ⟨⟨by decide +kernel, by decide +kernel⟩, List.mem_of_getElem? (i := 806) (by decide +kernel), List.mem_of_getElem? (i := 932) (by decide +kernel), List.mem_of_getElem? (i := 933) (by decide +kernel)⟩
theorem lw_p22 : lw_okq (⟨"BoundBracesModel", "number", "(II)I"⟩, 31) := ⟨⟨by decide +kernel, by decide +kernel⟩, List.mem_of_getElem? (i := 806) (by decide +kernel), List.mem_of_getElem? (i := 936) (by decide +kernel), List.mem_of_getElem? (i := 937) (by decide +kernel)⟩
theorem lw_p23 : lw_okq (⟨"BoundBracesModel", "fails", "(I)V"⟩, 31) := ⟨⟨by decide +kernel, by decide +kernel⟩, List.mem_of_getElem? (i := 806) (by decide +kernel), List.mem_of_getElem? (i := 940) (by decide +kernel), List.mem_of_getElem? (i := 941) (by decide +kernel)⟩
theorem lw_p24 : lw_okq (⟨"BoundBracesModel", "ends", "()V"⟩, 31) := ⟨⟨by decide +kernel, by decide +kernel⟩, List.mem_of_getElem? (i := 806) (by decide +kernel), List.mem_of_getElem? (i := 944) (by decide +kernel), List.mem_of_getElem? (i := 945) (by decide +kernel)⟩
theorem lw_p25 : lw_okq (⟨"BoundBracesModel", "readMember", "()V"⟩, 31) := ⟨⟨by decide +kernel, by decide +kernel⟩, List.mem_of_getElem? (i := 806) (by decide +kernel), List.mem_of_getElem? (i := 948) (by decide +kernel), List.mem_of_getElem? (i := 949) (by decide +kernel)⟩
theorem lw_p26 : lw_okq (⟨"BoundBracesModel", "readStrap", "()V"⟩, 31) := ⟨⟨by decide +kernel, by decide +kernel⟩, List.mem_of_getElem? (i := 806) (by decide +kernel), List.mem_of_getElem? (i := 952) (by decide +kernel), List.mem_of_getElem? (i := 953) (by decide +kernel)⟩
theorem lw_p27 : lw_okq (⟨"BoundBracesModel", "whoHangs", "()I"⟩, 31) := ⟨⟨by decide +kernel, by decide +kernel⟩, List.mem_of_getElem? (i := 806) (by decide +kernel), List.mem_of_getElem? (i := 973) (by decide +kernel), List.mem_of_getElem? (i := 974) (by decide +kernel)⟩
theorem lw_p28 : lw_okq (⟨"BoundBracesModel", "holdsMost", "()I"⟩, 31) := ⟨⟨by decide +kernel, by decide +kernel⟩, List.mem_of_getElem? (i := 806) (by decide +kernel), List.mem_of_getElem? (i := 983) (by decide +kernel), List.mem_of_getElem? (i := 984) (by decide +kernel)⟩
theorem lw_p29 : lw_okq (⟨"BoundBracesModel", "wouldPass", "()I"⟩, 31) := ⟨⟨by decide +kernel, by decide +kernel⟩, List.mem_of_getElem? (i := 806) (by decide +kernel), List.mem_of_getElem? (i := 987) (by decide +kernel), List.mem_of_getElem? (i := 988) (by decide +kernel)⟩
theorem lw_p30 : lw_okq (⟨"BoundBracesModel", "marginOf", "([II)I"⟩, 31) := ⟨⟨by decide +kernel, by decide +kernel⟩, List.mem_of_getElem? (i := 806) (by decide +kernel), List.mem_of_getElem? (i := 991) (by decide +kernel), List.mem_of_getElem? (i := 992) (by decide +kernel)⟩
theorem lw_p31 : lw_okq (⟨"BoundBracesModel", "goesOf", "([III)I"⟩, 31) := ⟨⟨by decide +kernel, by decide +kernel⟩, List.mem_of_getElem? (i := 806) (by decide +kernel), List.mem_of_getElem? (i := 995) (by decide +kernel), List.mem_of_getElem? (i := 996) (by decide +kernel)⟩
def lw_privs_2 : List (MethodName × Nat) := [(⟨"BoundBraces$Trial", "joinGains", "()V"⟩, 7), (⟨"BoundBraces$Trial", "tryAgenda", "(III)V"⟩, 7), (⟨"BoundBracesModel", "readHouse", "()V"⟩, 31), (⟨"BoundBracesModel", "skips", "()V"⟩, 31), (⟨"BoundBracesModel", "here", "()I"⟩, 31), (⟨"BoundBracesModel", "readClause", "()V"⟩, 31), (⟨"BoundBracesModel", "number", "(II)I"⟩, 31), (⟨"BoundBracesModel", "fails", "(I)V"⟩, 31), (⟨"BoundBracesModel", "ends", "()V"⟩, 31), (⟨"BoundBracesModel", "readMember", "()V"⟩, 31), (⟨"BoundBracesModel", "readStrap", "()V"⟩, 31), (⟨"BoundBracesModel", "whoHangs", "()I"⟩, 31), (⟨"BoundBracesModel", "holdsMost", "()I"⟩, 31), (⟨"BoundBracesModel", "wouldPass", "()I"⟩, 31), (⟨"BoundBracesModel", "marginOf", "([II)I"⟩, 31), (⟨"BoundBracesModel", "goesOf", "([III)I"⟩, 31)]
theorem lw_r2 : ∀ q ∈ lw_privs_2, lw_okq q := List.forall_mem_cons.mpr ⟨lw_p16, List.forall_mem_cons.mpr ⟨lw_p17, List.forall_mem_cons.mpr ⟨lw_p18, List.forall_mem_cons.mpr ⟨lw_p19, List.forall_mem_cons.mpr ⟨lw_p20, List.forall_mem_cons.mpr ⟨lw_p21, List.forall_mem_cons.mpr ⟨lw_p22, List.forall_mem_cons.mpr ⟨lw_p23, List.forall_mem_cons.mpr ⟨lw_p24, List.forall_mem_cons.mpr ⟨lw_p25, List.forall_mem_cons.mpr ⟨lw_p26, List.forall_mem_cons.mpr ⟨lw_p27, List.forall_mem_cons.mpr ⟨lw_p28, List.forall_mem_cons.mpr ⟨lw_p29, List.forall_mem_cons.mpr ⟨lw_p30, List.forall_mem_cons.mpr ⟨lw_p31, fun _ h => absurd h List.not_mem_nil⟩⟩⟩⟩⟩⟩⟩⟩⟩⟩⟩⟩⟩⟩⟩⟩
theorem lw_p32 : lw_okq (⟨"BoundBracesModel", "wouldOf", "(II)I"⟩, 31) := ⟨⟨by decide +kernel, by decide +kernel⟩, List.mem_of_getElem? (i := 806) (by decide +kernel), List.mem_of_getElem? (i := 1002) (by decide +kernel), List.mem_of_getElem? (i := 1003) (by decide +kernel)⟩
theorem lw_p33 : lw_okq (⟨"BoundBracesModel", "votesOf", "([II)I"⟩, 31) := ⟨⟨by decide +kernel, by decide +kernel⟩, List.mem_of_getElem? (i := 806) (by decide +kernel), List.mem_of_getElem? (i := 1009) (by decide +kernel), List.mem_of_getElem? (i := 1010) (by decide +kernel)⟩
theorem lw_p34 : lw_okq (⟨"BoundBracesModel", "isMember", "(I)Z"⟩, 31) := ⟨⟨by decide +kernel, by decide +kernel⟩, List.mem_of_getElem? (i := 806) (by decide +kernel), List.mem_of_getElem? (i := 1017) (by decide +kernel), List.mem_of_getElem? (i := 1018) (by decide +kernel)⟩
theorem lw_p35 : lw_okq (⟨"BoundBracesModel", "heldOn", "(I)I"⟩, 31) := ⟨⟨by decide +kernel, by decide +kernel⟩, List.mem_of_getElem? (i := 806) (by decide +kernel), List.mem_of_getElem? (i := 1022) (by decide +kernel), List.mem_of_getElem? (i := 1023) (by decide +kernel)⟩
theorem lw_p36 : lw_okq (⟨"BoundBracesModel", "isHeld", "([III)Z"⟩, 31) := ⟨⟨by decide +kernel, by decide +kernel⟩, List.mem_of_getElem? (i := 806) (by decide +kernel), List.mem_of_getElem? (i := 1026) (by decide +kernel), List.mem_of_getElem? (i := 1027) (by decide +kernel)⟩
theorem lw_p37 : lw_okq (⟨"BoundBracesModel", "clashesOf", "(I)I"⟩, 31) := ⟨⟨by decide +kernel, by decide +kernel⟩, List.mem_of_getElem? (i := 806) (by decide +kernel), List.mem_of_getElem? (i := 1030) (by decide +kernel), List.mem_of_getElem? (i := 1031) (by decide +kernel)⟩
theorem lw_p38 : lw_okq (⟨"BoundBracesModel", "freedOf", "(I)I"⟩, 31) := ⟨⟨by decide +kernel, by decide +kernel⟩, List.mem_of_getElem? (i := 806) (by decide +kernel), List.mem_of_getElem? (i := 1034) (by decide +kernel), List.mem_of_getElem? (i := 1035) (by decide +kernel)⟩
theorem lw_p39 : lw_okq (⟨"BoundBracesModel", "isStrap", "(I)Z"⟩, 31) := ⟨⟨by decide +kernel, by decide +kernel⟩, List.mem_of_getElem? (i := 806) (by decide +kernel), List.mem_of_getElem? (i := 1045) (by decide +kernel), List.mem_of_getElem? (i := 1046) (by decide +kernel)⟩
theorem lw_p40 : lw_okq (⟨"BoundBracesModel", "notes", "()V"⟩, 31) := ⟨⟨by decide +kernel, by decide +kernel⟩, List.mem_of_getElem? (i := 806) (by decide +kernel), List.mem_of_getElem? (i := 1058) (by decide +kernel), List.mem_of_getElem? (i := 1059) (by decide +kernel)⟩
theorem lw_p41 : lw_okq (⟨"BoundBracesModel", "puts", "([II)Z"⟩, 31) := ⟨⟨by decide +kernel, by decide +kernel⟩, List.mem_of_getElem? (i := 806) (by decide +kernel), List.mem_of_getElem? (i := 1062) (by decide +kernel), List.mem_of_getElem? (i := 1063) (by decide +kernel)⟩
theorem lw_p42 : lw_okq (⟨"BoundBracesModel", "strainBy", "([III)I"⟩, 31) := ⟨⟨by decide +kernel, by decide +kernel⟩, List.mem_of_getElem? (i := 806) (by decide +kernel), List.mem_of_getElem? (i := 1066) (by decide +kernel), List.mem_of_getElem? (i := 1067) (by decide +kernel)⟩
theorem lw_p43 : lw_okq (⟨"BoundBracesModel", "sessionOn", "([I)V"⟩, 31) := ⟨⟨by decide +kernel, by decide +kernel⟩, List.mem_of_getElem? (i := 806) (by decide +kernel), List.mem_of_getElem? (i := 1089) (by decide +kernel), List.mem_of_getElem? (i := 1090) (by decide +kernel)⟩
theorem lw_p44 : lw_okq (⟨"BoundBracesModel", "drawn", "()V"⟩, 31) := ⟨⟨by decide +kernel, by decide +kernel⟩, List.mem_of_getElem? (i := 806) (by decide +kernel), List.mem_of_getElem? (i := 1097) (by decide +kernel), List.mem_of_getElem? (i := 1098) (by decide +kernel)⟩
theorem lw_p45 : lw_okq (⟨"BoundBracesModel", "draw", "(I)I"⟩, 31) := ⟨⟨by decide +kernel, by decide +kernel⟩, List.mem_of_getElem? (i := 806) (by decide +kernel), List.mem_of_getElem? (i := 1101) (by decide +kernel), List.mem_of_getElem? (i := 1102) (by decide +kernel)⟩
theorem lw_p46 : lw_okq (⟨"BoundBracesModel", "creaksOf", "(I)I"⟩, 31) := ⟨⟨by decide +kernel, by decide +kernel⟩, List.mem_of_getElem? (i := 806) (by decide +kernel), List.mem_of_getElem? (i := 1121) (by decide +kernel), List.mem_of_getElem? (i := 1122) (by decide +kernel)⟩
theorem lw_p47 : lw_okq (⟨"BoundBracesModel", "leastOf", "(I)I"⟩, 31) := ⟨⟨by decide +kernel, by decide +kernel⟩, List.mem_of_getElem? (i := 806) (by decide +kernel), List.mem_of_getElem? (i := 1125) (by decide +kernel), List.mem_of_getElem? (i := 1126) (by decide +kernel)⟩
def lw_privs_3 : List (MethodName × Nat) := [(⟨"BoundBracesModel", "wouldOf", "(II)I"⟩, 31), (⟨"BoundBracesModel", "votesOf", "([II)I"⟩, 31), (⟨"BoundBracesModel", "isMember", "(I)Z"⟩, 31), (⟨"BoundBracesModel", "heldOn", "(I)I"⟩, 31), (⟨"BoundBracesModel", "isHeld", "([III)Z"⟩, 31), (⟨"BoundBracesModel", "clashesOf", "(I)I"⟩, 31), (⟨"BoundBracesModel", "freedOf", "(I)I"⟩, 31), (⟨"BoundBracesModel", "isStrap", "(I)Z"⟩, 31), (⟨"BoundBracesModel", "notes", "()V"⟩, 31), (⟨"BoundBracesModel", "puts", "([II)Z"⟩, 31), (⟨"BoundBracesModel", "strainBy", "([III)I"⟩, 31), (⟨"BoundBracesModel", "sessionOn", "([I)V"⟩, 31), (⟨"BoundBracesModel", "drawn", "()V"⟩, 31), (⟨"BoundBracesModel", "draw", "(I)I"⟩, 31), (⟨"BoundBracesModel", "creaksOf", "(I)I"⟩, 31), (⟨"BoundBracesModel", "leastOf", "(I)I"⟩, 31)]
theorem lw_r3 : ∀ q ∈ lw_privs_3, lw_okq q := List.forall_mem_cons.mpr ⟨lw_p32, List.forall_mem_cons.mpr ⟨lw_p33, List.forall_mem_cons.mpr ⟨lw_p34, List.forall_mem_cons.mpr ⟨lw_p35, List.forall_mem_cons.mpr ⟨lw_p36, List.forall_mem_cons.mpr ⟨lw_p37, List.forall_mem_cons.mpr ⟨lw_p38, List.forall_mem_cons.mpr ⟨lw_p39, List.forall_mem_cons.mpr ⟨lw_p40, List.forall_mem_cons.mpr ⟨lw_p41, List.forall_mem_cons.mpr ⟨lw_p42, List.forall_mem_cons.mpr ⟨lw_p43, List.forall_mem_cons.mpr ⟨lw_p44, List.forall_mem_cons.mpr ⟨lw_p45, List.forall_mem_cons.mpr ⟨lw_p46, List.forall_mem_cons.mpr ⟨lw_p47, fun _ h => absurd h List.not_mem_nil⟩⟩⟩⟩⟩⟩⟩⟩⟩⟩⟩⟩⟩⟩⟩⟩
theorem lw_p48 : lw_okq (⟨"BoundBracesModel", "asItIs", "()V"⟩, 31) := ⟨⟨by decide +kernel, by decide +kernel⟩, List.mem_of_getElem? (i := 806) (by decide +kernel), List.mem_of_getElem? (i := 1129) (by decide +kernel), List.mem_of_getElem? (i := 1130) (by decide +kernel)⟩
theorem lw_p49 : lw_okq (⟨"BoundBracesModel", "twangOf", "(I)I"⟩, 31) := ⟨⟨by decide +kernel, by decide +kernel⟩, List.mem_of_getElem? (i := 806) (by decide +kernel), List.mem_of_getElem? (i := 1133) (by decide +kernel), List.mem_of_getElem? (i := 1134) (by decide +kernel)⟩
theorem lw_p50 : lw_okq (⟨"BoundBracesModel", "ranks", "(I)I"⟩, 31) := ⟨⟨by decide +kernel, by decide +kernel⟩, List.mem_of_getElem? (i := 806) (by decide +kernel), List.mem_of_getElem? (i := 1141) (by decide +kernel), List.mem_of_getElem? (i := 1142) (by decide +kernel)⟩
theorem lw_p51 : lw_okq (⟨"BoundBracesModel", "nextOrder", "(I)Z"⟩, 31) := ⟨⟨by decide +kernel, by decide +kernel⟩, List.mem_of_getElem? (i := 806) (by decide +kernel), List.mem_of_getElem? (i := 1145) (by decide +kernel), List.mem_of_getElem? (i := 1146) (by decide +kernel)⟩
def lw_privs_4 : List (MethodName × Nat) := [(⟨"BoundBracesModel", "asItIs", "()V"⟩, 31), (⟨"BoundBracesModel", "twangOf", "(I)I"⟩, 31), (⟨"BoundBracesModel", "ranks", "(I)I"⟩, 31), (⟨"BoundBracesModel", "nextOrder", "(I)Z"⟩, 31)]
theorem lw_r4 : ∀ q ∈ lw_privs_4, lw_okq q := List.forall_mem_cons.mpr ⟨lw_p48, List.forall_mem_cons.mpr ⟨lw_p49, List.forall_mem_cons.mpr ⟨lw_p50, List.forall_mem_cons.mpr ⟨lw_p51, fun _ h => absurd h List.not_mem_nil⟩⟩⟩⟩
def lw_privs : List (MethodName × Nat) := lw_privs_1 ++ (lw_privs_2 ++ (lw_privs_3 ++ (lw_privs_4)))
def lw_tbl : List Cond := k2_sels lw_privs ++ tables_1
theorem lw_privs_ok : ∀ q ∈ lw_privs, lw_okq q := by
  show ∀ q ∈ lw_privs_1 ++ (lw_privs_2 ++ (lw_privs_3 ++ (lw_privs_4))), lw_okq q
  exact List.forall_mem_append.mpr ⟨lw_r1, List.forall_mem_append.mpr ⟨lw_r2, List.forall_mem_append.mpr ⟨lw_r3, lw_r4⟩⟩⟩

def RX0 : String := "BoundBraces$Braces"
def TX0 : u_T := fun k => match k with
  | 0 => ("BoundBraces$Braces", "weight", "[I", true)
  | 1 => ("BoundBraces$Braces", "straps", "I", false)
  | 2 => ("BoundBraces$Braces", "owner", "[I", true)
  | 3 => ("BoundBraces$Braces", "matter", "[I", true)
  | 4 => ("BoundBraces$Braces", "direction", "[I", true)
  | 5 => ("BoundBraces$Braces", "notch", "[I", true)
  | 6 => ("BoundBraces$Braces", "strain", "[I", true)
  | 7 => ("BoundBraces$Braces", "fate", "[I", true)
  | 8 => ("BoundBraces$Braces", "puts", "I", false)
  | 9 => ("BoundBraces$Braces", "passed", "I", false)
  | 10 => ("BoundBraces$Braces", "twangs", "I", false)
  | _ => ("BoundBraces$Braces", "sessions", "I", false)
def tyX0 : Nat → FieldType := fun k => match k with
  | 0 => .array .int
  | 1 => .int
  | 2 => .array .int
  | 3 => .array .int
  | 4 => .array .int
  | 5 => .array .int
  | 6 => .array .int
  | 7 => .array .int
  | 8 => .int
  | 9 => .int
  | 10 => .int
  | _ => .int
abbrev wsX00 : List Cond := u_ws RX0 TX0 12
theorem nmX0 : ∀ a, a < 12 → ∀ b, b < 12 → a ≠ b → (TX0 a).2.1 ≠ (TX0 b).2.1 := by decide +kernel
theorem tyX0_ok : ∀ k, k < 12 → parseFieldDescriptor (TX0 k).2.2.1 = some (tyX0 k) := by decide +kernel
abbrev cX0_init : ByteArray := prog_2_method_1_code
def yX0_init : MethodName := ⟨RX0, "<init>", "()V"⟩
abbrev cX0_clear : ByteArray := prog_2_method_2_code
def yX0_clear : MethodName := ⟨RX0, "clear", "()V"⟩
abbrev cX0_copyFrom : ByteArray := prog_2_method_3_code
def yX0_copyFrom : MethodName := ⟨RX0, "copyFrom", "(LBoundBraces$Braces;)V"⟩
abbrev cX0_button : ByteArray := prog_2_method_4_code
def yX0_button : MethodName := ⟨RX0, "button", "(IIII)V"⟩
abbrev cX0_loosen : ByteArray := prog_2_method_5_code
def yX0_loosen : MethodName := ⟨RX0, "loosen", "(I)V"⟩
abbrev cX0_holds : ByteArray := prog_2_method_6_code
def yX0_holds : MethodName := ⟨RX0, "holds", "(I)Z"⟩
abbrev cX0_setOfHolding : ByteArray := prog_2_method_7_code
def yX0_setOfHolding : MethodName := ⟨RX0, "setOfHolding", "()I"⟩
abbrev cX0_setHoldingOf : ByteArray := prog_2_method_8_code
def yX0_setHoldingOf : MethodName := ⟨RX0, "setHoldingOf", "(I)I"⟩
abbrev cX0_clashesOf : ByteArray := prog_2_method_9_code
def yX0_clashesOf : MethodName := ⟨RX0, "clashesOf", "(I)I"⟩
abbrev cX0_freedOf : ByteArray := prog_2_method_10_code
def yX0_freedOf : MethodName := ⟨RX0, "freedOf", "(I)I"⟩
abbrev cX0_setSaid : ByteArray := prog_2_method_11_code
def yX0_setSaid : MethodName := ⟨RX0, "setSaid", "(III)I"⟩
abbrev cX0_lesserSet : ByteArray := prog_2_method_12_code
def yX0_lesserSet : MethodName := ⟨RX0, "lesserSet", "(II)I"⟩
def RX1 : String := "BoundBraces$Division"
def TX1 : u_T := fun k => match k with
  | 0 => ("BoundBraces$Division", "house", "LBoundBraces$House;", true)
  | 1 => ("BoundBraces$Division", "braces", "LBoundBraces$Braces;", true)
  | 2 => ("BoundBraces$Division", "subject", "I", false)
  | 3 => ("BoundBraces$Division", "pull", "[I", true)
  | 4 => ("BoundBraces$Division", "load", "[I", true)
  | 5 => ("BoundBraces$Division", "isHanging", "[Z", true)
  | 6 => ("BoundBraces$Division", "ownWay", "[I", true)
  | 7 => ("BoundBraces$Division", "way", "[I", true)
  | _ => ("BoundBraces$Division", "votes", "[I", true)
def tyX1 : Nat → FieldType := fun k => match k with
  | 0 => .object "BoundBraces$House"
  | 1 => .object "BoundBraces$Braces"
  | 2 => .int
  | 3 => .array .int
  | 4 => .array .int
  | 5 => .array .boolean
  | 6 => .array .int
  | 7 => .array .int
  | _ => .array .int
abbrev wsX10 : List Cond := u_ws RX1 TX1 9
theorem nmX1 : ∀ a, a < 9 → ∀ b, b < 9 → a ≠ b → (TX1 a).2.1 ≠ (TX1 b).2.1 := by decide +kernel
theorem tyX1_ok : ∀ k, k < 9 → parseFieldDescriptor (TX1 k).2.2.1 = some (tyX1 k) := by decide +kernel
abbrev cX1_init : ByteArray := prog_3_method_1_code
def yX1_init : MethodName := ⟨RX1, "<init>", "(LBoundBraces$House;LBoundBraces$Braces;)V"⟩
abbrev cX1_take : ByteArray := prog_3_method_2_code
def yX1_take : MethodName := ⟨RX1, "take", "(I)V"⟩
abbrev cX1_takeOne : ByteArray := prog_3_method_3_code
def yX1_takeOne : MethodName := ⟨RX1, "takeOne", "(III)V"⟩
abbrev cX1_pullBy : ByteArray := prog_3_method_4_code
def yX1_pullBy : MethodName := ⟨RX1, "pullBy", "(I)I"⟩
abbrev cX1_wayOf : ByteArray := prog_3_method_5_code
def yX1_wayOf : MethodName := ⟨RX1, "wayOf", "(I)I"⟩
abbrev cX1_isHeld : ByteArray := prog_3_method_6_code
def yX1_isHeld : MethodName := ⟨RX1, "isHeld", "(I)Z"⟩
abbrev cX1_votesOf : ByteArray := prog_3_method_7_code
def yX1_votesOf : MethodName := ⟨RX1, "votesOf", "(I)I"⟩
abbrev cX1_gainBy : ByteArray := prog_3_method_8_code
def yX1_gainBy : MethodName := ⟨RX1, "gainBy", "(I)I"⟩
abbrev cX1_margin : ByteArray := prog_3_method_9_code
def yX1_margin : MethodName := ⟨RX1, "margin", "()I"⟩
abbrev cX1_votesOfSet : ByteArray := prog_3_method_10_code
def yX1_votesOfSet : MethodName := ⟨RX1, "votesOfSet", "(I)I"⟩
abbrev cX1_setThatGoes : ByteArray := prog_3_method_11_code
def yX1_setThatGoes : MethodName := ⟨RX1, "setThatGoes", "(I)I"⟩
abbrev cX1_isOn : ByteArray := prog_3_method_12_code
def yX1_isOn : MethodName := ⟨RX1, "isOn", "(I)Z"⟩
abbrev cX1_strainOn : ByteArray := prog_3_method_13_code
def yX1_strainOn : MethodName := ⟨RX1, "strainOn", "(I)I"⟩
abbrev cX1_strainByKind : ByteArray := prog_3_method_14_code
def yX1_strainByKind : MethodName := ⟨RX1, "strainByKind", "(I)I"⟩
def RX2 : String := "BoundBraces$House"
def TX2 : u_T := fun k => match k with
  | 0 => ("BoundBraces$House", "q", "I", false)
  | 1 => ("BoundBraces$House", "members", "I", false)
  | 2 => ("BoundBraces$House", "kind", "[I", true)
  | 3 => ("BoundBraces$House", "side", "[I", true)
  | _ => ("BoundBraces$House", "would", "[I", true)
def tyX2 : Nat → FieldType := fun k => match k with
  | 0 => .int
  | 1 => .int
  | 2 => .array .int
  | 3 => .array .int
  | _ => .array .int
abbrev wsX20 : List Cond := u_ws RX2 TX2 5
theorem nmX2 : ∀ a, a < 5 → ∀ b, b < 5 → a ≠ b → (TX2 a).2.1 ≠ (TX2 b).2.1 := by decide +kernel
theorem tyX2_ok : ∀ k, k < 5 → parseFieldDescriptor (TX2 k).2.2.1 = some (tyX2 k) := by decide +kernel
abbrev cX2_init : ByteArray := prog_4_method_1_code
def yX2_init : MethodName := ⟨RX2, "<init>", "()V"⟩
abbrev cX2_stands : ByteArray := prog_4_method_2_code
def yX2_stands : MethodName := ⟨RX2, "stands", "()Z"⟩
abbrev cX2_clear : ByteArray := prog_4_method_3_code
def yX2_clear : MethodName := ⟨RX2, "clear", "()V"⟩
abbrev cX2_copyFrom : ByteArray := prog_4_method_4_code
def yX2_copyFrom : MethodName := ⟨RX2, "copyFrom", "(LBoundBraces$House;)V"⟩
def RX3 : String := "BoundBraces$Papers"
def TX3 : u_T := fun k => match k with
  | 0 => ("BoundBraces$Papers", "seen", "I", false)
  | 1 => ("BoundBraces$Papers", "seenMatter", "[I", true)
  | 2 => ("BoundBraces$Papers", "seenWay", "[I", true)
  | 3 => ("BoundBraces$Papers", "entries", "I", false)
  | 4 => ("BoundBraces$Papers", "entryMember", "[I", true)
  | 5 => ("BoundBraces$Papers", "entryMatter", "[I", true)
  | _ => ("BoundBraces$Papers", "entryWay", "[I", true)
def tyX3 : Nat → FieldType := fun k => match k with
  | 0 => .int
  | 1 => .array .int
  | 2 => .array .int
  | 3 => .int
  | 4 => .array .int
  | 5 => .array .int
  | _ => .array .int
abbrev wsX30 : List Cond := u_ws RX3 TX3 7
theorem nmX3 : ∀ a, a < 7 → ∀ b, b < 7 → a ≠ b → (TX3 a).2.1 ≠ (TX3 b).2.1 := by decide +kernel
theorem tyX3_ok : ∀ k, k < 7 → parseFieldDescriptor (TX3 k).2.2.1 = some (tyX3 k) := by decide +kernel
abbrev cX3_init : ByteArray := prog_5_method_1_code
def yX3_init : MethodName := ⟨RX3, "<init>", "()V"⟩
abbrev cX3_clear : ByteArray := prog_5_method_2_code
def yX3_clear : MethodName := ⟨RX3, "clear", "()V"⟩
abbrev cX3_addSeen : ByteArray := prog_5_method_3_code
def yX3_addSeen : MethodName := ⟨RX3, "addSeen", "(II)V"⟩
abbrev cX3_addEntry : ByteArray := prog_5_method_4_code
def yX3_addEntry : MethodName := ⟨RX3, "addEntry", "(III)V"⟩
abbrev cX3_setThatFits : ByteArray := prog_5_method_5_code
def yX3_setThatFits : MethodName := ⟨RX3, "setThatFits", "(LBoundBraces$Sitting;)I"⟩
abbrev cX3_bestToPut : ByteArray := prog_5_method_6_code
def yX3_bestToPut : MethodName := ⟨RX3, "bestToPut", "(LBoundBraces$Sitting;)I"⟩
abbrev cX3_greatestPart : ByteArray := prog_5_method_7_code
def yX3_greatestPart : MethodName := ⟨RX3, "greatestPart", "(ILBoundBraces$Division;)I"⟩
abbrev cX3_firstWrong : ByteArray := prog_5_method_8_code
def yX3_firstWrong : MethodName := ⟨RX3, "firstWrong", "(LBoundBraces$Sitting;)I"⟩
def RX4 : String := "BoundBraces$Past"
def TX4 : u_T := fun k => match k with
  | 0 => ("BoundBraces$Past", "rows", "[LBoundBraces$Braces;", true)
  | 1 => ("BoundBraces$Past", "deeds", "I", false)
  | _ => ("BoundBraces$Past", "count", "I", false)
def tyX4 : Nat → FieldType := fun k => match k with
  | 0 => .array (.object "BoundBraces$Braces")
  | 1 => .int
  | _ => .int
abbrev wsX40 : List Cond := u_ws RX4 TX4 3
theorem nmX4 : ∀ a, a < 3 → ∀ b, b < 3 → a ≠ b → (TX4 a).2.1 ≠ (TX4 b).2.1 := by decide +kernel
theorem tyX4_ok : ∀ k, k < 3 → parseFieldDescriptor (TX4 k).2.2.1 = some (tyX4 k) := by decide +kernel
abbrev cX4_init : ByteArray := prog_6_method_1_code
def yX4_init : MethodName := ⟨RX4, "<init>", "()V"⟩
abbrev cX4_clear : ByteArray := prog_6_method_2_code
def yX4_clear : MethodName := ⟨RX4, "clear", "()V"⟩
abbrev cX4_remember : ByteArray := prog_6_method_3_code
def yX4_remember : MethodName := ⟨RX4, "remember", "(LBoundBraces$Braces;)V"⟩
abbrev cX4_recall : ByteArray := prog_6_method_4_code
def yX4_recall : MethodName := ⟨RX4, "recall", "(ILBoundBraces$Braces;)V"⟩
def RX5 : String := "BoundBraces$Reader"
def TX5 : u_T := fun k => match k with
  | 0 => ("BoundBraces$Reader", "letters", "[I", true)
  | 1 => ("BoundBraces$Reader", "length", "I", false)
  | 2 => ("BoundBraces$Reader", "at", "I", false)
  | 3 => ("BoundBraces$Reader", "faultNumber", "I", false)
  | 4 => ("BoundBraces$Reader", "faultLetter", "I", false)
  | 5 => ("BoundBraces$Reader", "house", "LBoundBraces$House;", true)
  | _ => ("BoundBraces$Reader", "braces", "LBoundBraces$Braces;", true)
def tyX5 : Nat → FieldType := fun k => match k with
  | 0 => .array .int
  | 1 => .int
  | 2 => .int
  | 3 => .int
  | 4 => .int
  | 5 => .object "BoundBraces$House"
  | _ => .object "BoundBraces$Braces"
abbrev wsX50 : List Cond := u_ws RX5 TX5 7
theorem nmX5 : ∀ a, a < 7 → ∀ b, b < 7 → a ≠ b → (TX5 a).2.1 ≠ (TX5 b).2.1 := by decide +kernel
theorem tyX5_ok : ∀ k, k < 7 → parseFieldDescriptor (TX5 k).2.2.1 = some (tyX5 k) := by decide +kernel
abbrev cX5_init : ByteArray := prog_7_method_1_code
def yX5_init : MethodName := ⟨RX5, "<init>", "([I)V"⟩
abbrev cX5_readText : ByteArray := prog_7_method_2_code
def yX5_readText : MethodName := ⟨RX5, "readText", "(I)I"⟩
abbrev cX5_readClause : ByteArray := prog_7_method_3_code
def yX5_readClause : MethodName := ⟨RX5, "readClause", "(I)V"⟩
abbrev cX5_readStrains : ByteArray := prog_7_method_4_code
def yX5_readStrains : MethodName := ⟨RX5, "readStrains", "(I)V"⟩
abbrev cX5_readMember : ByteArray := prog_7_method_5_code
def yX5_readMember : MethodName := ⟨RX5, "readMember", "(I)V"⟩
abbrev cX5_readStrap : ByteArray := prog_7_method_6_code
def yX5_readStrap : MethodName := ⟨RX5, "readStrap", "(I)V"⟩
abbrev cX5_readNumber : ByteArray := prog_7_method_7_code
def yX5_readNumber : MethodName := ⟨RX5, "readNumber", "(II)I"⟩
abbrev cX5_readEnd : ByteArray := prog_7_method_8_code
def yX5_readEnd : MethodName := ⟨RX5, "readEnd", "()V"⟩
abbrev cX5_skipBlanks : ByteArray := prog_7_method_9_code
def yX5_skipBlanks : MethodName := ⟨RX5, "skipBlanks", "()V"⟩
abbrev cX5_isFigure : ByteArray := prog_7_method_10_code
def yX5_isFigure : MethodName := ⟨RX5, "isFigure", "(I)Z"⟩
abbrev cX5_blame : ByteArray := prog_7_method_11_code
def yX5_blame : MethodName := ⟨RX5, "blame", "(II)V"⟩
def RX6 : String := "BoundBraces$Sitting"
def TX6 : u_T := fun k => match k with
  | 0 => ("BoundBraces$Sitting", "house", "LBoundBraces$House;", true)
  | 1 => ("BoundBraces$Sitting", "braces", "LBoundBraces$Braces;", true)
  | _ => ("BoundBraces$Sitting", "division", "LBoundBraces$Division;", true)
def tyX6 : Nat → FieldType := fun k => match k with
  | 0 => .object "BoundBraces$House"
  | 1 => .object "BoundBraces$Braces"
  | _ => .object "BoundBraces$Division"
abbrev wsX60 : List Cond := u_ws RX6 TX6 3
theorem nmX6 : ∀ a, a < 3 → ∀ b, b < 3 → a ≠ b → (TX6 a).2.1 ≠ (TX6 b).2.1 := by decide +kernel
theorem tyX6_ok : ∀ k, k < 3 → parseFieldDescriptor (TX6 k).2.2.1 = some (tyX6 k) := by decide +kernel
abbrev cX6_init : ByteArray := prog_8_method_1_code
def yX6_init : MethodName := ⟨RX6, "<init>", "(LBoundBraces$House;)V"⟩
abbrev cX6_putMatter : ByteArray := prog_8_method_2_code
def yX6_putMatter : MethodName := ⟨RX6, "putMatter", "(I)Z"⟩
abbrev cX6_endSession : ByteArray := prog_8_method_3_code
def yX6_endSession : MethodName := ⟨RX6, "endSession", "()V"⟩
abbrev cX6_marginOn : ByteArray := prog_8_method_4_code
def yX6_marginOn : MethodName := ⟨RX6, "marginOn", "(I)I"⟩
abbrev cX6_setOfMembers : ByteArray := prog_8_method_5_code
def yX6_setOfMembers : MethodName := ⟨RX6, "setOfMembers", "()I"⟩
abbrev cX6_setOfPassing : ByteArray := prog_8_method_6_code
def yX6_setOfPassing : MethodName := ⟨RX6, "setOfPassing", "()I"⟩
abbrev cX6_setOfHanging : ByteArray := prog_8_method_7_code
def yX6_setOfHanging : MethodName := ⟨RX6, "setOfHanging", "()I"⟩
abbrev cX6_setOfHeldOn : ByteArray := prog_8_method_8_code
def yX6_setOfHeldOn : MethodName := ⟨RX6, "setOfHeldOn", "(I)I"⟩
abbrev cX6_setOfCreaking : ByteArray := prog_8_method_9_code
def yX6_setOfCreaking : MethodName := ⟨RX6, "setOfCreaking", "(I)I"⟩
abbrev cX6_sideHeldMost : ByteArray := prog_8_method_10_code
def yX6_sideHeldMost : MethodName := ⟨RX6, "sideHeldMost", "()I"⟩
def RX7 : String := "BoundBraces$Trial"
def TX7 : u_T := fun k => match k with
  | 0 => ("BoundBraces$Trial", "now", "LBoundBraces$Sitting;", true)
  | 1 => ("BoundBraces$Trial", "tried", "LBoundBraces$Sitting;", true)
  | 2 => ("BoundBraces$Trial", "priceOfMargin", "[I", true)
  | 3 => ("BoundBraces$Trial", "joinedPrice", "[I", true)
  | 4 => ("BoundBraces$Trial", "priceOfGain", "[I", true)
  | 5 => ("BoundBraces$Trial", "mostPassed", "I", false)
  | _ => ("BoundBraces$Trial", "bestFigures", "I", false)
def tyX7 : Nat → FieldType := fun k => match k with
  | 0 => .object "BoundBraces$Sitting"
  | 1 => .object "BoundBraces$Sitting"
  | 2 => .array .int
  | 3 => .array .int
  | 4 => .array .int
  | 5 => .int
  | _ => .int
abbrev wsX70 : List Cond := u_ws RX7 TX7 7
theorem nmX7 : ∀ a, a < 7 → ∀ b, b < 7 → a ≠ b → (TX7 a).2.1 ≠ (TX7 b).2.1 := by decide +kernel
theorem tyX7_ok : ∀ k, k < 7 → parseFieldDescriptor (TX7 k).2.2.1 = some (tyX7 k) := by decide +kernel
abbrev cX7_init : ByteArray := prog_9_method_1_code
def yX7_init : MethodName := ⟨RX7, "<init>", "(LBoundBraces$Sitting;LBoundBraces$Sitting;)V"⟩
abbrev cX7_fewestToPass : ByteArray := prog_9_method_2_code
def yX7_fewestToPass : MethodName := ⟨RX7, "fewestToPass", "(I)I"⟩
abbrev cX7_priceGains : ByteArray := prog_9_method_3_code
def yX7_priceGains : MethodName := ⟨RX7, "priceGains", "(II)V"⟩
abbrev cX7_joinGains : ByteArray := prog_9_method_4_code
def yX7_joinGains : MethodName := ⟨RX7, "joinGains", "()V"⟩
abbrev cX7_firstTwang : ByteArray := prog_9_method_5_code
def yX7_firstTwang : MethodName := ⟨RX7, "firstTwang", "(I)I"⟩
abbrev cX7_findAgenda : ByteArray := prog_9_method_6_code
def yX7_findAgenda : MethodName := ⟨RX7, "findAgenda", "(I)V"⟩
abbrev cX7_tryAgenda : ByteArray := prog_9_method_7_code
def yX7_tryAgenda : MethodName := ⟨RX7, "tryAgenda", "(III)V"⟩
abbrev cX7_matterAt : ByteArray := prog_9_method_8_code
def yX7_matterAt : MethodName := ⟨RX7, "matterAt", "(II)I"⟩
abbrev cX7_ordersTurnedBy : ByteArray := prog_9_method_9_code
def yX7_ordersTurnedBy : MethodName := ⟨RX7, "ordersTurnedBy", "(II)I"⟩
abbrev cX7_ordersOf : ByteArray := prog_9_method_10_code
def yX7_ordersOf : MethodName := ⟨RX7, "ordersOf", "(I)I"⟩
abbrev cX7_subsetBehind : ByteArray := prog_9_method_11_code
def yX7_subsetBehind : MethodName := ⟨RX7, "subsetBehind", "(II)I"⟩
abbrev cX7_fill : ByteArray := prog_9_method_12_code
def yX7_fill : MethodName := ⟨RX7, "fill", "([II)V"⟩
def RX8 : String := "BoundBraces"
def TX8 : u_T := fun k => match k with
  | 0 => ("BoundBraces", "letters", "[I", true)
  | 1 => ("BoundBraces", "letterCount", "I", false)
  | 2 => ("BoundBraces", "faultLetter", "I", false)
  | 3 => ("BoundBraces", "currentSeed", "I", false)
  | 4 => ("BoundBraces", "reader", "LBoundBraces$Reader;", true)
  | 5 => ("BoundBraces", "assembly", "LBoundBraces$House;", true)
  | 6 => ("BoundBraces", "now", "LBoundBraces$Sitting;", true)
  | 7 => ("BoundBraces", "trial", "LBoundBraces$Trial;", true)
  | 8 => ("BoundBraces", "past", "LBoundBraces$Past;", true)
  | 9 => ("BoundBraces", "papers", "LBoundBraces$Papers;", true)
  | 10 => ("BoundBraces", "images", "[LBoundBraces$Braces;", true)
  | 11 => ("BoundBraces", "imageSeeds", "[I", true)
  | _ => ("BoundBraces", "isKept", "[Z", true)
def tyX8 : Nat → FieldType := fun k => match k with
  | 0 => .array .int
  | 1 => .int
  | 2 => .int
  | 3 => .int
  | 4 => .object "BoundBraces$Reader"
  | 5 => .object "BoundBraces$House"
  | 6 => .object "BoundBraces$Sitting"
  | 7 => .object "BoundBraces$Trial"
  | 8 => .object "BoundBraces$Past"
  | 9 => .object "BoundBraces$Papers"
  | 10 => .array (.object "BoundBraces$Braces")
  | 11 => .array .int
  | _ => .array .boolean
abbrev wsX80 : List Cond := u_ws RX8 TX8 13
theorem nmX8 : ∀ a, a < 13 → ∀ b, b < 13 → a ≠ b → (TX8 a).2.1 ≠ (TX8 b).2.1 := by decide +kernel
theorem tyX8_ok : ∀ k, k < 13 → parseFieldDescriptor (TX8 k).2.2.1 = some (tyX8 k) := by decide +kernel
abbrev cX8_init : ByteArray := prog_1_method_1_code
def yX8_init : MethodName := ⟨RX8, "<init>", "()V"⟩
abbrev cX8_feed : ByteArray := prog_1_method_2_code
def yX8_feed : MethodName := ⟨RX8, "feed", "(I)I"⟩
abbrev cX8_house : ByteArray := prog_1_method_3_code
def yX8_house : MethodName := ⟨RX8, "house", "()I"⟩
abbrev cX8_fault : ByteArray := prog_1_method_4_code
def yX8_fault : MethodName := ⟨RX8, "fault", "()I"⟩
abbrev cX8_told : ByteArray := prog_1_method_5_code
def yX8_told : MethodName := ⟨RX8, "told", "(I)I"⟩
abbrev cX8_member : ByteArray := prog_1_method_6_code
def yX8_member : MethodName := ⟨RX8, "member", "(II)I"⟩
abbrev cX8_strap : ByteArray := prog_1_method_7_code
def yX8_strap : MethodName := ⟨RX8, "strap", "(II)I"⟩
abbrev cX8_put : ByteArray := prog_1_method_8_code
def yX8_put : MethodName := ⟨RX8, "put", "(I)I"⟩
abbrev cX8_letOut : ByteArray := prog_1_method_9_code
def yX8_letOut : MethodName := ⟨RX8, "letOut", "(I)I"⟩
abbrev cX8_letGo : ByteArray := prog_1_method_10_code
def yX8_letGo : MethodName := ⟨RX8, "letGo", "(I)I"⟩
abbrev cX8_say : ByteArray := prog_1_method_11_code
def yX8_say : MethodName := ⟨RX8, "say", "(IIZI)I"⟩
abbrev cX8_session : ByteArray := prog_1_method_12_code
def yX8_session : MethodName := ⟨RX8, "session", "()I"⟩
abbrev cX8_drift : ByteArray := prog_1_method_13_code
def yX8_drift : MethodName := ⟨RX8, "drift", "(I)I"⟩
abbrev cX8_undo : ByteArray := prog_1_method_14_code
def yX8_undo : MethodName := ⟨RX8, "undo", "(I)I"⟩
abbrev cX8_goes : ByteArray := prog_1_method_15_code
def yX8_goes : MethodName := ⟨RX8, "goes", "(III)I"⟩
abbrev cX8_matter : ByteArray := prog_1_method_16_code
def yX8_matter : MethodName := ⟨RX8, "matter", "(II)I"⟩
abbrev cX8_agenda : ByteArray := prog_1_method_17_code
def yX8_agenda : MethodName := ⟨RX8, "agenda", "(II)I"⟩
abbrev cX8_power : ByteArray := prog_1_method_18_code
def yX8_power : MethodName := ⟨RX8, "power", "(II)I"⟩
abbrev cX8_quiet : ByteArray := prog_1_method_19_code
def yX8_quiet : MethodName := ⟨RX8, "quiet", "(II)I"⟩
abbrev cX8_see : ByteArray := prog_1_method_20_code
def yX8_see : MethodName := ⟨RX8, "see", "(II)I"⟩
abbrev cX8_couldBe : ByteArray := prog_1_method_21_code
def yX8_couldBe : MethodName := ⟨RX8, "couldBe", "()I"⟩
abbrev cX8_next : ByteArray := prog_1_method_22_code
def yX8_next : MethodName := ⟨RX8, "next", "()I"⟩
abbrev cX8_write : ByteArray := prog_1_method_23_code
def yX8_write : MethodName := ⟨RX8, "write", "(III)I"⟩
abbrev cX8_judge : ByteArray := prog_1_method_24_code
def yX8_judge : MethodName := ⟨RX8, "judge", "()I"⟩
abbrev cX8_tear : ByteArray := prog_1_method_25_code
def yX8_tear : MethodName := ⟨RX8, "tear", "()I"⟩
abbrev cX8_seed : ByteArray := prog_1_method_26_code
def yX8_seed : MethodName := ⟨RX8, "seed", "(I)I"⟩
abbrev cX8_keep : ByteArray := prog_1_method_27_code
def yX8_keep : MethodName := ⟨RX8, "keep", "(I)I"⟩
abbrev cX8_goBack : ByteArray := prog_1_method_28_code
def yX8_goBack : MethodName := ⟨RX8, "goBack", "(I)I"⟩
abbrev cX8_doByDraws : ByteArray := prog_1_method_29_code
def yX8_doByDraws : MethodName := ⟨RX8, "doByDraws", "()V"⟩
abbrev cX8_drawOf : ByteArray := prog_1_method_30_code
def yX8_drawOf : MethodName := ⟨RX8, "drawOf", "(I)I"⟩
abbrev cX8_isOutside : ByteArray := prog_1_method_31_code
def yX8_isOutside : MethodName := ⟨RX8, "isOutside", "(II)Z"⟩
abbrev cX8_isIn : ByteArray := prog_1_method_32_code
def yX8_isIn : MethodName := ⟨RX8, "isIn", "(II)Z"⟩
def RX9 : String := "BoundBracesModel"
def TX9 : u_T := fun k => match k with
  | 0 => ("BoundBracesModel", "text", "[I", true)
  | 1 => ("BoundBracesModel", "length", "I", false)
  | 2 => ("BoundBracesModel", "faultAt", "I", false)
  | 3 => ("BoundBracesModel", "bears", "I", false)
  | 4 => ("BoundBracesModel", "members", "I", false)
  | 5 => ("BoundBracesModel", "kind", "[I", true)
  | 6 => ("BoundBracesModel", "side", "[I", true)
  | 7 => ("BoundBracesModel", "would", "[I", true)
  | 8 => ("BoundBracesModel", "st", "[I", true)
  | 9 => ("BoundBracesModel", "now", "[I", true)
  | 10 => ("BoundBracesModel", "deeds", "[I", true)
  | 11 => ("BoundBracesModel", "deedsMany", "I", false)
  | 12 => ("BoundBracesModel", "seed", "J", false)
  | 13 => ("BoundBracesModel", "images", "[I", true)
  | 14 => ("BoundBracesModel", "seeds", "[J", true)
  | 15 => ("BoundBracesModel", "isKept", "[Z", true)
  | 16 => ("BoundBracesModel", "seen", "[I", true)
  | 17 => ("BoundBracesModel", "seenMany", "I", false)
  | 18 => ("BoundBracesModel", "book", "[I", true)
  | 19 => ("BoundBracesModel", "bookMany", "I", false)
  | 20 => ("BoundBracesModel", "place", "I", false)
  | 21 => ("BoundBracesModel", "wrong", "I", false)
  | 22 => ("BoundBracesModel", "wrongAt", "I", false)
  | 23 => ("BoundBracesModel", "readBears", "I", false)
  | 24 => ("BoundBracesModel", "readMembers", "I", false)
  | 25 => ("BoundBracesModel", "readKind", "[I", true)
  | 26 => ("BoundBracesModel", "readSide", "[I", true)
  | 27 => ("BoundBracesModel", "readWould", "[I", true)
  | 28 => ("BoundBracesModel", "read", "[I", true)
  | 29 => ("BoundBracesModel", "strains", "[I", true)
  | _ => ("BoundBracesModel", "rank", "[I", true)
def tyX9 : Nat → FieldType := fun k => match k with
  | 0 => .array .int
  | 1 => .int
  | 2 => .int
  | 3 => .int
  | 4 => .int
  | 5 => .array .int
  | 6 => .array .int
  | 7 => .array .int
  | 8 => .array .int
  | 9 => .array .int
  | 10 => .array .int
  | 11 => .int
  | 12 => .long
  | 13 => .array .int
  | 14 => .array .long
  | 15 => .array .boolean
  | 16 => .array .int
  | 17 => .int
  | 18 => .array .int
  | 19 => .int
  | 20 => .int
  | 21 => .int
  | 22 => .int
  | 23 => .int
  | 24 => .int
  | 25 => .array .int
  | 26 => .array .int
  | 27 => .array .int
  | 28 => .array .int
  | 29 => .array .int
  | _ => .array .int
abbrev wsX90 : List Cond := u_ws RX9 TX9 31
theorem nmX9 : ∀ a, a < 31 → ∀ b, b < 31 → a ≠ b → (TX9 a).2.1 ≠ (TX9 b).2.1 := by decide +kernel
theorem tyX9_ok : ∀ k, k < 31 → parseFieldDescriptor (TX9 k).2.2.1 = some (tyX9 k) := by decide +kernel
abbrev cX9_init : ByteArray := prog_11_method_1_code
def yX9_init : MethodName := ⟨RX9, "<init>", "()V"⟩
abbrev cX9_in : ByteArray := prog_11_method_3_code
def yX9_in : MethodName := ⟨RX9, "in", "(III)Z"⟩
abbrev cX9_has : ByteArray := prog_11_method_4_code
def yX9_has : MethodName := ⟨RX9, "has", "(II)Z"⟩
abbrev cX9_bits : ByteArray := prog_11_method_5_code
def yX9_bits : MethodName := ⟨RX9, "bits", "(I)I"⟩
abbrev cX9_bring : ByteArray := prog_11_method_6_code
def yX9_bring : MethodName := ⟨RX9, "bring", "([II[III)V"⟩
abbrev cX9_isMember : ByteArray := prog_11_method_7_code
def yX9_isMember : MethodName := ⟨RX9, "isMember", "(I)Z"⟩
abbrev cX9_isStrap : ByteArray := prog_11_method_8_code
def yX9_isStrap : MethodName := ⟨RX9, "isStrap", "(I)Z"⟩
abbrev cX9_isMatter : ByteArray := prog_11_method_9_code
def yX9_isMatter : MethodName := ⟨RX9, "isMatter", "(I)Z"⟩
abbrev cX9_feed : ByteArray := prog_11_method_10_code
def yX9_feed : MethodName := ⟨RX9, "feed", "(I)I"⟩
abbrev cX9_here : ByteArray := prog_11_method_11_code
def yX9_here : MethodName := ⟨RX9, "here", "()I"⟩
abbrev cX9_skips : ByteArray := prog_11_method_12_code
def yX9_skips : MethodName := ⟨RX9, "skips", "()V"⟩
abbrev cX9_fails : ByteArray := prog_11_method_13_code
def yX9_fails : MethodName := ⟨RX9, "fails", "(I)V"⟩
abbrev cX9_number : ByteArray := prog_11_method_14_code
def yX9_number : MethodName := ⟨RX9, "number", "(II)I"⟩
abbrev cX9_ends : ByteArray := prog_11_method_15_code
def yX9_ends : MethodName := ⟨RX9, "ends", "()V"⟩
abbrev cX9_readMember : ByteArray := prog_11_method_16_code
def yX9_readMember : MethodName := ⟨RX9, "readMember", "()V"⟩
abbrev cX9_readStrap : ByteArray := prog_11_method_17_code
def yX9_readStrap : MethodName := ⟨RX9, "readStrap", "()V"⟩
abbrev cX9_readClause : ByteArray := prog_11_method_18_code
def yX9_readClause : MethodName := ⟨RX9, "readClause", "()V"⟩
abbrev cX9_readHouse : ByteArray := prog_11_method_19_code
def yX9_readHouse : MethodName := ⟨RX9, "readHouse", "()V"⟩
abbrev cX9_house : ByteArray := prog_11_method_20_code
def yX9_house : MethodName := ⟨RX9, "house", "()I"⟩
abbrev cX9_fault : ByteArray := prog_11_method_21_code
def yX9_fault : MethodName := ⟨RX9, "fault", "()I"⟩
abbrev cX9_holds : ByteArray := prog_11_method_22_code
def yX9_holds : MethodName := ⟨RX9, "holds", "([II)Z"⟩
abbrev cX9_pullOf : ByteArray := prog_11_method_23_code
def yX9_pullOf : MethodName := ⟨RX9, "pullOf", "([III)I"⟩
abbrev cX9_notchesOf : ByteArray := prog_11_method_24_code
def yX9_notchesOf : MethodName := ⟨RX9, "notchesOf", "([II)I"⟩
abbrev cX9_hangs : ByteArray := prog_11_method_25_code
def yX9_hangs : MethodName := ⟨RX9, "hangs", "([II)Z"⟩
abbrev cX9_wouldOf : ByteArray := prog_11_method_26_code
def yX9_wouldOf : MethodName := ⟨RX9, "wouldOf", "(II)I"⟩
abbrev cX9_goesOf : ByteArray := prog_11_method_27_code
def yX9_goesOf : MethodName := ⟨RX9, "goesOf", "([III)I"⟩
abbrev cX9_isHeld : ByteArray := prog_11_method_28_code
def yX9_isHeld : MethodName := ⟨RX9, "isHeld", "([III)Z"⟩
abbrev cX9_votesOf : ByteArray := prog_11_method_29_code
def yX9_votesOf : MethodName := ⟨RX9, "votesOf", "([II)I"⟩
abbrev cX9_marginOf : ByteArray := prog_11_method_30_code
def yX9_marginOf : MethodName := ⟨RX9, "marginOf", "([II)I"⟩
abbrev cX9_strainBy : ByteArray := prog_11_method_31_code
def yX9_strainBy : MethodName := ⟨RX9, "strainBy", "([III)I"⟩
abbrev cX9_puts : ByteArray := prog_11_method_32_code
def yX9_puts : MethodName := ⟨RX9, "puts", "([II)Z"⟩
abbrev cX9_sessionOn : ByteArray := prog_11_method_33_code
def yX9_sessionOn : MethodName := ⟨RX9, "sessionOn", "([I)V"⟩
abbrev cX9_lets : ByteArray := prog_11_method_34_code
def yX9_lets : MethodName := ⟨RX9, "lets", "([II)V"⟩
abbrev cX9_strapsThat : ByteArray := prog_11_method_35_code
def yX9_strapsThat : MethodName := ⟨RX9, "strapsThat", "([II)I"⟩
abbrev cX9_whoHangs : ByteArray := prog_11_method_36_code
def yX9_whoHangs : MethodName := ⟨RX9, "whoHangs", "()I"⟩
abbrev cX9_holdsMost : ByteArray := prog_11_method_37_code
def yX9_holdsMost : MethodName := ⟨RX9, "holdsMost", "()I"⟩
abbrev cX9_wouldPass : ByteArray := prog_11_method_38_code
def yX9_wouldPass : MethodName := ⟨RX9, "wouldPass", "()I"⟩
abbrev cX9_told : ByteArray := prog_11_method_39_code
def yX9_told : MethodName := ⟨RX9, "told", "(I)I"⟩
abbrev cX9_heldOn : ByteArray := prog_11_method_40_code
def yX9_heldOn : MethodName := ⟨RX9, "heldOn", "(I)I"⟩
abbrev cX9_clashesOf : ByteArray := prog_11_method_41_code
def yX9_clashesOf : MethodName := ⟨RX9, "clashesOf", "(I)I"⟩
abbrev cX9_freedOf : ByteArray := prog_11_method_42_code
def yX9_freedOf : MethodName := ⟨RX9, "freedOf", "(I)I"⟩
abbrev cX9_member : ByteArray := prog_11_method_43_code
def yX9_member : MethodName := ⟨RX9, "member", "(II)I"⟩
abbrev cX9_strap : ByteArray := prog_11_method_44_code
def yX9_strap : MethodName := ⟨RX9, "strap", "(II)I"⟩
abbrev cX9_notes : ByteArray := prog_11_method_45_code
def yX9_notes : MethodName := ⟨RX9, "notes", "()V"⟩
abbrev cX9_put : ByteArray := prog_11_method_46_code
def yX9_put : MethodName := ⟨RX9, "put", "(I)I"⟩
abbrev cX9_letOut : ByteArray := prog_11_method_47_code
def yX9_letOut : MethodName := ⟨RX9, "letOut", "(I)I"⟩
abbrev cX9_letGo : ByteArray := prog_11_method_48_code
def yX9_letGo : MethodName := ⟨RX9, "letGo", "(I)I"⟩
abbrev cX9_say : ByteArray := prog_11_method_49_code
def yX9_say : MethodName := ⟨RX9, "say", "(IIZI)I"⟩
abbrev cX9_session : ByteArray := prog_11_method_50_code
def yX9_session : MethodName := ⟨RX9, "session", "()I"⟩
abbrev cX9_draw : ByteArray := prog_11_method_51_code
def yX9_draw : MethodName := ⟨RX9, "draw", "(I)I"⟩
abbrev cX9_drawn : ByteArray := prog_11_method_52_code
def yX9_drawn : MethodName := ⟨RX9, "drawn", "()V"⟩
abbrev cX9_drift : ByteArray := prog_11_method_53_code
def yX9_drift : MethodName := ⟨RX9, "drift", "(I)I"⟩
abbrev cX9_undo : ByteArray := prog_11_method_54_code
def yX9_undo : MethodName := ⟨RX9, "undo", "(I)I"⟩
abbrev cX9_asItIs : ByteArray := prog_11_method_55_code
def yX9_asItIs : MethodName := ⟨RX9, "asItIs", "()V"⟩
abbrev cX9_goes : ByteArray := prog_11_method_56_code
def yX9_goes : MethodName := ⟨RX9, "goes", "(III)I"⟩
abbrev cX9_creaksOf : ByteArray := prog_11_method_57_code
def yX9_creaksOf : MethodName := ⟨RX9, "creaksOf", "(I)I"⟩
abbrev cX9_leastOf : ByteArray := prog_11_method_58_code
def yX9_leastOf : MethodName := ⟨RX9, "leastOf", "(I)I"⟩
abbrev cX9_twangOf : ByteArray := prog_11_method_59_code
def yX9_twangOf : MethodName := ⟨RX9, "twangOf", "(I)I"⟩
abbrev cX9_matter : ByteArray := prog_11_method_60_code
def yX9_matter : MethodName := ⟨RX9, "matter", "(II)I"⟩
abbrev cX9_nextOrder : ByteArray := prog_11_method_61_code
def yX9_nextOrder : MethodName := ⟨RX9, "nextOrder", "(I)Z"⟩
abbrev cX9_ranks : ByteArray := prog_11_method_62_code
def yX9_ranks : MethodName := ⟨RX9, "ranks", "(I)I"⟩
abbrev cX9_agenda : ByteArray := prog_11_method_63_code
def yX9_agenda : MethodName := ⟨RX9, "agenda", "(II)I"⟩
abbrev cX9_power : ByteArray := prog_11_method_64_code
def yX9_power : MethodName := ⟨RX9, "power", "(II)I"⟩
abbrev cX9_quiet : ByteArray := prog_11_method_65_code
def yX9_quiet : MethodName := ⟨RX9, "quiet", "(II)I"⟩
abbrev cX9_see : ByteArray := prog_11_method_66_code
def yX9_see : MethodName := ⟨RX9, "see", "(II)I"⟩
abbrev cX9_couldBe : ByteArray := prog_11_method_67_code
def yX9_couldBe : MethodName := ⟨RX9, "couldBe", "()I"⟩
abbrev cX9_next : ByteArray := prog_11_method_68_code
def yX9_next : MethodName := ⟨RX9, "next", "()I"⟩
abbrev cX9_write : ByteArray := prog_11_method_69_code
def yX9_write : MethodName := ⟨RX9, "write", "(III)I"⟩
abbrev cX9_judge : ByteArray := prog_11_method_70_code
def yX9_judge : MethodName := ⟨RX9, "judge", "()I"⟩
abbrev cX9_tear : ByteArray := prog_11_method_71_code
def yX9_tear : MethodName := ⟨RX9, "tear", "()I"⟩
abbrev cX9_seed : ByteArray := prog_11_method_72_code
def yX9_seed : MethodName := ⟨RX9, "seed", "(I)I"⟩
abbrev cX9_keep : ByteArray := prog_11_method_73_code
def yX9_keep : MethodName := ⟨RX9, "keep", "(I)I"⟩
abbrev cX9_goBack : ByteArray := prog_11_method_74_code
def yX9_goBack : MethodName := ⟨RX9, "goBack", "(I)I"⟩
def RJ6 : String := "java/lang/Integer"
abbrev cJ6_bitCount_0f7a4 : ByteArray := prog_12_method_49_code
def yJ6_bitCount_0f7a4 : MethodName := ⟨RJ6, "bitCount", "(I)I"⟩
def RJ9 : String := "java/lang/Math"
abbrev cJ9_floorMod_7cf53 : ByteArray := prog_13_method_50_code
def yJ9_floorMod_7cf53 : MethodName := ⟨RJ9, "floorMod", "(II)I"⟩
abbrev cJ9_max_7cf53 : ByteArray := prog_13_method_65_code
def yJ9_max_7cf53 : MethodName := ⟨RJ9, "max", "(II)I"⟩
abbrev cJ9_min_7cf53 : ByteArray := prog_13_method_69_code
def yJ9_min_7cf53 : MethodName := ⟨RJ9, "min", "(II)I"⟩
def RJ10 : String := "java/lang/System"
def RL : String := "BoundBracesLaw"
abbrev cL_law : ByteArray := code
def yL_law : MethodName := ⟨RL, "law", "([I)Z"⟩
abbrev vwCl : List vw_C := [(RX0, TX0, 12), (RX1, TX1, 9), (RX2, TX2, 5), (RX3, TX3, 7), (RX4, TX4, 3), (RX5, TX5, 7), (RX6, TX6, 3), (RX7, TX7, 7), (RX8, TX8, 13), (RX9, TX9, 31)]
