-- ===== PART A: goes FIRST, ahead of the names: the tables' words, and 'selects' of the private methods out of them =====
/-- a private method of a class that the tables say can be made, by its rows of tables_1 -/
def lw_okq (q : MethodName × Nat) : Prop := (q.1.cls ≠ "java/lang/invoke/MethodHandle" ∧ q.1.cls ≠ "java/lang/invoke/VarHandle") ∧ Cond.instantiable q.1.cls q.2 ∈ tables_1 ∧ Cond.privateMethod q.1 ∈ tables_1 ∧ Cond.instanceMethod q.1 ∈ tables_1
theorem lw_p0 : lw_okq (⟨"EventLog$Packer", "begin", "(Z)V"⟩, 8) := ⟨⟨by decide +kernel, by decide +kernel⟩, List.mem_of_getElem? (i := 61) (by decide +kernel), List.mem_of_getElem? (i := 156) (by decide +kernel), List.mem_of_getElem? (i := 157) (by decide +kernel)⟩
theorem lw_p1 : lw_okq (⟨"EventLog$Packer", "packVarint", "(J)V"⟩, 8) := ⟨⟨by decide +kernel, by decide +kernel⟩, List.mem_of_getElem? (i := 61) (by decide +kernel), List.mem_of_getElem? (i := 172) (by decide +kernel), List.mem_of_getElem? (i := 173) (by decide +kernel)⟩
theorem lw_p2 : lw_okq (⟨"EventLog$Packer", "packByte", "(I)V"⟩, 8) := ⟨⟨by decide +kernel, by decide +kernel⟩, List.mem_of_getElem? (i := 61) (by decide +kernel), List.mem_of_getElem? (i := 177) (by decide +kernel), List.mem_of_getElem? (i := 178) (by decide +kernel)⟩
theorem lw_p3 : lw_okq (⟨"EventLog$Packer", "packRun", "(I)V"⟩, 8) := ⟨⟨by decide +kernel, by decide +kernel⟩, List.mem_of_getElem? (i := 61) (by decide +kernel), List.mem_of_getElem? (i := 205) (by decide +kernel), List.mem_of_getElem? (i := 206) (by decide +kernel)⟩
theorem lw_p4 : lw_okq (⟨"EventLog$Packer", "packEntry", "(LEventLog$Events;I)V"⟩, 8) := ⟨⟨by decide +kernel, by decide +kernel⟩, List.mem_of_getElem? (i := 61) (by decide +kernel), List.mem_of_getElem? (i := 209) (by decide +kernel), List.mem_of_getElem? (i := 210) (by decide +kernel)⟩
theorem lw_p5 : lw_okq (⟨"EventLog$Packer", "repeated", "(LEventLog$Events;I)I"⟩, 8) := ⟨⟨by decide +kernel, by decide +kernel⟩, List.mem_of_getElem? (i := 61) (by decide +kernel), List.mem_of_getElem? (i := 214) (by decide +kernel), List.mem_of_getElem? (i := 215) (by decide +kernel)⟩
theorem lw_p6 : lw_okq (⟨"EventLog$Packer", "headX", "(LEventLog$Events;II)I"⟩, 8) := ⟨⟨by decide +kernel, by decide +kernel⟩, List.mem_of_getElem? (i := 61) (by decide +kernel), List.mem_of_getElem? (i := 232) (by decide +kernel), List.mem_of_getElem? (i := 233) (by decide +kernel)⟩
theorem lw_p7 : lw_okq (⟨"EventLog$Packer", "packBrought", "(LEventLog$Events;II)V"⟩, 8) := ⟨⟨by decide +kernel, by decide +kernel⟩, List.mem_of_getElem? (i := 61) (by decide +kernel), List.mem_of_getElem? (i := 245) (by decide +kernel), List.mem_of_getElem? (i := 246) (by decide +kernel)⟩
theorem lw_p8 : lw_okq (⟨"EventLog$Packer", "packBytes", "(JI)V"⟩, 8) := ⟨⟨by decide +kernel, by decide +kernel⟩, List.mem_of_getElem? (i := 61) (by decide +kernel), List.mem_of_getElem? (i := 249) (by decide +kernel), List.mem_of_getElem? (i := 250) (by decide +kernel)⟩
theorem lw_p9 : lw_okq (⟨"EventLog$Reader", "begin", "(LEventLog$Events;)V"⟩, 5) := ⟨⟨by decide +kernel, by decide +kernel⟩, List.mem_of_getElem? (i := 108) (by decide +kernel), List.mem_of_getElem? (i := 273) (by decide +kernel), List.mem_of_getElem? (i := 274) (by decide +kernel)⟩
theorem lw_p10 : lw_okq (⟨"EventLog$Reader", "readVarint", "(I)J"⟩, 5) := ⟨⟨by decide +kernel, by decide +kernel⟩, List.mem_of_getElem? (i := 108) (by decide +kernel), List.mem_of_getElem? (i := 282) (by decide +kernel), List.mem_of_getElem? (i := 283) (by decide +kernel)⟩
theorem lw_p11 : lw_okq (⟨"EventLog$Reader", "readByte", "()I"⟩, 5) := ⟨⟨by decide +kernel, by decide +kernel⟩, List.mem_of_getElem? (i := 108) (by decide +kernel), List.mem_of_getElem? (i := 286) (by decide +kernel), List.mem_of_getElem? (i := 287) (by decide +kernel)⟩
theorem lw_p12 : lw_okq (⟨"EventLog$Reader", "fail", "(II)V"⟩, 5) := ⟨⟨by decide +kernel, by decide +kernel⟩, List.mem_of_getElem? (i := 108) (by decide +kernel), List.mem_of_getElem? (i := 294) (by decide +kernel), List.mem_of_getElem? (i := 295) (by decide +kernel)⟩
theorem lw_p13 : lw_okq (⟨"EventLog$Reader", "isFine", "()Z"⟩, 5) := ⟨⟨by decide +kernel, by decide +kernel⟩, List.mem_of_getElem? (i := 108) (by decide +kernel), List.mem_of_getElem? (i := 302) (by decide +kernel), List.mem_of_getElem? (i := 303) (by decide +kernel)⟩
theorem lw_p14 : lw_okq (⟨"EventLog$Reader", "readEntry", "(LEventLog$Events;J)V"⟩, 5) := ⟨⟨by decide +kernel, by decide +kernel⟩, List.mem_of_getElem? (i := 108) (by decide +kernel), List.mem_of_getElem? (i := 309) (by decide +kernel), List.mem_of_getElem? (i := 310) (by decide +kernel)⟩
theorem lw_p15 : lw_okq (⟨"EventLog$Reader", "readRun", "(LEventLog$Events;JII)V"⟩, 5) := ⟨⟨by decide +kernel, by decide +kernel⟩, List.mem_of_getElem? (i := 108) (by decide +kernel), List.mem_of_getElem? (i := 316) (by decide +kernel), List.mem_of_getElem? (i := 317) (by decide +kernel)⟩
def lw_privs_1 : List (MethodName × Nat) := [(⟨"EventLog$Packer", "begin", "(Z)V"⟩, 8), (⟨"EventLog$Packer", "packVarint", "(J)V"⟩, 8), (⟨"EventLog$Packer", "packByte", "(I)V"⟩, 8), (⟨"EventLog$Packer", "packRun", "(I)V"⟩, 8), (⟨"EventLog$Packer", "packEntry", "(LEventLog$Events;I)V"⟩, 8), (⟨"EventLog$Packer", "repeated", "(LEventLog$Events;I)I"⟩, 8), (⟨"EventLog$Packer", "headX", "(LEventLog$Events;II)I"⟩, 8), (⟨"EventLog$Packer", "packBrought", "(LEventLog$Events;II)V"⟩, 8), (⟨"EventLog$Packer", "packBytes", "(JI)V"⟩, 8), (⟨"EventLog$Reader", "begin", "(LEventLog$Events;)V"⟩, 5), (⟨"EventLog$Reader", "readVarint", "(I)J"⟩, 5), (⟨"EventLog$Reader", "readByte", "()I"⟩, 5), (⟨"EventLog$Reader", "fail", "(II)V"⟩, 5), (⟨"EventLog$Reader", "isFine", "()Z"⟩, 5), (⟨"EventLog$Reader", "readEntry", "(LEventLog$Events;J)V"⟩, 5), (⟨"EventLog$Reader", "readRun", "(LEventLog$Events;JII)V"⟩, 5)]
theorem lw_r1 : ∀ q ∈ lw_privs_1, lw_okq q := List.forall_mem_cons.mpr ⟨lw_p0, List.forall_mem_cons.mpr ⟨lw_p1, List.forall_mem_cons.mpr ⟨lw_p2, List.forall_mem_cons.mpr ⟨lw_p3, List.forall_mem_cons.mpr ⟨lw_p4, List.forall_mem_cons.mpr ⟨lw_p5, List.forall_mem_cons.mpr ⟨lw_p6, List.forall_mem_cons.mpr ⟨lw_p7, List.forall_mem_cons.mpr ⟨lw_p8, List.forall_mem_cons.mpr ⟨lw_p9, List.forall_mem_cons.mpr ⟨lw_p10, List.forall_mem_cons.mpr ⟨lw_p11, List.forall_mem_cons.mpr ⟨lw_p12, List.forall_mem_cons.mpr ⟨lw_p13, List.forall_mem_cons.mpr ⟨lw_p14, List.forall_mem_cons.mpr ⟨lw_p15, fun _ h => absurd h List.not_mem_nil⟩⟩⟩⟩⟩⟩⟩⟩⟩⟩⟩⟩⟩⟩⟩⟩
theorem lw_p16 : lw_okq (⟨"EventLog$Reader", "keep", "(LEventLog$Events;IJJI)V"⟩, 5) := ⟨⟨by decide +kernel, by decide +kernel⟩, List.mem_of_getElem? (i := 108) (by decide +kernel), List.mem_of_getElem? (i := 324) (by decide +kernel), List.mem_of_getElem? (i := 325) (by decide +kernel)⟩
theorem lw_p17 : lw_okq (⟨"EventLog$Reader", "readLikeAnother", "(LEventLog$Events;IJI)V"⟩, 5) := ⟨⟨by decide +kernel, by decide +kernel⟩, List.mem_of_getElem? (i := 108) (by decide +kernel), List.mem_of_getElem? (i := 336) (by decide +kernel), List.mem_of_getElem? (i := 337) (by decide +kernel)⟩
theorem lw_p18 : lw_okq (⟨"EventLog$Reader", "readOwn", "(LEventLog$Events;IJI)V"⟩, 5) := ⟨⟨by decide +kernel, by decide +kernel⟩, List.mem_of_getElem? (i := 108) (by decide +kernel), List.mem_of_getElem? (i := 343) (by decide +kernel), List.mem_of_getElem? (i := 344) (by decide +kernel)⟩
theorem lw_p19 : lw_okq (⟨"EventLog$Reader", "readBytes", "(I)J"⟩, 5) := ⟨⟨by decide +kernel, by decide +kernel⟩, List.mem_of_getElem? (i := 108) (by decide +kernel), List.mem_of_getElem? (i := 347) (by decide +kernel), List.mem_of_getElem? (i := 348) (by decide +kernel)⟩
theorem lw_p20 : lw_okq (⟨"EventLog$Reader", "readSignal", "()I"⟩, 5) := ⟨⟨by decide +kernel, by decide +kernel⟩, List.mem_of_getElem? (i := 108) (by decide +kernel), List.mem_of_getElem? (i := 351) (by decide +kernel), List.mem_of_getElem? (i := 352) (by decide +kernel)⟩
theorem lw_p21 : lw_okq (⟨"java/lang/Throwable", "fillInStackTrace", "(I)Ljava/lang/Throwable;"⟩, 6) := ⟨⟨by decide +kernel, by decide +kernel⟩, List.mem_of_getElem? (i := 445) (by decide +kernel), List.mem_of_getElem? (i := 443) (by decide +kernel), List.mem_of_getElem? (i := 444) (by decide +kernel)⟩
theorem lw_p22 : lw_okq (⟨"EventLogModel", "fails", "(ZZZ)Z"⟩, 21) := ⟨⟨by decide +kernel, by decide +kernel⟩, List.mem_of_getElem? (i := 591) (by decide +kernel), List.mem_of_getElem? (i := 680) (by decide +kernel), List.mem_of_getElem? (i := 681) (by decide +kernel)⟩
theorem lw_p23 : lw_okq (⟨"EventLogModel", "makeUp", "()V"⟩, 21) := ⟨⟨by decide +kernel, by decide +kernel⟩, List.mem_of_getElem? (i := 591) (by decide +kernel), List.mem_of_getElem? (i := 695) (by decide +kernel), List.mem_of_getElem? (i := 696) (by decide +kernel)⟩
theorem lw_p24 : lw_okq (⟨"EventLogModel", "varint", "(J)V"⟩, 21) := ⟨⟨by decide +kernel, by decide +kernel⟩, List.mem_of_getElem? (i := 591) (by decide +kernel), List.mem_of_getElem? (i := 699) (by decide +kernel), List.mem_of_getElem? (i := 700) (by decide +kernel)⟩
theorem lw_p25 : lw_okq (⟨"EventLogModel", "put", "(I)V"⟩, 21) := ⟨⟨by decide +kernel, by decide +kernel⟩, List.mem_of_getElem? (i := 591) (by decide +kernel), List.mem_of_getElem? (i := 704) (by decide +kernel), List.mem_of_getElem? (i := 705) (by decide +kernel)⟩
theorem lw_p26 : lw_okq (⟨"EventLogModel", "isAlike", "(I)Z"⟩, 21) := ⟨⟨by decide +kernel, by decide +kernel⟩, List.mem_of_getElem? (i := 591) (by decide +kernel), List.mem_of_getElem? (i := 708) (by decide +kernel), List.mem_of_getElem? (i := 709) (by decide +kernel)⟩
theorem lw_p27 : lw_okq (⟨"EventLogModel", "bringsSame", "(II)Z"⟩, 21) := ⟨⟨by decide +kernel, by decide +kernel⟩, List.mem_of_getElem? (i := 591) (by decide +kernel), List.mem_of_getElem? (i := 712) (by decide +kernel), List.mem_of_getElem? (i := 713) (by decide +kernel)⟩
theorem lw_p28 : lw_okq (⟨"EventLogModel", "run", "(I)V"⟩, 21) := ⟨⟨by decide +kernel, by decide +kernel⟩, List.mem_of_getElem? (i := 591) (by decide +kernel), List.mem_of_getElem? (i := 716) (by decide +kernel), List.mem_of_getElem? (i := 717) (by decide +kernel)⟩
theorem lw_p29 : lw_okq (⟨"EventLogModel", "entry", "(I)V"⟩, 21) := ⟨⟨by decide +kernel, by decide +kernel⟩, List.mem_of_getElem? (i := 591) (by decide +kernel), List.mem_of_getElem? (i := 720) (by decide +kernel), List.mem_of_getElem? (i := 721) (by decide +kernel)⟩
theorem lw_p30 : lw_okq (⟨"EventLogModel", "copyOf", "(I)I"⟩, 21) := ⟨⟨by decide +kernel, by decide +kernel⟩, List.mem_of_getElem? (i := 591) (by decide +kernel), List.mem_of_getElem? (i := 724) (by decide +kernel), List.mem_of_getElem? (i := 725) (by decide +kernel)⟩
theorem lw_p31 : lw_okq (⟨"EventLogModel", "isAsFar", "(I)Z"⟩, 21) := ⟨⟨by decide +kernel, by decide +kernel⟩, List.mem_of_getElem? (i := 591) (by decide +kernel), List.mem_of_getElem? (i := 728) (by decide +kernel), List.mem_of_getElem? (i := 729) (by decide +kernel)⟩
def lw_privs_2 : List (MethodName × Nat) := [(⟨"EventLog$Reader", "keep", "(LEventLog$Events;IJJI)V"⟩, 5), (⟨"EventLog$Reader", "readLikeAnother", "(LEventLog$Events;IJI)V"⟩, 5), (⟨"EventLog$Reader", "readOwn", "(LEventLog$Events;IJI)V"⟩, 5), (⟨"EventLog$Reader", "readBytes", "(I)J"⟩, 5), (⟨"EventLog$Reader", "readSignal", "()I"⟩, 5), (⟨"java/lang/Throwable", "fillInStackTrace", "(I)Ljava/lang/Throwable;"⟩, 6), (⟨"EventLogModel", "fails", "(ZZZ)Z"⟩, 21), (⟨"EventLogModel", "makeUp", "()V"⟩, 21), (⟨"EventLogModel", "varint", "(J)V"⟩, 21), (⟨"EventLogModel", "put", "(I)V"⟩, 21), (⟨"EventLogModel", "isAlike", "(I)Z"⟩, 21), (⟨"EventLogModel", "bringsSame", "(II)Z"⟩, 21), (⟨"EventLogModel", "run", "(I)V"⟩, 21), (⟨"EventLogModel", "entry", "(I)V"⟩, 21), (⟨"EventLogModel", "copyOf", "(I)I"⟩, 21), (⟨"EventLogModel", "isAsFar", "(I)Z"⟩, 21)]
theorem lw_r2 : ∀ q ∈ lw_privs_2, lw_okq q := List.forall_mem_cons.mpr ⟨lw_p16, List.forall_mem_cons.mpr ⟨lw_p17, List.forall_mem_cons.mpr ⟨lw_p18, List.forall_mem_cons.mpr ⟨lw_p19, List.forall_mem_cons.mpr ⟨lw_p20, List.forall_mem_cons.mpr ⟨lw_p21, List.forall_mem_cons.mpr ⟨lw_p22, List.forall_mem_cons.mpr ⟨lw_p23, List.forall_mem_cons.mpr ⟨lw_p24, List.forall_mem_cons.mpr ⟨lw_p25, List.forall_mem_cons.mpr ⟨lw_p26, List.forall_mem_cons.mpr ⟨lw_p27, List.forall_mem_cons.mpr ⟨lw_p28, List.forall_mem_cons.mpr ⟨lw_p29, List.forall_mem_cons.mpr ⟨lw_p30, List.forall_mem_cons.mpr ⟨lw_p31, fun _ h => absurd h List.not_mem_nil⟩⟩⟩⟩⟩⟩⟩⟩⟩⟩⟩⟩⟩⟩⟩⟩
theorem lw_p32 : lw_okq (⟨"EventLogModel", "readVarint", "()J"⟩, 21) := ⟨⟨by decide +kernel, by decide +kernel⟩, List.mem_of_getElem? (i := 591) (by decide +kernel), List.mem_of_getElem? (i := 740) (by decide +kernel), List.mem_of_getElem? (i := 741) (by decide +kernel)⟩
theorem lw_p33 : lw_okq (⟨"EventLogModel", "next", "()I"⟩, 21) := ⟨⟨by decide +kernel, by decide +kernel⟩, List.mem_of_getElem? (i := 591) (by decide +kernel), List.mem_of_getElem? (i := 744) (by decide +kernel), List.mem_of_getElem? (i := 745) (by decide +kernel)⟩
theorem lw_p34 : lw_okq (⟨"EventLogModel", "meet", "(II)V"⟩, 21) := ⟨⟨by decide +kernel, by decide +kernel⟩, List.mem_of_getElem? (i := 591) (by decide +kernel), List.mem_of_getElem? (i := 748) (by decide +kernel), List.mem_of_getElem? (i := 749) (by decide +kernel)⟩
theorem lw_p35 : lw_okq (⟨"EventLogModel", "readRun", "(III)V"⟩, 21) := ⟨⟨by decide +kernel, by decide +kernel⟩, List.mem_of_getElem? (i := 591) (by decide +kernel), List.mem_of_getElem? (i := 753) (by decide +kernel), List.mem_of_getElem? (i := 754) (by decide +kernel)⟩
theorem lw_p36 : lw_okq (⟨"EventLogModel", "readCount", "()J"⟩, 21) := ⟨⟨by decide +kernel, by decide +kernel⟩, List.mem_of_getElem? (i := 591) (by decide +kernel), List.mem_of_getElem? (i := 757) (by decide +kernel), List.mem_of_getElem? (i := 758) (by decide +kernel)⟩
theorem lw_p37 : lw_okq (⟨"EventLogModel", "take", "(IJJI)V"⟩, 21) := ⟨⟨by decide +kernel, by decide +kernel⟩, List.mem_of_getElem? (i := 591) (by decide +kernel), List.mem_of_getElem? (i := 761) (by decide +kernel), List.mem_of_getElem? (i := 762) (by decide +kernel)⟩
theorem lw_p38 : lw_okq (⟨"EventLogModel", "readEntry", "(II)V"⟩, 21) := ⟨⟨by decide +kernel, by decide +kernel⟩, List.mem_of_getElem? (i := 591) (by decide +kernel), List.mem_of_getElem? (i := 765) (by decide +kernel), List.mem_of_getElem? (i := 766) (by decide +kernel)⟩
theorem lw_p39 : lw_okq (⟨"EventLogModel", "before", "(IJ)I"⟩, 21) := ⟨⟨by decide +kernel, by decide +kernel⟩, List.mem_of_getElem? (i := 591) (by decide +kernel), List.mem_of_getElem? (i := 769) (by decide +kernel), List.mem_of_getElem? (i := 770) (by decide +kernel)⟩
theorem lw_p40 : lw_okq (⟨"EventLogModel", "readBytes", "(I)J"⟩, 21) := ⟨⟨by decide +kernel, by decide +kernel⟩, List.mem_of_getElem? (i := 591) (by decide +kernel), List.mem_of_getElem? (i := 773) (by decide +kernel), List.mem_of_getElem? (i := 774) (by decide +kernel)⟩
theorem lw_p41 : lw_okq (⟨"EventLogModel", "sum", "(I)J"⟩, 21) := ⟨⟨by decide +kernel, by decide +kernel⟩, List.mem_of_getElem? (i := 591) (by decide +kernel), List.mem_of_getElem? (i := 794) (by decide +kernel), List.mem_of_getElem? (i := 795) (by decide +kernel)⟩
def lw_privs_3 : List (MethodName × Nat) := [(⟨"EventLogModel", "readVarint", "()J"⟩, 21), (⟨"EventLogModel", "next", "()I"⟩, 21), (⟨"EventLogModel", "meet", "(II)V"⟩, 21), (⟨"EventLogModel", "readRun", "(III)V"⟩, 21), (⟨"EventLogModel", "readCount", "()J"⟩, 21), (⟨"EventLogModel", "take", "(IJJI)V"⟩, 21), (⟨"EventLogModel", "readEntry", "(II)V"⟩, 21), (⟨"EventLogModel", "before", "(IJ)I"⟩, 21), (⟨"EventLogModel", "readBytes", "(I)J"⟩, 21), (⟨"EventLogModel", "sum", "(I)J"⟩, 21)]
theorem lw_r3 : ∀ q ∈ lw_privs_3, lw_okq q := List.forall_mem_cons.mpr ⟨lw_p32, List.forall_mem_cons.mpr ⟨lw_p33, List.forall_mem_cons.mpr ⟨lw_p34, List.forall_mem_cons.mpr ⟨lw_p35, List.forall_mem_cons.mpr ⟨lw_p36, List.forall_mem_cons.mpr ⟨lw_p37, List.forall_mem_cons.mpr ⟨lw_p38, List.forall_mem_cons.mpr ⟨lw_p39, List.forall_mem_cons.mpr ⟨lw_p40, List.forall_mem_cons.mpr ⟨lw_p41, fun _ h => absurd h List.not_mem_nil⟩⟩⟩⟩⟩⟩⟩⟩⟩⟩
def lw_privs : List (MethodName × Nat) := lw_privs_1 ++ (lw_privs_2 ++ (lw_privs_3))
def lw_tbl : List Cond := k2_sels lw_privs ++ tables_1
theorem lw_privs_ok : ∀ q ∈ lw_privs, lw_okq q := by
  show ∀ q ∈ lw_privs_1 ++ (lw_privs_2 ++ (lw_privs_3)), lw_okq q
  exact List.forall_mem_append.mpr ⟨lw_r1, List.forall_mem_append.mpr ⟨lw_r2, lw_r3⟩⟩
def U0 : List Cond := lw_tbl.filter goodWord
theorem mU {w : Cond} (h : w ∈ lw_tbl) (g : goodWord w = true) : w ∈ U0 := List.mem_filter.mpr ⟨h, g⟩
theorem U0_good : ∀ w ∈ U0, goodWord w = true := fun _ h => (List.mem_filter.mp h).2
theorem iwT {c0 : Cond} {Cn : String} {T : u_T} {N : Nat} (h : ∀ x ∈ u_ws Cn T N, x ∈ U0) : ∀ x ∈ u_ws Cn T N, x ∈ c0 :: U0 := fun x q => .tail _ (h x q)
def nestW : List Cond := [Cond.methodLinkNest "EventLog" 9 ⟨"EventLog$Events", "<init>", "()V"⟩ "EventLog", Cond.methodLinkNest "EventLog" 21 ⟨"EventLog$Bytes", "<init>", "()V"⟩ "EventLog", Cond.methodLinkNest "EventLog$Packer" 11 ⟨"EventLog$Past", "<init>", "()V"⟩ "EventLog", Cond.methodLinkNest "EventLog$Reader" 11 ⟨"EventLog$Past", "<init>", "()V"⟩ "EventLog", Cond.methodLinkNest "EventLog$Reader" 127 ⟨"EventLog", "isSignal", "(I)Z"⟩ "EventLog"]
theorem nest_0 : Cond.methodLinkNest "EventLog" 9 ⟨"EventLog$Events", "<init>", "()V"⟩ "EventLog" ∈ nestW := List.mem_of_getElem? (i := 0) rfl
theorem nest_1 : Cond.methodLinkNest "EventLog" 21 ⟨"EventLog$Bytes", "<init>", "()V"⟩ "EventLog" ∈ nestW := List.mem_of_getElem? (i := 1) rfl
theorem nest_2 : Cond.methodLinkNest "EventLog$Packer" 11 ⟨"EventLog$Past", "<init>", "()V"⟩ "EventLog" ∈ nestW := List.mem_of_getElem? (i := 2) rfl
theorem nest_3 : Cond.methodLinkNest "EventLog$Reader" 11 ⟨"EventLog$Past", "<init>", "()V"⟩ "EventLog" ∈ nestW := List.mem_of_getElem? (i := 3) rfl
theorem nest_4 : Cond.methodLinkNest "EventLog$Reader" 127 ⟨"EventLog", "isSignal", "(I)Z"⟩ "EventLog" ∈ nestW := List.mem_of_getElem? (i := 4) rfl
theorem nestW_all : ∀ w ∈ nestW, ∃ a i x h, w = .methodLinkNest a i x h := fun w h => by
  simp only [nestW, List.mem_cons, List.not_mem_nil, or_false] at h
  rcases h with rfl | rfl | rfl | rfl | rfl <;> exact ⟨_, _, _, _, rfl⟩
def Kx (D : va_G) (cl : List vw_C) (tys : List (ClassId × FieldType)) (U : State) : Prop := va_K D cl tys U ∧ ∀ w ∈ nestW, va_Nw w U
theorem Kx.warm {D : va_G} {cl : List vw_C} {tys : List (ClassId × FieldType)} {s U : State} (hW : s.WarmedH U.vm) (h : Kx D cl tys s) : Kx D cl tys U := ⟨va_K.moved hW.alike h.1, fun w hw => by
  obtain ⟨a, i, x, h9, rfl⟩ := nestW_all w hw
  exact va_Nw.warmM hW (h.2 _ hw)⟩
theorem Kx.same {D : va_G} {cl : List vw_C} {tys : List (ClassId × FieldType)} {u U : State} (hv : u.vm = U.vm) (h : Kx D cl tys u) : Kx D cl tys U := ⟨va_K.moved (by rw [hv]; exact Vm.Alike.refl _) h.1, fun w hw => by
  obtain ⟨a, i, x, h9, rfl⟩ := nestW_all w hw
  exact va_tabs rfl hv (h.2 _ hw)⟩
def Cl (y : MethodName) (bytes : ByteArray) (maxL : Nat) (ret : Option FieldType) (n : Nat) : Prop := Cond.code y bytes maxL ret ∈ U0 ∧ Cond.initialized y.cls ∈ U0 ∧ y.cls ≠ "java/lang/invoke/MethodHandle" ∧ y.cls ≠ "java/lang/invoke/VarHandle" ∧ (parseMethodDescriptor y.desc).map (fun d => d.parameters.length) = some n
def ClV (y : MethodName) (bytes : ByteArray) (maxL : Nat) (ret : Option FieldType) (n : Nat) : Prop := Cl y bytes maxL ret n ∧ Cond.instanceMethod y ∈ U0 ∧ Cond.selects y.cls y y ∈ U0
def ClI (y : MethodName) (bytes : ByteArray) (maxL : Nat) (n : Nat) : Prop := Cl y bytes maxL none n ∧ y.name = "<init>" ∧ Cond.instanceMethod y ∈ U0
def ClS (y : MethodName) (bytes : ByteArray) (maxL : Nat) (ret : Option FieldType) (n : Nat) : Prop := Cl y bytes maxL ret n ∧ Cond.static y ∈ U0
section CW
variable {c0 : Cond} {R : Room} {s : State} {args : Array Value} {own host : String} {index maxL n : Nat} {y : MethodName} {bytes : ByteArray} {ret : Option FieldType} {rm : Room}
theorem gdU (h : Cond.code y bytes maxL ret ∈ U0) : GoodIn (c0 :: U0) (Cond.code y bytes maxL ret :: U0) := fun w hw => by
  have : w ∈ U0 := (List.mem_cons.mp hw).elim (fun e => e ▸ h) id
  exact ⟨.tail _ this, good_of_word (U0_good w this)⟩
theorem cB (hts : ∀ w ∈ c0 :: U0, w.before args s = true) (k : Cl y bytes maxL ret n) (hl : Cond.methodLink own index y ∈ U0) (hR : rm.frames + 1 ≤ R.frames ∧ 8 + (maxL + 11) + rm.locals ≤ R.locals) : CallB R s args own index y bytes maxL ret (Cond.code y bytes maxL ret :: U0) rm rm.cells rm.slots n :=
  callB_of n hts (gdU k.1) rfl rfl rfl (hts _ (.tail _ k.2.1)) (hts _ (.tail _ hl)) ⟨k.2.2.1, k.2.2.2.1, k.2.2.2.2⟩ hR
theorem cV (hts : ∀ w ∈ c0 :: U0, w.before args s = true) (k : ClV y bytes maxL ret n) (hl : Cond.methodLink own index y ∈ U0) (hR : rm.frames + 1 ≤ R.frames ∧ 8 + (maxL + 11) + rm.locals ≤ R.locals) : CallW R s args own y.cls index y bytes maxL ret (Cond.code y bytes maxL ret :: U0) rm rm.cells rm.slots n := ⟨cB hts k.1 hl hR, hts _ (.tail _ k.2.1), hts _ (.tail _ k.2.2)⟩
theorem cS (hts : ∀ w ∈ c0 :: U0, w.before args s = true) (k : ClS y bytes maxL ret n) (hl : Cond.methodLink own index y ∈ U0) (hR : rm.frames + 1 ≤ R.frames ∧ 8 + (maxL + 11) + rm.locals ≤ R.locals) : CallB R s args own index y bytes maxL ret (Cond.code y bytes maxL ret :: U0) rm rm.cells rm.slots n ∧ (Cond.static y).before args s = true := ⟨cB hts k.1 hl hR, hts _ (.tail _ k.2)⟩
theorem cI (hts : ∀ w ∈ c0 :: U0, w.before args s = true) (k : ClI y bytes maxL n) (hl : Cond.methodLink own index y ∈ U0) (hR : rm.frames + 1 ≤ R.frames ∧ 8 + (maxL + 11) + rm.locals ≤ R.locals) : CallB R s args own index y bytes maxL none (Cond.code y bytes maxL none :: U0) rm rm.cells rm.slots n ∧ y.name = "<init>" ∧ (Cond.instanceMethod y).before args s = true := ⟨cB hts k.1 hl hR, k.2.1, hts _ (.tail _ k.2.2)⟩
theorem cN (hts : ∀ w ∈ c0 :: U0, w.before args s = true) (k : Cl y bytes maxL ret n) (hl : va_Nw (.methodLinkNest own index y host) s) (hR : rm.frames + 1 ≤ R.frames ∧ 8 + (maxL + 11) + rm.locals ≤ R.locals) : va_CN R s args own index y host bytes maxL ret (Cond.code y bytes maxL ret :: U0) rm rm.cells rm.slots n :=
  va_cnB n hts (gdU k.1) rfl rfl rfl hl (hts _ (.tail _ k.2.1)) ⟨k.2.2.1, k.2.2.2.1, k.2.2.2.2⟩ hR
theorem cSN (hts : ∀ w ∈ c0 :: U0, w.before args s = true) (k : ClS y bytes maxL ret n) (hl : va_Nw (.methodLinkNest own index y host) s) (hR : rm.frames + 1 ≤ R.frames ∧ 8 + (maxL + 11) + rm.locals ≤ R.locals) : va_CN R s args own index y host bytes maxL ret (Cond.code y bytes maxL ret :: U0) rm rm.cells rm.slots n ∧ (Cond.static y).before args s = true ∧ True := ⟨cN hts k.1 hl hR, hts _ (.tail _ k.2), trivial⟩
theorem cIN (hts : ∀ w ∈ c0 :: U0, w.before args s = true) (k : ClI y bytes maxL n) (hl : va_Nw (.methodLinkNest own index y host) s) (hR : rm.frames + 1 ≤ R.frames ∧ 8 + (maxL + 11) + rm.locals ≤ R.locals) : va_CN R s args own index y host bytes maxL none (Cond.code y bytes maxL none :: U0) rm rm.cells rm.slots n ∧ y.name = "<init>" ∧ (Cond.instanceMethod y).before args s = true := ⟨cN hts k.1 hl hR, k.2.1, hts _ (.tail _ k.2.2)⟩
end CW
/-! What a method's contract is here: from the cells w it comes back with the answer o and the cells w2, the rest of the heap as it was. -/
def bI (b : Bool) : Int32 := if b then 1 else 0
theorem bI_n (b : Bool) : narrow .boolean (.int (bI b)) = .int (bI b) := by cases b <;> rfl
theorem bI_f (b : Bool) : fits .boolean (.int (bI b)) = true := by cases b <;> rfl
def Hp (D : va_G) (cl : List vw_C) (B A : Nat → Prop) (H0 H : Heap) (locs : List Loc) (w : va_W) : Prop := va_P D cl w H ∧ va_D B w ∧ va_S A H0 H locs
def Pw (D : va_G) (cl : List vw_C) (tys : List (ClassId × FieldType)) (av : List Value) (sz : Nat) (w : va_W) : Array Value → State → Prop := va_Pc av (fun U => U.heap.size = sz ∧ va_P D cl w U.heap ∧ Kx D cl tys U ∧ va_D (fun _ => True) w)
def Qw (D : va_G) (cl : List vw_C) (tys : List (ClassId × FieldType)) (o : Option Value) (A : Nat → Prop) (w : va_W) : Array Value → State → Outcome → State → Prop := fun _ st oc t => (oc = .returned o ∧ va_P D cl w t.heap ∧ va_D A w) ∧ va_F A st t
def Fn (l : Launch) (D : va_G) (cl : List vw_C) (tys : List (ClassId × FieldType)) (y : MethodName) (ws : List Cond) (rm : Room) (av : List Value) (w : va_W) (o : Option Value) (w2 : va_W) : Prop :=
  ∀ sz : Nat, Met l y ws rm (Pw D cl tys av sz w) (Qw D cl tys o (va_A w sz) w2) rm.cells rm.slots (va_A w sz)
def QR (o : Option Value) (A : Nat → Prop) : Array Value → State → Outcome → State → Prop := fun _ st oc t => oc = .returned o ∧ va_F A st t
/-- a method that changes nothing -/
def FnR (l : Launch) (D : va_G) (cl : List vw_C) (tys : List (ClassId × FieldType)) (y : MethodName) (ws : List Cond) (rm : Room) (av : List Value) (w : va_W) (o : Option Value) : Prop :=
  ∀ sz : Nat, Met l y ws rm (Pw D cl tys av sz w) (QR o (fun q => sz ≤ q)) rm.cells rm.slots (fun q => sz ≤ q)
/-- what stands fixed on a walk -/
def Cx (p : Program) (s : State) (m : MethodId) (args : Array Value) (meth : Method) (c : Code) (D : va_G) (cl : List vw_C) (tys : List (ClassId × FieldType)) (A : Nat → Prop) (cc : ByteArray) (nL : Nat) (ret : Option FieldType) (Ts : List Cond) (own : String) : Prop :=
  p.tables.exec = Jvm.exec ∧ c.code = cc ∧ meth.sig.returnType = ret ∧ c.maxLocals = nL ∧ s.vm.findClass own = some m.cls ∧ (∀ w ∈ Ts, w.before args s = true) ∧ meth.locks = false ∧ Kx D cl tys s ∧ (∀ q : Nat, s.heap.size ≤ q → A q)
theorem ip {c : Prop} {_ : Decidable c} {α : Type} {a b r : α} (hc : c) (h : (if c then a else b) = r) : a = r := by rw [if_pos hc] at h; exact h
theorem im {c : Prop} {_ : Decidable c} {α : Type} {a b r : α} (hc : ¬ c) (h : (if c then a else b) = r) : b = r := by rw [if_neg hc] at h; exact h
theorem ob {α β : Type} {x : Option α} {k : α → Option β} {r : β} (h : x.bind k = some r) : ∃ a, x = some a ∧ k a = some r := by
  cases x with
  | none => cases h
  | some a => exact ⟨a, rfl, h⟩
theorem oa {α : Type} {i : Int32} {n : Nat} {x : Option α} {r : α} (h : (if i < 0 ∨ n ≤ i.toNatClampNeg then none else x) = some r) : vp_in i n ∧ x = some r := by
  by_cases hc : i < 0 ∨ n ≤ i.toNatClampNeg
  · rw [if_pos hc] at h; cases h
  · rw [if_neg hc] at h; exact ⟨hc, h⟩
theorem va_pm {α : Type} {is : List Nat} {ws ws' : List α} (h : is.map (fun i => ws[i]?) = ws'.map some) : is.filterMap (fun i => ws[i]?) = ws' := by
  induction is generalizing ws' with
  | nil =>
    cases ws' with
    | nil => rfl
    | cons a b => simp at h
  | cons i is ih =>
    cases ws' with
    | nil => simp at h
    | cons a b =>
      rw [List.map_cons, List.map_cons] at h
      injection h with h1 h2
      simp [List.filterMap_cons, h1, ih h2]
theorem Pw_blind {D : va_G} {cl : List vw_C} {tys : List (ClassId × FieldType)} {av : List Value} {sz : Nat} {w : va_W} : FrameBlind (Pw D cl tys av sz w) := fun a U g mk q => by
  obtain ⟨q0, q1, qP, qK, qD⟩ := q
  exact ⟨q0, q1, qP, Kx.same (u := U) (U := U.calling g mk a) rfl qK, qD⟩
def lt1 {α β : Type} (a : α) (k : α → β) : β := k a
theorem lb {α β : Type} {a : α} {k : α → β} {r : β} (h : lt1 a k = r) : ∃ x, a = x ∧ k x = r := ⟨a, rfl, h⟩
theorem vinN {x k : Int32} {n : Nat} (hk : k.toInt = (n : Int)) (h0 : ¬ x < 0) (h1 : ¬ k ≤ x) : vp_in x n := by
  rw [vp_in_iff]
  rw [Int32.lt_iff_toInt_lt, Int32.toInt_zero] at h0
  rw [Int32.le_iff_toInt_le, hk] at h1
  omega
theorem vin5000 {x : Int32} (h0 : ¬ x < 0) (h1 : ¬ 5000 ≤ x) : vp_in x 5000 := vinN (by decide) h0 h1
theorem vin300 {x : Int32} (h0 : ¬ x < 0) (h1 : ¬ 300 ≤ x) : vp_in x 300 := vinN (by decide) h0 h1
theorem vin300l {x : Int32} (h0 : ¬ x < 0) (h1 : x < 300) : vp_in x 300 := vin300 h0 (fun h => by
  rw [Int32.lt_iff_toInt_lt] at h1
  rw [Int32.le_iff_toInt_le] at h
  omega)
theorem tb_in {n : Int32} {k : Int64} (h1 : ¬ lg_cmp k 1 < 0) (h2 : ¬ 0 < lg_cmp k n.toInt64) (h3 : lg_cmp k 300 ≤ 0) (h4 : ¬ 300 ≤ n - k.toInt32) : vp_in (n - k.toInt32) 300 := by
  rw [lg_cmp_lt, Int64.lt_iff_toInt_lt] at h1
  rw [lg_cmp_gt, Int64.lt_iff_toInt_lt, Int32.toInt_toInt64] at h2
  rw [lg_cmp_le, Int64.le_iff_toInt_le] at h3
  have e1 : (1 : Int64).toInt = 1 := by decide
  have e3 : (300 : Int64).toInt = 300 := by decide
  rw [e1] at h1
  rw [e3] at h3
  refine vin300 (fun h => ?_) h4
  rw [Int32.lt_iff_toInt_lt, Int32.toInt_sub, Int64.toInt_toInt32, Int32.toInt_zero] at h
  have a1 := n.toInt_lt
  have a2 := n.le_toInt
  have e5 : k.toInt.bmod (2 ^ 32) = k.toInt := by rw [Int.bmod_def]; split <;> omega
  rw [e5, Int.bmod_def] at h
  split at h <;> omega
theorem tb_o {x : Int32} {lo hi : Int} (h : ∀ k : Int, lo ≤ k → k ≤ hi → x.toInt ≠ k) : x.toInt < lo ∨ hi < x.toInt := by
  by_cases h1 : x.toInt < lo
  · exact Or.inl h1
  · by_cases h2 : hi < x.toInt
    · exact Or.inr h2
    · exact absurd rfl (h x.toInt (by omega) (by omega))
theorem i32n {x y : Int32} {k : Int} (h : ¬ x = y) (hk : y.toInt = k) : x.toInt ≠ k := fun e => h (Int32.toInt_inj.mp (e.trans hk.symm))
section FNW
variable {l : Launch} {D : va_G} {cl : List vw_C} {tys : List (ClassId × FieldType)}
theorem Fn.ofW {y : MethodName} {ws ws' : List Cond} {rm : Room} {av : List Value} {w w2 : va_W} {o : Option Value} {cc : ByteArray} {maxL : Nat} {ret : Option FieldType}
    (hy : plainName y.cls = true) (hw : ws = Cond.code y cc maxL ret :: ws') (hlen : (lg_sl av).length ≤ maxL)
    (body : ∀ (p : Program) (e : Env) (s : State) (m : MethodId) (below : List Frame) (meth : Method) (c : Code) (A : Nat → Prop) (ls : Array Slot), Cx p s m av.toArray meth c D cl tys A cc maxL ret ws y.cls → Hp D cl A A s.heap s.heap [] w → (y.name = "<init>" → meth.name = "<init>") → lv_has ls maxL (lv_args 0 av) →
      W p l e rm s m av.toArray below meth c s.heap [] 0 0 (MQ below (Qw D cl tys o A w2) av.toArray s rm.cells rm.slots A) (F0 m 0 ls [])) : Fn l D cl tys y ws rm av w o w2 := by
  intro sz
  refine Met.ofW (cc := cc) (maxL := maxL) (ret := ret) hy hw ?_
  intro p e s m args below meth c s₁ B hml hv
  obtain ⟨rfl, hsz, hP, hK, hD0⟩ := hv
  subst hsz
  rw [lg_entry_eq]
  exact body p e s m below meth c (va_A w s.heap.size) _ ⟨B.exec, B.bytes, B.returns, hml, findClass_of_methodNamed B.named, atoms_spec (ws := ws) B.pre, B.notSynchronized, hK, fun q h => Or.inr h⟩ ⟨hP, hD0.self, va_S.rf⟩ (fun h => (name_of_methodNamed B.named B.method).1.trans h) (lv_entry av hlen)
theorem FnR.ofW {y : MethodName} {ws ws' : List Cond} {rm : Room} {av : List Value} {w : va_W} {o : Option Value} {cc : ByteArray} {maxL : Nat} {ret : Option FieldType}
    (hy : plainName y.cls = true) (hw : ws = Cond.code y cc maxL ret :: ws') (hlen : (lg_sl av).length ≤ maxL)
    (body : ∀ (p : Program) (e : Env) (s : State) (m : MethodId) (below : List Frame) (meth : Method) (c : Code) (A : Nat → Prop) (ls : Array Slot), Cx p s m av.toArray meth c D cl tys A cc maxL ret ws y.cls → Hp D cl (fun _ => True) A s.heap s.heap [] w → lv_has ls maxL (lv_args 0 av) →
      W p l e rm s m av.toArray below meth c s.heap [] 0 0 (MQ below (QR o A) av.toArray s rm.cells rm.slots A) (F0 m 0 ls [])) : FnR l D cl tys y ws rm av w o := by
  intro sz
  refine Met.ofW (cc := cc) (maxL := maxL) (ret := ret) hy hw ?_
  intro p e s m args below meth c s₁ B hml hv
  obtain ⟨rfl, hsz, hP, hK, hD0⟩ := hv
  subst hsz
  rw [lg_entry_eq]
  exact body p e s m below meth c (fun q => s.heap.size ≤ q) _ ⟨B.exec, B.bytes, B.returns, hml, findClass_of_methodNamed B.named, atoms_spec (ws := ws) B.pre, B.notSynchronized, hK, fun q h => h⟩ ⟨hP, hD0, va_S.rf⟩ (lv_entry av hlen)
variable {p : Program} {e : Env} {R : Room} {s : State} {m : MethodId} {args : Array Value} {below : List Frame} {meth : Method} {c : Code} {H : Heap} {locs : List Loc} {cells slots : Nat} {Q : State → Prop}
variable {A : Nat → Prop} {cc : ByteArray} {nL : Nat} {ret : Option FieldType} {Ts : List Cond} {own : String} {w : va_W} {pc : Nat} {ls : Array Slot} {rest : List Value}
/-- a field is read -/
theorem gt (C : Cx p s m args meth c D cl tys A cc nL ret Ts own) {B : Nat → Prop} (hH : Hp D cl B A s.heap H locs w) {Cn : String} {T : u_T} {N ci index : Nat} (hin : ∀ x ∈ u_ws Cn T N, x ∈ Ts) (q0 : Nat) {a : Nat} {fs : List Value} (he : w[q0]? = some (a, .inr (ci, fs))) (hc : cl[ci]? = some (Cn, T, N)) (k : Nat) (hk : k < N)
    (hlink : Cond.fieldLink own index (T k).1 (T k).2.1 (T k).2.2.1 ∈ Ts) {v : Value} (hv : fs[k]? = some v) (hdg : decode cc pc = .ok (.getfield index, 3))
    (kk : W p l e R s m args below meth c H locs cells slots Q (F0 m (pc + 3) ls (v :: rest))) : W p l e R s m args below meth c H locs cells slots Q (F0 m pc ls (.ref a :: rest)) :=
  va_get (D := D) C.1 C.2.1 C.2.2.2.2.2.1 hin C.2.2.2.2.1 C.2.2.2.2.2.2.2.1.1 hH.1 q0 he hc k hk (C.2.2.2.2.2.1 _ hlink) (fun _ h => h) hv hdg kk
/-- a field is written -/
theorem pt (C : Cx p s m args meth c D cl tys A cc nL ret Ts own) (hH : Hp D cl A A s.heap H locs w) {Cn : String} {T : u_T} {N ci index : Nat} (hin : ∀ x ∈ u_ws Cn T N, x ∈ Ts) (ty0 : Nat → FieldType) (hty : ∀ k, k < N → parseFieldDescriptor (T k).2.2.1 = some (ty0 k)) (hnm : ∀ a, a < N → ∀ b, b < N → a ≠ b → (T a).2.1 ≠ (T b).2.1) (q0 : Nat) {a : Nat} {fs : List Value} (he : w[q0]? = some (a, .inr (ci, fs))) (hc : cl[ci]? = some (Cn, T, N)) (k : Nat) (hk : k < N)
    (hlink : Cond.fieldLink own index (T k).1 (T k).2.1 (T k).2.2.1 ∈ Ts) (hfin : (T k).2.2.2 = false) {v : Value} (hn : narrow (ty0 k) v = v) (hfit : fits (ty0 k) v = true) (hl : k < fs.length) (hdg : decode cc pc = .ok (.putfield index, 3)) (w2 : va_W) (hw2 : w.set q0 (a, .inr (ci, fs.set k v)) = w2)
    (kk : ∀ (H1 : Heap) (locs1 : List Loc), Hp D cl A A s.heap H1 locs1 w2 → W p l e R s m args below meth c H1 locs1 cells slots Q (F0 m (pc + 3) ls rest)) : W p l e R s m args below meth c H locs cells slots Q (F0 m pc ls (v :: .ref a :: rest)) := by
  subst hw2
  exact va_put (D := D) C.1 C.2.1 C.2.2.2.2.2.1 hin ty0 hty hnm C.2.2.2.2.1 C.2.2.2.2.2.2.2.1.1 hH.1 hH.2.1 hH.2.2 q0 he hc k hk (C.2.2.2.2.2.1 _ hlink) (fun _ h => h) hfin (hty k hk) hn hfit hl hdg (fun H1 locs1 a1 a2 a3 => kk H1 locs1 ⟨a1, a2, a3⟩)
/-- a final field is written, in a constructor -/
theorem ptF (C : Cx p s m args meth c D cl tys A cc nL ret Ts own) (hH : Hp D cl A A s.heap H locs w) {Cn : String} {T : u_T} {N ci index : Nat} (hin : ∀ x ∈ u_ws Cn T N, x ∈ Ts) (ty0 : Nat → FieldType) (hty : ∀ k, k < N → parseFieldDescriptor (T k).2.2.1 = some (ty0 k)) (hnm : ∀ a, a < N → ∀ b, b < N → a ≠ b → (T a).2.1 ≠ (T b).2.1) (hin2 : meth.name = "<init>") (q0 : Nat) {a : Nat} {fs : List Value} (he : w[q0]? = some (a, .inr (ci, fs))) (hc : cl[ci]? = some (Cn, T, N)) (k : Nat) (hk : k < N)
    (hlink : Cond.fieldLink own index (T k).1 (T k).2.1 (T k).2.2.1 ∈ Ts) (hfin : (T k).2.2.2 = true) (hdecl : (T k).1 = own) {v : Value} (hn : narrow (ty0 k) v = v) (hfit : fits (ty0 k) v = true) (hl : k < fs.length) (hdg : decode cc pc = .ok (.putfield index, 3)) (w2 : va_W) (hw2 : w.set q0 (a, .inr (ci, fs.set k v)) = w2)
    (kk : ∀ (H1 : Heap) (locs1 : List Loc), Hp D cl A A s.heap H1 locs1 w2 → W p l e R s m args below meth c H1 locs1 cells slots Q (F0 m (pc + 3) ls rest)) : W p l e R s m args below meth c H locs cells slots Q (F0 m pc ls (v :: .ref a :: rest)) := by
  subst hw2
  exact va_putF (D := D) C.1 C.2.1 C.2.2.2.2.2.1 hin ty0 hty hnm C.2.2.2.2.1 C.2.2.2.2.2.2.2.1.1 hH.1 hH.2.1 hH.2.2 q0 he hc k hk (C.2.2.2.2.2.1 _ hlink) (fun _ h => h) hfin hin2 hdecl (hty k hk) hn hfit hl hdg (fun H1 locs1 a1 a2 a3 => kk H1 locs1 ⟨a1, a2, a3⟩)
theorem ali (C : Cx p s m args meth c D cl tys A cc nL ret Ts own) {B : Nat → Prop} (hH : Hp D cl B A s.heap H locs w) (q0 t0 : Nat) {a : Nat} {cA : ClassId} {n : Nat} {f : Nat → Int32} (ha : w[q0]? = some (a, .inl (cA, n, .inl f))) (ht : tys[t0]? = some (cA, .int)) {i : Int32} (hin : vp_in i n) (hdg : decode cc pc = .ok (.iaload, 1))
    (kk : W p l e R s m args below meth c H locs cells slots Q (F0 m (pc + 1) ls (.int (f i.toNatClampNeg) :: rest))) : W p l e R s m args below meth c H locs cells slots Q (F0 m pc ls (.int i :: .ref a :: rest)) :=
  va_iald (D := D) C.1 C.2.1 C.2.2.2.2.2.2.2.1.1 hH.1 q0 t0 ha ht hin hdg kk
theorem all_ (C : Cx p s m args meth c D cl tys A cc nL ret Ts own) {B : Nat → Prop} (hH : Hp D cl B A s.heap H locs w) (q0 t0 : Nat) {a : Nat} {cA : ClassId} {n : Nat} {f : Nat → Int64} (ha : w[q0]? = some (a, .inl (cA, n, .inr (.inl f)))) (ht : tys[t0]? = some (cA, .long)) {i : Int32} (hin : vp_in i n) (hdg : decode cc pc = .ok (.laload, 1))
    (kk : W p l e R s m args below meth c H locs cells slots Q (F0 m (pc + 1) ls (.long (f i.toNatClampNeg) :: rest))) : W p l e R s m args below meth c H locs cells slots Q (F0 m pc ls (.int i :: .ref a :: rest)) :=
  va_lald (D := D) C.1 C.2.1 C.2.2.2.2.2.2.2.1.1 hH.1 q0 t0 ha ht hin hdg kk
theorem asi (C : Cx p s m args meth c D cl tys A cc nL ret Ts own) (hH : Hp D cl A A s.heap H locs w) (q0 t0 : Nat) {a : Nat} {cA : ClassId} {n : Nat} {f : Nat → Int32} (ha : w[q0]? = some (a, .inl (cA, n, .inl f))) (ht : tys[t0]? = some (cA, .int)) {i x : Int32} (hin : vp_in i n) (hdg : decode cc pc = .ok (.iastore, 1)) (w2 : va_W) (hw2 : w.set q0 (a, .inl (cA, n, .inl (upd f i.toNatClampNeg x))) = w2)
    (kk : ∀ (H1 : Heap) (locs1 : List Loc), Hp D cl A A s.heap H1 locs1 w2 → W p l e R s m args below meth c H1 locs1 cells slots Q (F0 m (pc + 1) ls rest)) : W p l e R s m args below meth c H locs cells slots Q (F0 m pc ls (.int x :: .int i :: .ref a :: rest)) := by
  subst hw2
  exact va_iast (D := D) C.1 C.2.1 C.2.2.2.2.2.2.2.1.1 hH.1 hH.2.1 hH.2.2 q0 t0 ha ht hin hdg (fun H1 locs1 a1 a2 a3 => kk H1 locs1 ⟨a1, a2, a3⟩)
theorem asl (C : Cx p s m args meth c D cl tys A cc nL ret Ts own) (hH : Hp D cl A A s.heap H locs w) (q0 t0 : Nat) {a : Nat} {cA : ClassId} {n : Nat} {f : Nat → Int64} (ha : w[q0]? = some (a, .inl (cA, n, .inr (.inl f)))) (ht : tys[t0]? = some (cA, .long)) {i : Int32} {x : Int64} (hin : vp_in i n) (hdg : decode cc pc = .ok (.lastore, 1)) (w2 : va_W) (hw2 : w.set q0 (a, .inl (cA, n, .inr (.inl (vp_updL f i.toNatClampNeg x)))) = w2)
    (kk : ∀ (H1 : Heap) (locs1 : List Loc), Hp D cl A A s.heap H1 locs1 w2 → W p l e R s m args below meth c H1 locs1 cells slots Q (F0 m (pc + 1) ls rest)) : W p l e R s m args below meth c H locs cells slots Q (F0 m pc ls (.long x :: .int i :: .ref a :: rest)) := by
  subst hw2
  exact va_last (D := D) C.1 C.2.1 C.2.2.2.2.2.2.2.1.1 hH.1 hH.2.1 hH.2.2 q0 t0 ha ht hin hdg (fun H1 locs1 a1 a2 a3 => kk H1 locs1 ⟨a1, a2, a3⟩)
/-- behind a call: what the callee gave beside the rest, in the order that is asked for -/
theorem callIt {wc wr w1 w2 : va_W} {o : Option Value} {a : Array Value} {mc ms : Nat} {st0 st2 : List Value}
    (C : Cx p s m args meth c D cl tys A cc nL ret Ts own) (hH : Hp D cl A A s.heap H locs w) (isC isR isP : List Nat) (hC : isC.map (fun i => w[i]?) = wc.map some) (hR : isR.map (fun i => w[i]?) = wr.map some) (hn : va_nd isR = true) (hdis : ∀ i ∈ isR, i ∉ isC) (hPm : isP.map (fun i => (wr ++ w1)[i]?) = w2.map some) (hPn : va_nd isP = true)
    (hr : va_Run p l e R s m args below meth c H locs cells slots mc ms (F0 m pc ls st0) rest (Qw D cl tys o (va_A wc H.size) w1 a) (va_A wc H.size)) (hst2 : o.toList ++ rest = st2)
    (kk : ∀ (H1 : Heap) (locs1 : List Loc), Hp D cl A A s.heap H1 locs1 w2 → W p l e R s m args below meth c H1 locs1 (cells + mc) (slots + ms) Q (F0 m (pc + 3) ls st2)) : W p l e R s m args below meth c H locs cells slots Q (F0 m pc ls st0) := by
  subst hst2
  obtain ⟨hP, hD, hS⟩ := hH
  have hFc := va_free (wc := wc) hD hS C.2.2.2.2.2.2.2.2 isC hC
  intro T hT X
  obtain ⟨v, st₀, t, T', L, h0, X', hL, e1, e2, ⟨⟨hv, hP1, hD1⟩, hz, hk⟩, st⟩ := hr T hT X
  cases hv
  rw [h0] at hz hk
  rw [← e1] at hP1 hz hk
  obtain ⟨hPj, hDj⟩ := va_join (wr := wr) (w1 := w1) hP hD isC isR hC hR hn hdis hk hFc hP1 hD1
  have hS1 : va_S A s.heap T'.heap (locs ++ L) := ⟨Nat.le_trans hS.1 hz, fun q h1 h2 => by rw [hk q (Nat.lt_of_lt_of_le h1 hS.1) (fun z => h2 (hFc q z))]; exact hS.2.1 q h1 h2, fun q hq => by
      rcases List.mem_append.mp hq with h | h
      · exact hS.2.2 q h
      · exact hFc _ (hL q h)⟩
  obtain ⟨t2, a1, b1⟩ := kk T'.heap (locs ++ L) ⟨hPj.sub isP (va_pm hPm), hDj.sub isP hPn hPm, hS1⟩ T' rfl X'
  exact ⟨t2, st t2 a1, b1⟩
theorem fnV {wc wr w1 w2 : va_W} {o : Option Value} {st0 st2 : List Value} {y : MethodName} {bytes : ByteArray} {maxL n index : Nat} {ws : List Cond} {rm : Room} {As : List Value} {ret2 : Option FieldType} {Cn : String} {b : Nat} (C : Cx p s m args meth c D cl tys A cc nL ret Ts own) (hF : Fn l D cl tys y ws rm (.ref b :: As) wc o w1) (cw : CallW R s args own Cn index y bytes maxL ret2 ws rm rm.cells rm.slots n) (hH : Hp D cl A A s.heap H locs w) (isC isR isP : List Nat) (hC : isC.map (fun i => w[i]?) = wc.map some) (hnC : va_nd isC = true) (hR : isR.map (fun i => w[i]?) = wr.map some) (hn : va_nd isR = true) (hdis : ∀ i ∈ isR, i ∉ isC) (hPm : isP.map (fun i => (wr ++ w1)[i]?) = w2.map some) (hPn : va_nd isP = true)
    (q0 : Nat) {ci N : Nat} {T : u_T} {fs : List Value} (he : wc[q0]? = some (b, .inr (ci, fs))) (hc : cl[ci]? = some (Cn, T, N)) (hnA : As.length = n) (hl : ls.size = nL) (hst : st0 = As.reverse ++ .ref b :: rest) (hrm : (rest.map fun v => v.category).sum ≤ 8) (hdg : decode cc pc = .ok (.invokevirtual index, 3)) (hf : cells + rm.cells ≤ R.cells ∧ slots + rm.slots ≤ R.slots) (hst2 : o.toList ++ rest = st2)
    (kk : ∀ (H1 : Heap) (locs1 : List Loc), Hp D cl A A s.heap H1 locs1 w2 → W p l e R s m args below meth c H1 locs1 (cells + rm.cells) (slots + rm.slots) Q (F0 m (pc + 3) ls st2)) : W p l e R s m args below meth c H locs cells slots Q (F0 m pc ls st0) := by
  obtain ⟨hP, hD, hS⟩ := id hH
  have hPc := hP.sub isC (va_pm hC)
  have hDc := hD.sub isC hnC hC
  have hK := C.2.2.2.2.2.2.2.1
  exact callIt C hH isC isR isP hC hR hn hdis hPm hPn (va_runV ⟨C.1, C.2.1, C.2.2.2.1, C.2.2.2.2.1, C.2.2.2.2.2.1⟩ (hF H.size) cw ⟨Pw_blind, va_recv hK.1 hPc hc he, fun U hU hW => ⟨rfl, by rw [hU], by rw [hU]; exact hPc, Kx.warm hW hK, hDc.weaken (fun _ _ _ _ => trivial)⟩⟩ rfl hnA hl hst (lv_room hrm) hdg hf) hst2 kk
theorem fnS {wc wr w1 w2 : va_W} {o : Option Value} {st0 st2 : List Value} {y : MethodName} {bytes : ByteArray} {maxL n index : Nat} {ws : List Cond} {rm : Room} {As : List Value} {ret2 : Option FieldType} (C : Cx p s m args meth c D cl tys A cc nL ret Ts own) (hF : Fn l D cl tys y ws rm As wc o w1) (cw : CallB R s args own index y bytes maxL ret2 ws rm rm.cells rm.slots n ∧ (Cond.static y).before args s = true) (hH : Hp D cl A A s.heap H locs w) (isC isR isP : List Nat) (hC : isC.map (fun i => w[i]?) = wc.map some) (hnC : va_nd isC = true) (hR : isR.map (fun i => w[i]?) = wr.map some) (hn : va_nd isR = true) (hdis : ∀ i ∈ isR, i ∉ isC) (hPm : isP.map (fun i => (wr ++ w1)[i]?) = w2.map some) (hPn : va_nd isP = true)
    (hnA : As.length = n) (hl : ls.size = nL) (hst : st0 = As.reverse ++ rest) (hrm : (rest.map fun v => v.category).sum ≤ 8) (hdg : decode cc pc = .ok (.invokestatic index, 3)) (hf : cells + rm.cells ≤ R.cells ∧ slots + rm.slots ≤ R.slots) (hst2 : o.toList ++ rest = st2)
    (kk : ∀ (H1 : Heap) (locs1 : List Loc), Hp D cl A A s.heap H1 locs1 w2 → W p l e R s m args below meth c H1 locs1 (cells + rm.cells) (slots + rm.slots) Q (F0 m (pc + 3) ls st2)) : W p l e R s m args below meth c H locs cells slots Q (F0 m pc ls st0) := by
  obtain ⟨hP, hD, hS⟩ := id hH
  have hPc := hP.sub isC (va_pm hC)
  have hDc := hD.sub isC hnC hC
  have hK := C.2.2.2.2.2.2.2.1
  exact callIt C hH isC isR isP hC hR hn hdis hPm hPn (va_runS ⟨C.1, C.2.1, C.2.2.2.1, C.2.2.2.2.1, C.2.2.2.2.2.1⟩ (hF H.size) cw ⟨Pw_blind, fun U hU hW => ⟨rfl, by rw [hU], by rw [hU]; exact hPc, Kx.warm hW hK, hDc.weaken (fun _ _ _ _ => trivial)⟩⟩ rfl hnA hl hst (lv_room hrm) hdg hf) hst2 kk
theorem fnI {wc wr w1 w2 : va_W} {o : Option Value} {st0 st2 : List Value} {y : MethodName} {bytes : ByteArray} {maxL n index : Nat} {ws : List Cond} {rm : Room} {As : List Value} {b : Nat} (C : Cx p s m args meth c D cl tys A cc nL ret Ts own) (hF : Fn l D cl tys y ws rm (.ref b :: As) wc o w1) (cw : CallB R s args own index y bytes maxL none ws rm rm.cells rm.slots n ∧ y.name = "<init>" ∧ (Cond.instanceMethod y).before args s = true) (hH : Hp D cl A A s.heap H locs w) (isC isR isP : List Nat) (hC : isC.map (fun i => w[i]?) = wc.map some) (hnC : va_nd isC = true) (hR : isR.map (fun i => w[i]?) = wr.map some) (hn : va_nd isR = true) (hdis : ∀ i ∈ isR, i ∉ isC) (hPm : isP.map (fun i => (wr ++ w1)[i]?) = w2.map some) (hPn : va_nd isP = true)
    (hnA : As.length = n) (hl : ls.size = nL) (hst : st0 = As.reverse ++ .ref b :: rest) (hrm : (rest.map fun v => v.category).sum ≤ 8) (hdg : decode cc pc = .ok (.invokespecial index, 3)) (hf : cells + rm.cells ≤ R.cells ∧ slots + rm.slots ≤ R.slots) (hst2 : o.toList ++ rest = st2)
    (kk : ∀ (H1 : Heap) (locs1 : List Loc), Hp D cl A A s.heap H1 locs1 w2 → W p l e R s m args below meth c H1 locs1 (cells + rm.cells) (slots + rm.slots) Q (F0 m (pc + 3) ls st2)) : W p l e R s m args below meth c H locs cells slots Q (F0 m pc ls st0) := by
  obtain ⟨hP, hD, hS⟩ := id hH
  have hPc := hP.sub isC (va_pm hC)
  have hDc := hD.sub isC hnC hC
  have hK := C.2.2.2.2.2.2.2.1
  exact callIt C hH isC isR isP hC hR hn hdis hPm hPn (va_runI ⟨C.1, C.2.1, C.2.2.2.1, C.2.2.2.2.1, C.2.2.2.2.2.1⟩ (hF H.size) cw ⟨Pw_blind, fun U hU hW => ⟨rfl, by rw [hU], by rw [hU]; exact hPc, Kx.warm hW hK, hDc.weaken (fun _ _ _ _ => trivial)⟩⟩ rfl hnA hl hst (lv_room hrm) hdg hf) hst2 kk
theorem fnVN {wc wr w1 w2 : va_W} {o : Option Value} {st0 st2 : List Value} {y : MethodName} {bytes : ByteArray} {maxL n index : Nat} {ws : List Cond} {rm : Room} {As : List Value} {ret2 : Option FieldType} {Cn host : String} {b : Nat} (C : Cx p s m args meth c D cl tys A cc nL ret Ts own) (hF : Fn l D cl tys y ws rm (.ref b :: As) wc o w1) (cw : va_CN R s args own index y host bytes maxL ret2 ws rm rm.cells rm.slots n ∧ (Cond.instanceMethod y).before args s = true ∧ (Cond.selects Cn y y).before args s = true) (hH : Hp D cl A A s.heap H locs w) (isC isR isP : List Nat) (hC : isC.map (fun i => w[i]?) = wc.map some) (hnC : va_nd isC = true) (hR : isR.map (fun i => w[i]?) = wr.map some) (hn : va_nd isR = true) (hdis : ∀ i ∈ isR, i ∉ isC) (hPm : isP.map (fun i => (wr ++ w1)[i]?) = w2.map some) (hPn : va_nd isP = true)
    (q0 : Nat) {ci N : Nat} {T : u_T} {fs : List Value} (he : wc[q0]? = some (b, .inr (ci, fs))) (hc : cl[ci]? = some (Cn, T, N)) (hnA : As.length = n) (hl : ls.size = nL) (hst : st0 = As.reverse ++ .ref b :: rest) (hrm : (rest.map fun v => v.category).sum ≤ 8) (hdg : decode cc pc = .ok (.invokevirtual index, 3)) (hf : cells + rm.cells ≤ R.cells ∧ slots + rm.slots ≤ R.slots) (hst2 : o.toList ++ rest = st2)
    (kk : ∀ (H1 : Heap) (locs1 : List Loc), Hp D cl A A s.heap H1 locs1 w2 → W p l e R s m args below meth c H1 locs1 (cells + rm.cells) (slots + rm.slots) Q (F0 m (pc + 3) ls st2)) : W p l e R s m args below meth c H locs cells slots Q (F0 m pc ls st0) := by
  obtain ⟨hP, hD, hS⟩ := id hH
  have hPc := hP.sub isC (va_pm hC)
  have hDc := hD.sub isC hnC hC
  have hK := C.2.2.2.2.2.2.2.1
  exact callIt C hH isC isR isP hC hR hn hdis hPm hPn (va_runVN ⟨C.1, C.2.1, C.2.2.2.1, C.2.2.2.2.1, C.2.2.2.2.2.1⟩ (hF H.size) cw ⟨Pw_blind, va_recv hK.1 hPc hc he, fun U hU hW => ⟨rfl, by rw [hU], by rw [hU]; exact hPc, Kx.warm hW hK, hDc.weaken (fun _ _ _ _ => trivial)⟩⟩ rfl hnA hl hst (lv_room hrm) hdg hf) hst2 kk
theorem fnSN {wc wr w1 w2 : va_W} {o : Option Value} {st0 st2 : List Value} {y : MethodName} {bytes : ByteArray} {maxL n index : Nat} {ws : List Cond} {rm : Room} {As : List Value} {ret2 : Option FieldType} {host : String} (C : Cx p s m args meth c D cl tys A cc nL ret Ts own) (hF : Fn l D cl tys y ws rm As wc o w1) (cw : va_CN R s args own index y host bytes maxL ret2 ws rm rm.cells rm.slots n ∧ (Cond.static y).before args s = true ∧ True) (hH : Hp D cl A A s.heap H locs w) (isC isR isP : List Nat) (hC : isC.map (fun i => w[i]?) = wc.map some) (hnC : va_nd isC = true) (hR : isR.map (fun i => w[i]?) = wr.map some) (hn : va_nd isR = true) (hdis : ∀ i ∈ isR, i ∉ isC) (hPm : isP.map (fun i => (wr ++ w1)[i]?) = w2.map some) (hPn : va_nd isP = true)
    (hnA : As.length = n) (hl : ls.size = nL) (hst : st0 = As.reverse ++ rest) (hrm : (rest.map fun v => v.category).sum ≤ 8) (hdg : decode cc pc = .ok (.invokestatic index, 3)) (hf : cells + rm.cells ≤ R.cells ∧ slots + rm.slots ≤ R.slots) (hst2 : o.toList ++ rest = st2)
    (kk : ∀ (H1 : Heap) (locs1 : List Loc), Hp D cl A A s.heap H1 locs1 w2 → W p l e R s m args below meth c H1 locs1 (cells + rm.cells) (slots + rm.slots) Q (F0 m (pc + 3) ls st2)) : W p l e R s m args below meth c H locs cells slots Q (F0 m pc ls st0) := by
  obtain ⟨hP, hD, hS⟩ := id hH
  have hPc := hP.sub isC (va_pm hC)
  have hDc := hD.sub isC hnC hC
  have hK := C.2.2.2.2.2.2.2.1
  exact callIt C hH isC isR isP hC hR hn hdis hPm hPn (va_runSN ⟨C.1, C.2.1, C.2.2.2.1, C.2.2.2.2.1, C.2.2.2.2.2.1⟩ (hF H.size) cw ⟨Pw_blind, fun U hU hW => ⟨rfl, by rw [hU], by rw [hU]; exact hPc, Kx.warm hW hK, hDc.weaken (fun _ _ _ _ => trivial)⟩⟩ rfl hnA hl hst (lv_room hrm) hdg hf) hst2 kk
theorem fnIN {wc wr w1 w2 : va_W} {o : Option Value} {st0 st2 : List Value} {y : MethodName} {bytes : ByteArray} {maxL n index : Nat} {ws : List Cond} {rm : Room} {As : List Value} {host : String} {b : Nat} (C : Cx p s m args meth c D cl tys A cc nL ret Ts own) (hF : Fn l D cl tys y ws rm (.ref b :: As) wc o w1) (cw : va_CN R s args own index y host bytes maxL none ws rm rm.cells rm.slots n ∧ y.name = "<init>" ∧ (Cond.instanceMethod y).before args s = true) (hH : Hp D cl A A s.heap H locs w) (isC isR isP : List Nat) (hC : isC.map (fun i => w[i]?) = wc.map some) (hnC : va_nd isC = true) (hR : isR.map (fun i => w[i]?) = wr.map some) (hn : va_nd isR = true) (hdis : ∀ i ∈ isR, i ∉ isC) (hPm : isP.map (fun i => (wr ++ w1)[i]?) = w2.map some) (hPn : va_nd isP = true)
    (hnA : As.length = n) (hl : ls.size = nL) (hst : st0 = As.reverse ++ .ref b :: rest) (hrm : (rest.map fun v => v.category).sum ≤ 8) (hdg : decode cc pc = .ok (.invokespecial index, 3)) (hf : cells + rm.cells ≤ R.cells ∧ slots + rm.slots ≤ R.slots) (hst2 : o.toList ++ rest = st2)
    (kk : ∀ (H1 : Heap) (locs1 : List Loc), Hp D cl A A s.heap H1 locs1 w2 → W p l e R s m args below meth c H1 locs1 (cells + rm.cells) (slots + rm.slots) Q (F0 m (pc + 3) ls st2)) : W p l e R s m args below meth c H locs cells slots Q (F0 m pc ls st0) := by
  obtain ⟨hP, hD, hS⟩ := id hH
  have hPc := hP.sub isC (va_pm hC)
  have hDc := hD.sub isC hnC hC
  have hK := C.2.2.2.2.2.2.2.1
  exact callIt C hH isC isR isP hC hR hn hdis hPm hPn (va_runIN ⟨C.1, C.2.1, C.2.2.2.1, C.2.2.2.2.1, C.2.2.2.2.2.1⟩ (hF H.size) cw ⟨Pw_blind, fun U hU hW => ⟨rfl, by rw [hU], by rw [hU]; exact hPc, Kx.warm hW hK, hDc.weaken (fun _ _ _ _ => trivial)⟩⟩ rfl hnA hl hst (lv_room hrm) hdg hf) hst2 kk
theorem rI {v : Int32} (C : Cx p s m args meth c D cl tys A cc nL (some .int) Ts own) (hH : Hp D cl A A s.heap H locs w) (hdg : decode cc pc = .ok (.ireturn, 1)) : W p l e R s m args below meth c H locs cells slots (MQ below (Qw D cl tys (some (.int v)) A w) args s cells slots A) (F0 m pc ls [.int v]) :=
  W.iret C.1 C.2.1 C.2.2.1 (fun t ht hW => ⟨⟨rfl, by rw [ht]; exact hH.1, hH.2.1⟩, hH.2.2.F ht⟩) hH.2.2.2.2 hdg C.2.2.2.2.2.2.1
theorem rJ {v : Int64} (C : Cx p s m args meth c D cl tys A cc nL (some .long) Ts own) (hH : Hp D cl A A s.heap H locs w) (hdg : decode cc pc = .ok (.lreturn, 1)) : W p l e R s m args below meth c H locs cells slots (MQ below (Qw D cl tys (some (.long v)) A w) args s cells slots A) (F0 m pc ls [.long v]) :=
  W.lret C.1 C.2.1 C.2.2.1 (fun t ht hW => ⟨⟨rfl, by rw [ht]; exact hH.1, hH.2.1⟩, hH.2.2.F ht⟩) hH.2.2.2.2 hdg C.2.2.2.2.2.2.1
theorem rZ {v : Bool} (C : Cx p s m args meth c D cl tys A cc nL (some .boolean) Ts own) (hH : Hp D cl A A s.heap H locs w) (hdg : decode cc pc = .ok (.ireturn, 1)) : W p l e R s m args below meth c H locs cells slots (MQ below (Qw D cl tys (some (.int (bI v))) A w) args s cells slots A) (F0 m pc ls [.int (bI v)]) :=
  W.zret C.1 C.2.1 C.2.2.1 (bI_n v) (fun t ht hW => ⟨⟨rfl, by rw [ht]; exact hH.1, hH.2.1⟩, hH.2.2.F ht⟩) hH.2.2.2.2 hdg C.2.2.2.2.2.2.1
theorem rV (C : Cx p s m args meth c D cl tys A cc nL none Ts own) (hH : Hp D cl A A s.heap H locs w) (hdg : decode cc pc = .ok (.return_, 1)) : W p l e R s m args below meth c H locs cells slots (MQ below (Qw D cl tys none A w) args s cells slots A) (F0 m pc ls []) :=
  W.vret C.1 C.2.1 C.2.2.1 (fun t ht hW => ⟨⟨rfl, by rw [ht]; exact hH.1, hH.2.1⟩, hH.2.2.F ht⟩) hH.2.2.2.2 hdg C.2.2.2.2.2.2.1
theorem callItR {o : Option Value} {a : Array Value} {mc ms : Nat} {st0 st2 : List Value} {B : Nat → Prop}
    (C : Cx p s m args meth c D cl tys A cc nL ret Ts own) (hH : Hp D cl B A s.heap H locs w)
    (hr : va_Run p l e R s m args below meth c H locs cells slots mc ms (F0 m pc ls st0) rest (QR o (fun q => H.size ≤ q) a) (fun q => H.size ≤ q)) (hst2 : o.toList ++ rest = st2)
    (kk : ∀ (H1 : Heap) (locs1 : List Loc), Hp D cl B A s.heap H1 locs1 w → W p l e R s m args below meth c H1 locs1 (cells + mc) (slots + ms) Q (F0 m (pc + 3) ls st2)) : W p l e R s m args below meth c H locs cells slots Q (F0 m pc ls st0) := by
  subst hst2
  obtain ⟨hP, hD, hS⟩ := hH
  have hA := C.2.2.2.2.2.2.2.2
  intro T hT X
  obtain ⟨v, st₀, t, T', L, h0, X', hL, e1, e2, ⟨hv, hz, hk⟩, st⟩ := hr T hT X
  cases hv
  rw [h0] at hz hk
  rw [← e1] at hz hk
  have hk' : ∀ q : Nat, q < H.size → T'.heap[q]? = H[q]? := fun q h => hk q h (fun z => absurd h (Nat.not_lt.mpr z))
  have hS1 : va_S A s.heap T'.heap (locs ++ L) := ⟨Nat.le_trans hS.1 hz, fun q h1 h2 => by rw [hk' q (Nat.lt_of_lt_of_le h1 hS.1)]; exact hS.2.1 q h1 h2, fun q hq => by
      rcases List.mem_append.mp hq with h | h
      · exact hS.2.2 q h
      · exact hA _ (Nat.le_trans hS.1 (hL q h))⟩
  obtain ⟨t2, a1, b1⟩ := kk T'.heap (locs ++ L) ⟨hP.kept (fun k x hx => hk' x.1 ((hP k x hx).lt)), hD, hS1⟩ T' rfl X'
  exact ⟨t2, st t2 a1, b1⟩
theorem fnVR {wc : va_W} {o : Option Value} {st0 st2 : List Value} {y : MethodName} {bytes : ByteArray} {maxL n index : Nat} {ws : List Cond} {rm : Room} {As : List Value} {ret2 : Option FieldType} {Cn : String} {b : Nat} (C : Cx p s m args meth c D cl tys A cc nL ret Ts own) (hF : FnR l D cl tys y ws rm (.ref b :: As) wc o) (cw : CallW R s args own Cn index y bytes maxL ret2 ws rm rm.cells rm.slots n) {B : Nat → Prop} (hH : Hp D cl B A s.heap H locs w) (isC : List Nat) (hC : isC.map (fun i => w[i]?) = wc.map some) (hnC : va_nd isC = true)
    (q0 : Nat) {ci N : Nat} {T : u_T} {fs : List Value} (he : wc[q0]? = some (b, .inr (ci, fs))) (hc : cl[ci]? = some (Cn, T, N)) (hnA : As.length = n) (hl : ls.size = nL) (hst : st0 = As.reverse ++ .ref b :: rest) (hrm : (rest.map fun v => v.category).sum ≤ 8) (hdg : decode cc pc = .ok (.invokevirtual index, 3)) (hf : cells + rm.cells ≤ R.cells ∧ slots + rm.slots ≤ R.slots) (hst2 : o.toList ++ rest = st2)
    (kk : ∀ (H1 : Heap) (locs1 : List Loc), Hp D cl B A s.heap H1 locs1 w → W p l e R s m args below meth c H1 locs1 (cells + rm.cells) (slots + rm.slots) Q (F0 m (pc + 3) ls st2)) : W p l e R s m args below meth c H locs cells slots Q (F0 m pc ls st0) := by
  obtain ⟨hP, hD, hS⟩ := id hH
  have hPc := hP.sub isC (va_pm hC)
  have hDc := hD.sub isC hnC hC
  have hK := C.2.2.2.2.2.2.2.1
  exact callItR C hH (va_runV ⟨C.1, C.2.1, C.2.2.2.1, C.2.2.2.2.1, C.2.2.2.2.2.1⟩ (hF H.size) cw ⟨Pw_blind, va_recv hK.1 hPc hc he, fun U hU hW => ⟨rfl, by rw [hU], by rw [hU]; exact hPc, Kx.warm hW hK, hDc.weaken (fun _ _ _ _ => trivial)⟩⟩ rfl hnA hl hst (lv_room hrm) hdg hf) hst2 kk
theorem fnSR {wc : va_W} {o : Option Value} {st0 st2 : List Value} {y : MethodName} {bytes : ByteArray} {maxL n index : Nat} {ws : List Cond} {rm : Room} {As : List Value} {ret2 : Option FieldType} (C : Cx p s m args meth c D cl tys A cc nL ret Ts own) (hF : FnR l D cl tys y ws rm As wc o) (cw : CallB R s args own index y bytes maxL ret2 ws rm rm.cells rm.slots n ∧ (Cond.static y).before args s = true) {B : Nat → Prop} (hH : Hp D cl B A s.heap H locs w) (isC : List Nat) (hC : isC.map (fun i => w[i]?) = wc.map some) (hnC : va_nd isC = true)
    (hnA : As.length = n) (hl : ls.size = nL) (hst : st0 = As.reverse ++ rest) (hrm : (rest.map fun v => v.category).sum ≤ 8) (hdg : decode cc pc = .ok (.invokestatic index, 3)) (hf : cells + rm.cells ≤ R.cells ∧ slots + rm.slots ≤ R.slots) (hst2 : o.toList ++ rest = st2)
    (kk : ∀ (H1 : Heap) (locs1 : List Loc), Hp D cl B A s.heap H1 locs1 w → W p l e R s m args below meth c H1 locs1 (cells + rm.cells) (slots + rm.slots) Q (F0 m (pc + 3) ls st2)) : W p l e R s m args below meth c H locs cells slots Q (F0 m pc ls st0) := by
  obtain ⟨hP, hD, hS⟩ := id hH
  have hPc := hP.sub isC (va_pm hC)
  have hDc := hD.sub isC hnC hC
  have hK := C.2.2.2.2.2.2.2.1
  exact callItR C hH (va_runS ⟨C.1, C.2.1, C.2.2.2.1, C.2.2.2.2.1, C.2.2.2.2.2.1⟩ (hF H.size) cw ⟨Pw_blind, fun U hU hW => ⟨rfl, by rw [hU], by rw [hU]; exact hPc, Kx.warm hW hK, hDc.weaken (fun _ _ _ _ => trivial)⟩⟩ rfl hnA hl hst (lv_room hrm) hdg hf) hst2 kk
theorem fnVNR {wc : va_W} {o : Option Value} {st0 st2 : List Value} {y : MethodName} {bytes : ByteArray} {maxL n index : Nat} {ws : List Cond} {rm : Room} {As : List Value} {ret2 : Option FieldType} {Cn host : String} {b : Nat} (C : Cx p s m args meth c D cl tys A cc nL ret Ts own) (hF : FnR l D cl tys y ws rm (.ref b :: As) wc o) (cw : va_CN R s args own index y host bytes maxL ret2 ws rm rm.cells rm.slots n ∧ (Cond.instanceMethod y).before args s = true ∧ (Cond.selects Cn y y).before args s = true) {B : Nat → Prop} (hH : Hp D cl B A s.heap H locs w) (isC : List Nat) (hC : isC.map (fun i => w[i]?) = wc.map some) (hnC : va_nd isC = true)
    (q0 : Nat) {ci N : Nat} {T : u_T} {fs : List Value} (he : wc[q0]? = some (b, .inr (ci, fs))) (hc : cl[ci]? = some (Cn, T, N)) (hnA : As.length = n) (hl : ls.size = nL) (hst : st0 = As.reverse ++ .ref b :: rest) (hrm : (rest.map fun v => v.category).sum ≤ 8) (hdg : decode cc pc = .ok (.invokevirtual index, 3)) (hf : cells + rm.cells ≤ R.cells ∧ slots + rm.slots ≤ R.slots) (hst2 : o.toList ++ rest = st2)
    (kk : ∀ (H1 : Heap) (locs1 : List Loc), Hp D cl B A s.heap H1 locs1 w → W p l e R s m args below meth c H1 locs1 (cells + rm.cells) (slots + rm.slots) Q (F0 m (pc + 3) ls st2)) : W p l e R s m args below meth c H locs cells slots Q (F0 m pc ls st0) := by
  obtain ⟨hP, hD, hS⟩ := id hH
  have hPc := hP.sub isC (va_pm hC)
  have hDc := hD.sub isC hnC hC
  have hK := C.2.2.2.2.2.2.2.1
  exact callItR C hH (va_runVN ⟨C.1, C.2.1, C.2.2.2.1, C.2.2.2.2.1, C.2.2.2.2.2.1⟩ (hF H.size) cw ⟨Pw_blind, va_recv hK.1 hPc hc he, fun U hU hW => ⟨rfl, by rw [hU], by rw [hU]; exact hPc, Kx.warm hW hK, hDc.weaken (fun _ _ _ _ => trivial)⟩⟩ rfl hnA hl hst (lv_room hrm) hdg hf) hst2 kk
theorem fnSNR {wc : va_W} {o : Option Value} {st0 st2 : List Value} {y : MethodName} {bytes : ByteArray} {maxL n index : Nat} {ws : List Cond} {rm : Room} {As : List Value} {ret2 : Option FieldType} {host : String} (C : Cx p s m args meth c D cl tys A cc nL ret Ts own) (hF : FnR l D cl tys y ws rm As wc o) (cw : va_CN R s args own index y host bytes maxL ret2 ws rm rm.cells rm.slots n ∧ (Cond.static y).before args s = true ∧ True) {B : Nat → Prop} (hH : Hp D cl B A s.heap H locs w) (isC : List Nat) (hC : isC.map (fun i => w[i]?) = wc.map some) (hnC : va_nd isC = true)
    (hnA : As.length = n) (hl : ls.size = nL) (hst : st0 = As.reverse ++ rest) (hrm : (rest.map fun v => v.category).sum ≤ 8) (hdg : decode cc pc = .ok (.invokestatic index, 3)) (hf : cells + rm.cells ≤ R.cells ∧ slots + rm.slots ≤ R.slots) (hst2 : o.toList ++ rest = st2)
    (kk : ∀ (H1 : Heap) (locs1 : List Loc), Hp D cl B A s.heap H1 locs1 w → W p l e R s m args below meth c H1 locs1 (cells + rm.cells) (slots + rm.slots) Q (F0 m (pc + 3) ls st2)) : W p l e R s m args below meth c H locs cells slots Q (F0 m pc ls st0) := by
  obtain ⟨hP, hD, hS⟩ := id hH
  have hPc := hP.sub isC (va_pm hC)
  have hDc := hD.sub isC hnC hC
  have hK := C.2.2.2.2.2.2.2.1
  exact callItR C hH (va_runSN ⟨C.1, C.2.1, C.2.2.2.1, C.2.2.2.2.1, C.2.2.2.2.2.1⟩ (hF H.size) cw ⟨Pw_blind, fun U hU hW => ⟨rfl, by rw [hU], by rw [hU]; exact hPc, Kx.warm hW hK, hDc.weaken (fun _ _ _ _ => trivial)⟩⟩ rfl hnA hl hst (lv_room hrm) hdg hf) hst2 kk
theorem rIR {v : Int32} {B : Nat → Prop} (C : Cx p s m args meth c D cl tys A cc nL (some .int) Ts own) (hH : Hp D cl B A s.heap H locs w) (hdg : decode cc pc = .ok (.ireturn, 1)) : W p l e R s m args below meth c H locs cells slots (MQ below (QR (some (.int v)) A) args s cells slots A) (F0 m pc ls [.int v]) :=
  W.iret C.1 C.2.1 C.2.2.1 (fun t ht hW => ⟨rfl, hH.2.2.F ht⟩) hH.2.2.2.2 hdg C.2.2.2.2.2.2.1
theorem rJR {v : Int64} {B : Nat → Prop} (C : Cx p s m args meth c D cl tys A cc nL (some .long) Ts own) (hH : Hp D cl B A s.heap H locs w) (hdg : decode cc pc = .ok (.lreturn, 1)) : W p l e R s m args below meth c H locs cells slots (MQ below (QR (some (.long v)) A) args s cells slots A) (F0 m pc ls [.long v]) :=
  W.lret C.1 C.2.1 C.2.2.1 (fun t ht hW => ⟨rfl, hH.2.2.F ht⟩) hH.2.2.2.2 hdg C.2.2.2.2.2.2.1
theorem rZR {v : Bool} {B : Nat → Prop} (C : Cx p s m args meth c D cl tys A cc nL (some .boolean) Ts own) (hH : Hp D cl B A s.heap H locs w) (hdg : decode cc pc = .ok (.ireturn, 1)) : W p l e R s m args below meth c H locs cells slots (MQ below (QR (some (.int (bI v))) A) args s cells slots A) (F0 m pc ls [.int (bI v)]) :=
  W.zret C.1 C.2.1 C.2.2.1 (bI_n v) (fun t ht hW => ⟨rfl, hH.2.2.F ht⟩) hH.2.2.2.2 hdg C.2.2.2.2.2.2.1
theorem Hp.pm {B : Nat → Prop} {H0 : Heap} {w2 : va_W} (hH : Hp D cl B A H0 H locs w) (isP : List Nat) (hPm : isP.map (fun i => w[i]?) = w2.map some) (hPn : va_nd isP = true) : Hp D cl B A H0 H locs w2 := ⟨hH.1.sub isP (va_pm hPm), hH.2.1.sub isP hPn hPm, hH.2.2⟩
end FNW
