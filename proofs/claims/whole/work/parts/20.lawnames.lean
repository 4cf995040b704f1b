def R_Law : String := "EventLogLaw"
abbrev b_Law_add : ByteArray := method_3_code
def y_Law_add : MethodName := ⟨"EventLogLaw", "add", "(LEventLog;IJJI[J)I"⟩
abbrev ws_Law_add : List Cond := Cond.codeWith y_Law_add b_Law_add 9 (some FieldType.int) [(0, 15, 18, 13), (0, 15, 22, 15)] :: U0
theorem d_Law_add_0 : decode b_Law_add 0 = .ok (.aload 7, 2) := by decide +kernel
theorem d_Law_add_2 : decode b_Law_add 2 = .ok (.iconst 0, 1) := by decide +kernel
theorem d_Law_add_3 : decode b_Law_add 3 = .ok (.aload_n 0, 1) := by decide +kernel
theorem d_Law_add_4 : decode b_Law_add 4 = .ok (.iload_n 1, 1) := by decide +kernel
theorem d_Law_add_5 : decode b_Law_add 5 = .ok (.lload_n 2, 1) := by decide +kernel
theorem d_Law_add_6 : decode b_Law_add 6 = .ok (.lload 4, 2) := by decide +kernel
theorem d_Law_add_8 : decode b_Law_add 8 = .ok (.iload 6, 2) := by decide +kernel
theorem d_Law_add_10 : decode b_Law_add 10 = .ok (.invokevirtual 7, 3) := by decide +kernel
theorem d_Law_add_13 : decode b_Law_add 13 = .ok (.i2l, 1) := by decide +kernel
theorem d_Law_add_14 : decode b_Law_add 14 = .ok (.lastore, 1) := by decide +kernel
theorem d_Law_add_15 : decode b_Law_add 15 = .ok (.goto 11, 3) := by decide +kernel
theorem d_Law_add_18 : decode b_Law_add 18 = .ok (.astore 8, 2) := by decide +kernel
theorem d_Law_add_20 : decode b_Law_add 20 = .ok (.iconst 1, 1) := by decide +kernel
theorem d_Law_add_21 : decode b_Law_add 21 = .ok (.ireturn, 1) := by decide +kernel
theorem d_Law_add_22 : decode b_Law_add 22 = .ok (.astore 8, 2) := by decide +kernel
theorem d_Law_add_24 : decode b_Law_add 24 = .ok (.iconst 2, 1) := by decide +kernel
theorem d_Law_add_25 : decode b_Law_add 25 = .ok (.ireturn, 1) := by decide +kernel
theorem d_Law_add_26 : decode b_Law_add 26 = .ok (.iconst 0, 1) := by decide +kernel
theorem d_Law_add_27 : decode b_Law_add 27 = .ok (.ireturn, 1) := by decide +kernel
abbrev b_Law_drop : ByteArray := method_4_code
def y_Law_drop : MethodName := ⟨"EventLogLaw", "drop", "(LEventLog;I[J)I"⟩
abbrev ws_Law_drop : List Cond := Cond.codeWith y_Law_drop b_Law_drop 4 (some FieldType.int) [(0, 9, 12, 13)] :: U0
theorem d_Law_drop_0 : decode b_Law_drop 0 = .ok (.aload_n 2, 1) := by decide +kernel
theorem d_Law_drop_1 : decode b_Law_drop 1 = .ok (.iconst 0, 1) := by decide +kernel
theorem d_Law_drop_2 : decode b_Law_drop 2 = .ok (.aload_n 0, 1) := by decide +kernel
theorem d_Law_drop_3 : decode b_Law_drop 3 = .ok (.iload_n 1, 1) := by decide +kernel
theorem d_Law_drop_4 : decode b_Law_drop 4 = .ok (.invokevirtual 17, 3) := by decide +kernel
theorem d_Law_drop_7 : decode b_Law_drop 7 = .ok (.i2l, 1) := by decide +kernel
theorem d_Law_drop_8 : decode b_Law_drop 8 = .ok (.lastore, 1) := by decide +kernel
theorem d_Law_drop_9 : decode b_Law_drop 9 = .ok (.goto 6, 3) := by decide +kernel
theorem d_Law_drop_12 : decode b_Law_drop 12 = .ok (.astore_n 3, 1) := by decide +kernel
theorem d_Law_drop_13 : decode b_Law_drop 13 = .ok (.iconst 1, 1) := by decide +kernel
theorem d_Law_drop_14 : decode b_Law_drop 14 = .ok (.ireturn, 1) := by decide +kernel
theorem d_Law_drop_15 : decode b_Law_drop 15 = .ok (.iconst 0, 1) := by decide +kernel
theorem d_Law_drop_16 : decode b_Law_drop 16 = .ok (.ireturn, 1) := by decide +kernel
abbrev b_Law_poke : ByteArray := method_5_code
def y_Law_poke : MethodName := ⟨"EventLogLaw", "poke", "(LEventLog;II)I"⟩
abbrev ws_Law_poke : List Cond := Cond.codeWith y_Law_poke b_Law_poke 4 (some FieldType.int) [(0, 6, 9, 13), (0, 6, 12, 25), (0, 6, 15, 15)] :: U0
theorem d_Law_poke_0 : decode b_Law_poke 0 = .ok (.aload_n 0, 1) := by decide +kernel
theorem d_Law_poke_1 : decode b_Law_poke 1 = .ok (.iload_n 1, 1) := by decide +kernel
theorem d_Law_poke_2 : decode b_Law_poke 2 = .ok (.iload_n 2, 1) := by decide +kernel
theorem d_Law_poke_3 : decode b_Law_poke 3 = .ok (.invokevirtual 21, 3) := by decide +kernel
theorem d_Law_poke_6 : decode b_Law_poke 6 = .ok (.goto 12, 3) := by decide +kernel
theorem d_Law_poke_9 : decode b_Law_poke 9 = .ok (.astore_n 3, 1) := by decide +kernel
theorem d_Law_poke_10 : decode b_Law_poke 10 = .ok (.iconst 1, 1) := by decide +kernel
theorem d_Law_poke_11 : decode b_Law_poke 11 = .ok (.ireturn, 1) := by decide +kernel
theorem d_Law_poke_12 : decode b_Law_poke 12 = .ok (.astore_n 3, 1) := by decide +kernel
theorem d_Law_poke_13 : decode b_Law_poke 13 = .ok (.iconst 2, 1) := by decide +kernel
theorem d_Law_poke_14 : decode b_Law_poke 14 = .ok (.ireturn, 1) := by decide +kernel
theorem d_Law_poke_15 : decode b_Law_poke 15 = .ok (.astore_n 3, 1) := by decide +kernel
theorem d_Law_poke_16 : decode b_Law_poke 16 = .ok (.iconst 3, 1) := by decide +kernel
theorem d_Law_poke_17 : decode b_Law_poke 17 = .ok (.ireturn, 1) := by decide +kernel
theorem d_Law_poke_18 : decode b_Law_poke 18 = .ok (.iconst 0, 1) := by decide +kernel
theorem d_Law_poke_19 : decode b_Law_poke 19 = .ok (.ireturn, 1) := by decide +kernel
abbrev b_Law_cut : ByteArray := method_6_code
def y_Law_cut : MethodName := ⟨"EventLogLaw", "cut", "(LEventLog;I[J)I"⟩
abbrev ws_Law_cut : List Cond := Cond.codeWith y_Law_cut b_Law_cut 4 (some FieldType.int) [(0, 9, 12, 25)] :: U0
theorem d_Law_cut_0 : decode b_Law_cut 0 = .ok (.aload_n 2, 1) := by decide +kernel
theorem d_Law_cut_1 : decode b_Law_cut 1 = .ok (.iconst 0, 1) := by decide +kernel
theorem d_Law_cut_2 : decode b_Law_cut 2 = .ok (.aload_n 0, 1) := by decide +kernel
theorem d_Law_cut_3 : decode b_Law_cut 3 = .ok (.iload_n 1, 1) := by decide +kernel
theorem d_Law_cut_4 : decode b_Law_cut 4 = .ok (.invokevirtual 27, 3) := by decide +kernel
theorem d_Law_cut_7 : decode b_Law_cut 7 = .ok (.i2l, 1) := by decide +kernel
theorem d_Law_cut_8 : decode b_Law_cut 8 = .ok (.lastore, 1) := by decide +kernel
theorem d_Law_cut_9 : decode b_Law_cut 9 = .ok (.goto 6, 3) := by decide +kernel
theorem d_Law_cut_12 : decode b_Law_cut 12 = .ok (.astore_n 3, 1) := by decide +kernel
theorem d_Law_cut_13 : decode b_Law_cut 13 = .ok (.iconst 1, 1) := by decide +kernel
theorem d_Law_cut_14 : decode b_Law_cut 14 = .ok (.ireturn, 1) := by decide +kernel
theorem d_Law_cut_15 : decode b_Law_cut 15 = .ok (.iconst 0, 1) := by decide +kernel
theorem d_Law_cut_16 : decode b_Law_cut 16 = .ok (.ireturn, 1) := by decide +kernel
abbrev b_Law_byteAt : ByteArray := method_7_code
def y_Law_byteAt : MethodName := ⟨"EventLogLaw", "byteAt", "(LEventLog;I[J)I"⟩
abbrev ws_Law_byteAt : List Cond := Cond.codeWith y_Law_byteAt b_Law_byteAt 4 (some FieldType.int) [(0, 9, 12, 25)] :: U0
theorem d_Law_byteAt_0 : decode b_Law_byteAt 0 = .ok (.aload_n 2, 1) := by decide +kernel
theorem d_Law_byteAt_1 : decode b_Law_byteAt 1 = .ok (.iconst 0, 1) := by decide +kernel
theorem d_Law_byteAt_2 : decode b_Law_byteAt 2 = .ok (.aload_n 0, 1) := by decide +kernel
theorem d_Law_byteAt_3 : decode b_Law_byteAt 3 = .ok (.iload_n 1, 1) := by decide +kernel
theorem d_Law_byteAt_4 : decode b_Law_byteAt 4 = .ok (.invokevirtual 30, 3) := by decide +kernel
theorem d_Law_byteAt_7 : decode b_Law_byteAt 7 = .ok (.i2l, 1) := by decide +kernel
theorem d_Law_byteAt_8 : decode b_Law_byteAt 8 = .ok (.lastore, 1) := by decide +kernel
theorem d_Law_byteAt_9 : decode b_Law_byteAt 9 = .ok (.goto 6, 3) := by decide +kernel
theorem d_Law_byteAt_12 : decode b_Law_byteAt 12 = .ok (.astore_n 3, 1) := by decide +kernel
theorem d_Law_byteAt_13 : decode b_Law_byteAt 13 = .ok (.iconst 1, 1) := by decide +kernel
theorem d_Law_byteAt_14 : decode b_Law_byteAt 14 = .ok (.ireturn, 1) := by decide +kernel
theorem d_Law_byteAt_15 : decode b_Law_byteAt 15 = .ok (.iconst 0, 1) := by decide +kernel
theorem d_Law_byteAt_16 : decode b_Law_byteAt 16 = .ok (.ireturn, 1) := by decide +kernel
abbrev b_Law_event : ByteArray := method_8_code
def y_Law_event : MethodName := ⟨"EventLogLaw", "event", "(LEventLog;II[J)I"⟩
abbrev ws_Law_event : List Cond := Cond.codeWith y_Law_event b_Law_event 5 (some FieldType.int) [(0, 9, 12, 37), (0, 9, 16, 13)] :: U0
theorem d_Law_event_0 : decode b_Law_event 0 = .ok (.aload_n 3, 1) := by decide +kernel
theorem d_Law_event_1 : decode b_Law_event 1 = .ok (.iconst 0, 1) := by decide +kernel
theorem d_Law_event_2 : decode b_Law_event 2 = .ok (.aload_n 0, 1) := by decide +kernel
theorem d_Law_event_3 : decode b_Law_event 3 = .ok (.iload_n 1, 1) := by decide +kernel
theorem d_Law_event_4 : decode b_Law_event 4 = .ok (.iload_n 2, 1) := by decide +kernel
theorem d_Law_event_5 : decode b_Law_event 5 = .ok (.invokevirtual 33, 3) := by decide +kernel
theorem d_Law_event_8 : decode b_Law_event 8 = .ok (.lastore, 1) := by decide +kernel
theorem d_Law_event_9 : decode b_Law_event 9 = .ok (.goto 11, 3) := by decide +kernel
theorem d_Law_event_12 : decode b_Law_event 12 = .ok (.astore 4, 2) := by decide +kernel
theorem d_Law_event_14 : decode b_Law_event 14 = .ok (.iconst 1, 1) := by decide +kernel
theorem d_Law_event_15 : decode b_Law_event 15 = .ok (.ireturn, 1) := by decide +kernel
theorem d_Law_event_16 : decode b_Law_event 16 = .ok (.astore 4, 2) := by decide +kernel
theorem d_Law_event_18 : decode b_Law_event 18 = .ok (.iconst 2, 1) := by decide +kernel
theorem d_Law_event_19 : decode b_Law_event 19 = .ok (.ireturn, 1) := by decide +kernel
theorem d_Law_event_20 : decode b_Law_event 20 = .ok (.iconst 0, 1) := by decide +kernel
theorem d_Law_event_21 : decode b_Law_event 21 = .ok (.ireturn, 1) := by decide +kernel
theorem wd_390 : Cond.classLink "EventLogLaw" 13 "java/lang/IllegalArgumentException" ∈ U0 := mU (List.mem_append_right _ (List.mem_of_getElem? (i := 390) (by decide +kernel))) (by decide +kernel)
theorem wd_391 : Cond.classLink "EventLogLaw" 15 "java/lang/IllegalStateException" ∈ U0 := mU (List.mem_append_right _ (List.mem_of_getElem? (i := 391) (by decide +kernel))) (by decide +kernel)
theorem wd_392 : Cond.methodLink "EventLogLaw" 7 ⟨"EventLog", "add", "(IJJI)I"⟩ ∈ U0 := mU (List.mem_append_right _ (List.mem_of_getElem? (i := 392) (by decide +kernel))) (by decide +kernel)
theorem wd_393 : Cond.instanceMethod ⟨"EventLog", "add", "(IJJI)I"⟩ ∈ U0 := mU (List.mem_append_right _ (List.mem_of_getElem? (i := 393) (by decide +kernel))) (by decide +kernel)
theorem wd_394 : Cond.selects "EventLog" ⟨"EventLog", "add", "(IJJI)I"⟩ ⟨"EventLog", "add", "(IJJI)I"⟩ ∈ U0 := mU (List.mem_append_right _ (List.mem_of_getElem? (i := 394) (by decide +kernel))) (by decide +kernel)
theorem wd_395 : Cond.code ⟨"EventLog", "add", "(IJJI)I"⟩ prog_1_method_2_code 7 (some FieldType.int) ∈ U0 := mU (List.mem_append_right _ (List.mem_of_getElem? (i := 395) (by decide +kernel))) (by decide +kernel)
theorem wd_501 : Cond.methodLink "EventLogLaw" 17 ⟨"EventLog", "drop", "(I)I"⟩ ∈ U0 := mU (List.mem_append_right _ (List.mem_of_getElem? (i := 501) (by decide +kernel))) (by decide +kernel)
theorem wd_502 : Cond.instanceMethod ⟨"EventLog", "drop", "(I)I"⟩ ∈ U0 := mU (List.mem_append_right _ (List.mem_of_getElem? (i := 502) (by decide +kernel))) (by decide +kernel)
theorem wd_503 : Cond.selects "EventLog" ⟨"EventLog", "drop", "(I)I"⟩ ⟨"EventLog", "drop", "(I)I"⟩ ∈ U0 := mU (List.mem_append_right _ (List.mem_of_getElem? (i := 503) (by decide +kernel))) (by decide +kernel)
theorem wd_504 : Cond.code ⟨"EventLog", "drop", "(I)I"⟩ prog_1_method_3_code 3 (some FieldType.int) ∈ U0 := mU (List.mem_append_right _ (List.mem_of_getElem? (i := 504) (by decide +kernel))) (by decide +kernel)
theorem wd_510 : Cond.classLink "EventLogLaw" 25 "java/lang/IndexOutOfBoundsException" ∈ U0 := mU (List.mem_append_right _ (List.mem_of_getElem? (i := 510) (by decide +kernel))) (by decide +kernel)
theorem wd_511 : Cond.methodLink "EventLogLaw" 21 ⟨"EventLog", "poke", "(II)V"⟩ ∈ U0 := mU (List.mem_append_right _ (List.mem_of_getElem? (i := 511) (by decide +kernel))) (by decide +kernel)
theorem wd_512 : Cond.instanceMethod ⟨"EventLog", "poke", "(II)V"⟩ ∈ U0 := mU (List.mem_append_right _ (List.mem_of_getElem? (i := 512) (by decide +kernel))) (by decide +kernel)
theorem wd_513 : Cond.selects "EventLog" ⟨"EventLog", "poke", "(II)V"⟩ ⟨"EventLog", "poke", "(II)V"⟩ ∈ U0 := mU (List.mem_append_right _ (List.mem_of_getElem? (i := 513) (by decide +kernel))) (by decide +kernel)
theorem wd_514 : Cond.code ⟨"EventLog", "poke", "(II)V"⟩ prog_1_method_7_code 3 none ∈ U0 := mU (List.mem_append_right _ (List.mem_of_getElem? (i := 514) (by decide +kernel))) (by decide +kernel)
theorem wd_541 : Cond.methodLink "EventLogLaw" 27 ⟨"EventLog", "cut", "(I)I"⟩ ∈ U0 := mU (List.mem_append_right _ (List.mem_of_getElem? (i := 541) (by decide +kernel))) (by decide +kernel)
theorem wd_542 : Cond.instanceMethod ⟨"EventLog", "cut", "(I)I"⟩ ∈ U0 := mU (List.mem_append_right _ (List.mem_of_getElem? (i := 542) (by decide +kernel))) (by decide +kernel)
theorem wd_543 : Cond.selects "EventLog" ⟨"EventLog", "cut", "(I)I"⟩ ⟨"EventLog", "cut", "(I)I"⟩ ∈ U0 := mU (List.mem_append_right _ (List.mem_of_getElem? (i := 543) (by decide +kernel))) (by decide +kernel)
theorem wd_544 : Cond.code ⟨"EventLog", "cut", "(I)I"⟩ prog_1_method_8_code 3 (some FieldType.int) ∈ U0 := mU (List.mem_append_right _ (List.mem_of_getElem? (i := 544) (by decide +kernel))) (by decide +kernel)
theorem wd_550 : Cond.methodLink "EventLogLaw" 30 ⟨"EventLog", "byteAt", "(I)I"⟩ ∈ U0 := mU (List.mem_append_right _ (List.mem_of_getElem? (i := 550) (by decide +kernel))) (by decide +kernel)
theorem wd_551 : Cond.instanceMethod ⟨"EventLog", "byteAt", "(I)I"⟩ ∈ U0 := mU (List.mem_append_right _ (List.mem_of_getElem? (i := 551) (by decide +kernel))) (by decide +kernel)
theorem wd_552 : Cond.selects "EventLog" ⟨"EventLog", "byteAt", "(I)I"⟩ ⟨"EventLog", "byteAt", "(I)I"⟩ ∈ U0 := mU (List.mem_append_right _ (List.mem_of_getElem? (i := 552) (by decide +kernel))) (by decide +kernel)
theorem wd_553 : Cond.code ⟨"EventLog", "byteAt", "(I)I"⟩ prog_1_method_9_code 2 (some FieldType.int) ∈ U0 := mU (List.mem_append_right _ (List.mem_of_getElem? (i := 553) (by decide +kernel))) (by decide +kernel)
theorem wd_559 : Cond.classLink "EventLogLaw" 37 "java/util/NoSuchElementException" ∈ U0 := mU (List.mem_append_right _ (List.mem_of_getElem? (i := 559) (by decide +kernel))) (by decide +kernel)
theorem wd_560 : Cond.methodLink "EventLogLaw" 33 ⟨"EventLog", "event", "(II)J"⟩ ∈ U0 := mU (List.mem_append_right _ (List.mem_of_getElem? (i := 560) (by decide +kernel))) (by decide +kernel)
theorem wd_561 : Cond.instanceMethod ⟨"EventLog", "event", "(II)J"⟩ ∈ U0 := mU (List.mem_append_right _ (List.mem_of_getElem? (i := 561) (by decide +kernel))) (by decide +kernel)
theorem wd_562 : Cond.selects "EventLog" ⟨"EventLog", "event", "(II)J"⟩ ⟨"EventLog", "event", "(II)J"⟩ ∈ U0 := mU (List.mem_append_right _ (List.mem_of_getElem? (i := 562) (by decide +kernel))) (by decide +kernel)
theorem wd_563 : Cond.code ⟨"EventLog", "event", "(II)J"⟩ prog_1_method_10_code 3 (some FieldType.long) ∈ U0 := mU (List.mem_append_right _ (List.mem_of_getElem? (i := 563) (by decide +kernel))) (by decide +kernel)
theorem kV_EventLog_add : ClV y_EventLog_add b_EventLog_add 7 (some FieldType.int) 4 := ⟨⟨wd_395, wd_1, by decide +kernel, by decide +kernel, by decide +kernel⟩, wd_393, wd_394⟩
theorem kV_EventLog_drop : ClV y_EventLog_drop b_EventLog_drop 3 (some FieldType.int) 1 := ⟨⟨wd_504, wd_1, by decide +kernel, by decide +kernel, by decide +kernel⟩, wd_502, wd_503⟩
theorem kV_EventLog_poke : ClV y_EventLog_poke b_EventLog_poke 3 none 2 := ⟨⟨wd_514, wd_1, by decide +kernel, by decide +kernel, by decide +kernel⟩, wd_512, wd_513⟩
theorem kV_EventLog_cut : ClV y_EventLog_cut b_EventLog_cut 3 (some FieldType.int) 1 := ⟨⟨wd_544, wd_1, by decide +kernel, by decide +kernel, by decide +kernel⟩, wd_542, wd_543⟩
theorem kV_EventLog_byteAt : ClV y_EventLog_byteAt b_EventLog_byteAt 2 (some FieldType.int) 1 := ⟨⟨wd_553, wd_1, by decide +kernel, by decide +kernel, by decide +kernel⟩, wd_551, wd_552⟩
theorem kV_EventLog_event : ClV y_EventLog_event b_EventLog_event 3 (some FieldType.long) 2 := ⟨⟨wd_563, wd_1, by decide +kernel, by decide +kernel, by decide +kernel⟩, wd_561, wd_562⟩
