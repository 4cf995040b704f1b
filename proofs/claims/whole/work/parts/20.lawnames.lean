def R_Law : String := "EventLogLaw"
abbrev b_Law_add : ByteArray := method_3_code
def y_Law_add : MethodName := ⟨"EventLogLaw", "add", "(LEventLog;IJJI[J)I"⟩
abbrev ws_Law_add : List Cond := Cond.codeWith y_Law_add b_Law_add 9 (some FieldType.int) [(0, 15, 18, 13), (0, 15, 22, 15)] :: U0
theorem d_Law_add_0 : decode b_Law_add 0 = .ok (.aload 7, 2) := by decide +kernel
theorem d_Law_add_2 : decode b_Law_add 2 = .ok (.iconst 0, 1) := by decide +kernel
theorem d_Law_add_3 : decode b_Law_add 3 = .ok (.aload_n 0, 1) := by decide +kernel
theorem d_Law_add_4 : decode b_Law_add 4 = .ok (.iload_n 1, 1) := by decide +kernel
theorem d_Law_add_5 : decode b_Law_add 5 = .ok (.lload_n 2, 1) := by decide +kernel
theorem d_Law_add_6 : decode b_Law_add 6 = .ok (.lload 4, 2) := by decide +kernel
theorem d_Law_add_8 : decode b_Law_add 8 = .ok (.iload 6, 2) := by decide +kernel
theorem d_Law_add_10 : decode b_Law_add 10 = .ok (.invokevirtual 7, 3) := by decide +kernel
theorem d_Law_add_13 : decode b_Law_add 13 = .ok (.i2l, 1) := by decide +kernel
theorem d_Law_add_14 : decode b_Law_add 14 = .ok (.lastore, 1) := by decide +kernel
theorem d_Law_add_15 : decode b_Law_add 15 = .ok (.goto 11, 3) := by decide +kernel
theorem d_Law_add_18 : decode b_Law_add 18 = .ok (.astore 8, 2) := by decide +kernel
theorem d_Law_add_20 : decode b_Law_add 20 = .ok (.iconst 1, 1) := by decide +kernel
theorem d_Law_add_21 : decode b_Law_add 21 = .ok (.ireturn, 1) := by decide +kernel
theorem d_Law_add_22 : decode b_Law_add 22 = .ok (.astore 8, 2) := by decide +kernel
theorem d_Law_add_24 : decode b_Law_add 24 = .ok (.iconst 2, 1) := by decide +kernel
theorem d_Law_add_25 : decode b_Law_add 25 = .ok (.ireturn, 1) := by decide +kernel
theorem d_Law_add_26 : decode b_Law_add 26 = .ok (.iconst 0, 1) := by decide +kernel
theorem d_Law_add_27 : decode b_Law_add 27 = .ok (.ireturn, 1) := by decide +kernel
abbrev b_Law_drop : ByteArray := method_4_code
def y_Law_drop : MethodName := ⟨"EventLogLaw", "drop", "(LEventLog;I[J)I"⟩
abbrev ws_Law_drop : List Cond := Cond.codeWith y_Law_drop b_Law_drop 4 (some FieldType.int) [(0, 9, 12, 13)] :: U0
theorem d_Law_drop_0 : decode b_Law_drop 0 = .ok (.aload_n 2, 1) := by decide +kernel
theorem d_Law_drop_1 : decode b_Law_drop 1 = .ok (.iconst 0, 1) := by decide +kernel
theorem d_Law_drop_2 : decode b_Law_drop 2 = .ok (.aload_n 0, 1) := by decide +kernel
theorem d_Law_drop_3 : decode b_Law_drop 3 = .ok (.iload_n 1, 1) := by decide +kernel
theorem d_Law_drop_4 : decode b_Law_drop 4 = .ok (.invokevirtual 17, 3) := by decide +kernel
theorem d_Law_drop_7 : decode b_Law_drop 7 = .ok (.i2l, 1) := by decide +kernel
theorem d_Law_drop_8 : decode b_Law_drop 8 = .ok (.lastore, 1) := by decide +kernel
theorem d_Law_drop_9 : decode b_Law_drop 9 = .ok (.goto 6, 3) := by decide +kernel
theorem d_Law_drop_12 : decode b_Law_drop 12 = .ok (.astore_n 3, 1) := by decide +kernel
theorem d_Law_drop_13 : decode b_Law_drop 13 = .ok (.iconst 1, 1) := by decide +kernel
theorem d_Law_drop_14 : decode b_Law_drop 14 = .ok (.ireturn, 1) := by decide +kernel
theorem d_Law_drop_15 : decode b_Law_drop 15 = .ok (.iconst 0, 1) := by decide +kernel
theorem d_Law_drop_16 : decode b_Law_drop 16 = .ok (.ireturn, 1) := by decide +kernel
abbrev b_Law_poke : ByteArray := method_5_code
def y_Law_poke : MethodName := ⟨"EventLogLaw", "poke", "(LEventLog;II)I"⟩
abbrev ws_Law_poke : List Cond := Cond.codeWith y_Law_poke b_Law_poke 4 (some FieldType.int) [(0, 6, 9, 13), (0, 6, 12, 25), (0, 6, 15, 15)] :: U0
theorem d_Law_poke_0 : decode b_Law_poke 0 = .ok (.aload_n 0, 1) := by decide +kernel
theorem d_Law_poke_1 : decode b_Law_poke 1 = .ok (.iload_n 1, 1) := by decide +kernel
theorem d_Law_poke_2 : decode b_Law_poke 2 = .ok (.iload_n 2, 1) := by decide +kernel
theorem d_Law_poke_3 : decode b_Law_poke 3 = .ok (.invokevirtual 21, 3) := by decide +kernel
theorem d_Law_poke_6 : decode b_Law_poke 6 = .ok (.goto 12, 3) := by decide +kernel
theorem d_Law_poke_9 : decode b_Law_poke 9 = .ok (.astore_n 3, 1) := by decide +kernel
theorem d_Law_poke_10 : decode b_Law_poke 10 = .ok (.iconst 1, 1) := by decide +kernel
theorem d_Law_poke_11 : decode b_Law_poke 11 = .ok (.ireturn, 1) := by decide +kernel
theorem d_Law_poke_12 : decode b_Law_poke 12 = .ok (.astore_n 3, 1) := by decide +kernel
theorem d_Law_poke_13 : decode b_Law_poke 13 = .ok (.iconst 2, 1) := by decide +kernel
theorem d_Law_poke_14 : decode b_Law_poke 14 = .ok (.ireturn, 1) := by decide +kernel
theorem d_Law_poke_15 : decode b_Law_poke 15 = .ok (.astore_n 3, 1) := by decide +kernel
theorem d_Law_poke_16 : decode b_Law_poke 16 = .ok (.iconst 3, 1) := by decide +kernel
theorem d_Law_poke_17 : decode b_Law_poke 17 = .ok (.ireturn, 1) := by decide +kernel
theorem d_Law_poke_18 : decode b_Law_poke 18 = .ok (.iconst 0, 1) := by decide +kernel
theorem d_Law_poke_19 : decode b_Law_poke 19 = .ok (.ireturn, 1) := by decide +kernel
abbrev b_Law_cut : ByteArray := method_6_code
def y_Law_cut : MethodName := ⟨"EventLogLaw", "cut", "(LEventLog;I[J)I"⟩
abbrev ws_Law_cut : List Cond := Cond.codeWith y_Law_cut b_Law_cut 4 (some FieldType.int) [(0, 9, 12, 25)] :: U0
theorem d_Law_cut_0 : decode b_Law_cut 0 = .ok (.aload_n 2, 1) := by decide +kernel
theorem d_Law_cut_1 : decode b_Law_cut 1 = .ok (.iconst 0, 1) := by decide +kernel
theorem d_Law_cut_2 : decode b_Law_cut 2 = .ok (.aload_n 0, 1) := by decide +kernel
theorem d_Law_cut_3 : decode b_Law_cut 3 = .ok (.iload_n 1, 1) := by decide +kernel
theorem d_Law_cut_4 : decode b_Law_cut 4 = .ok (.invokevirtual 27, 3) := by decide +kernel
theorem d_Law_cut_7 : decode b_Law_cut 7 = .ok (.i2l, 1) := by decide +kernel
theorem d_Law_cut_8 : decode b_Law_cut 8 = .ok (.lastore, 1) := by decide +kernel
theorem d_Law_cut_9 : decode b_Law_cut 9 = .ok (.goto 6, 3) := by decide +kernel
theorem d_Law_cut_12 : decode b_Law_cut 12 = .ok (.astore_n 3, 1) := by decide +kernel
theorem d_Law_cut_13 : decode b_Law_cut 13 = .ok (.iconst 1, 1) := by decide +kernel
theorem d_Law_cut_14 : decode b_Law_cut 14 = .ok (.ireturn, 1) := by decide +kernel
theorem d_Law_cut_15 : decode b_Law_cut 15 = .ok (.iconst 0, 1) := by decide +kernel
theorem d_Law_cut_16 : decode b_Law_cut 16 = .ok (.ireturn, 1) := by decide +kernel
abbrev b_Law_byteAt : ByteArray := method_7_code
def y_Law_byteAt : MethodName := ⟨"EventLogLaw", "byteAt", "(LEventLog;I[J)I"⟩
abbrev ws_Law_byteAt : List Cond := Cond.codeWith y_Law_byteAt b_Law_byteAt 4 (some FieldType.int) [(0, 9, 12, 25)] :: U0
theorem d_Law_byteAt_0 : decode b_Law_byteAt 0 = .ok (.aload_n 2, 1) := by decide +kernel
theorem d_Law_byteAt_1 : decode b_Law_byteAt 1 = .ok (.iconst 0, 1) := by decide +kernel
theorem d_Law_byteAt_2 : decode b_Law_byteAt 2 = .ok (.aload_n 0, 1) := by decide +kernel
theorem d_Law_byteAt_3 : decode b_Law_byteAt 3 = .ok (.iload_n 1, 1) := by decide +kernel
theorem d_Law_byteAt_4 : decode b_Law_byteAt 4 = .ok (.invokevirtual 30, 3) := by decide +kernel
theorem d_Law_byteAt_7 : decode b_Law_byteAt 7 = .ok (.i2l, 1) := by decide +kernel
theorem d_Law_byteAt_8 : decode b_Law_byteAt 8 = .ok (.lastore, 1) := by decide +kernel
theorem d_Law_byteAt_9 : decode b_Law_byteAt 9 = .ok (.goto 6, 3) := by decide +kernel
theorem d_Law_byteAt_12 : decode b_Law_byteAt 12 = .ok (.astore_n 3, 1) := by decide +kernel
theorem d_Law_byteAt_13 : decode b_Law_byteAt 13 = .ok (.iconst 1, 1) := by decide +kernel
theorem d_Law_byteAt_14 : decode b_Law_byteAt 14 = .ok (.ireturn, 1) := by decide +kernel
theorem d_Law_byteAt_15 : decode b_Law_byteAt 15 = .ok (.iconst 0, 1) := by decide +kernel
theorem d_Law_byteAt_16 : decode b_Law_byteAt 16 = .ok (.ireturn, 1) := by decide +kernel
abbrev b_Law_event : ByteArray := method_8_code
def y_Law_event : MethodName := ⟨"EventLogLaw", "event", "(LEventLog;II[J)I"⟩
abbrev ws_Law_event : List Cond := Cond.codeWith y_Law_event b_Law_event 5 (some FieldType.int) [(0, 9, 12, 37), (0, 9, 16, 13)] :: U0
theorem d_Law_event_0 : decode b_Law_event 0 = .ok (.aload_n 3, 1) := by decide +kernel
theorem d_Law_event_1 : decode b_Law_event 1 = .ok (.iconst 0, 1) := by decide +kernel
theorem d_Law_event_2 : decode b_Law_event 2 = .ok (.aload_n 0, 1) := by decide +kernel
theorem d_Law_event_3 : decode b_Law_event 3 = .ok (.iload_n 1, 1) := by decide +kernel
theorem d_Law_event_4 : decode b_Law_event 4 = .ok (.iload_n 2, 1) := by decide +kernel
theorem d_Law_event_5 : decode b_Law_event 5 = .ok (.invokevirtual 33, 3) := by decide +kernel
theorem d_Law_event_8 : decode b_Law_event 8 = .ok (.lastore, 1) := by decide +kernel
theorem d_Law_event_9 : decode b_Law_event 9 = .ok (.goto 11, 3) := by decide +kernel
theorem d_Law_event_12 : decode b_Law_event 12 = .ok (.astore 4, 2) := by decide +kernel
theorem d_Law_event_14 : decode b_Law_event 14 = .ok (.iconst 1, 1) := by decide +kernel
theorem d_Law_event_15 : decode b_Law_event 15 = .ok (.ireturn, 1) := by decide +kernel
theorem d_Law_event_16 : decode b_Law_event 16 = .ok (.astore 4, 2) := by decide +kernel
theorem d_Law_event_18 : decode b_Law_event 18 = .ok (.iconst 2, 1) := by decide +kernel
theorem d_Law_event_19 : decode b_Law_event 19 = .ok (.ireturn, 1) := by decide +kernel
theorem d_Law_event_20 : decode b_Law_event 20 = .ok (.iconst 0, 1) := by decide +kernel
theorem d_Law_event_21 : decode b_Law_event 21 = .ok (.ireturn, 1) := by decide +kernel
abbrev b_Law_law : ByteArray := code
theorem d_Law_law_0 : decode b_Law_law 0 = .ok (.new 8, 3) := by decide +kernel
theorem d_Law_law_3 : decode b_Law_law 3 = .ok (.dup, 1) := by decide +kernel
theorem d_Law_law_4 : decode b_Law_law 4 = .ok (.invokespecial 39, 3) := by decide +kernel
theorem d_Law_law_7 : decode b_Law_law 7 = .ok (.astore_n 1, 1) := by decide +kernel
theorem d_Law_law_8 : decode b_Law_law 8 = .ok (.new 40, 3) := by decide +kernel
theorem d_Law_law_11 : decode b_Law_law 11 = .ok (.dup, 1) := by decide +kernel
theorem d_Law_law_12 : decode b_Law_law 12 = .ok (.invokespecial 42, 3) := by decide +kernel
theorem d_Law_law_15 : decode b_Law_law 15 = .ok (.astore_n 2, 1) := by decide +kernel
theorem d_Law_law_16 : decode b_Law_law 16 = .ok (.iconst 1, 1) := by decide +kernel
theorem d_Law_law_17 : decode b_Law_law 17 = .ok (.newarray .long, 2) := by decide +kernel
theorem d_Law_law_19 : decode b_Law_law 19 = .ok (.astore_n 3, 1) := by decide +kernel
theorem d_Law_law_20 : decode b_Law_law 20 = .ok (.iconst 0, 1) := by decide +kernel
theorem d_Law_law_21 : decode b_Law_law 21 = .ok (.istore 4, 2) := by decide +kernel
theorem d_Law_law_23 : decode b_Law_law 23 = .ok (.iload 4, 2) := by decide +kernel
theorem d_Law_law_25 : decode b_Law_law 25 = .ok (.aload_n 0, 1) := by decide +kernel
theorem d_Law_law_26 : decode b_Law_law 26 = .ok (.arraylength, 1) := by decide +kernel
theorem d_Law_law_27 : decode b_Law_law 27 = .ok (.bipush 7, 2) := by decide +kernel
theorem d_Law_law_29 : decode b_Law_law 29 = .ok (.isub, 1) := by decide +kernel
theorem d_Law_law_30 : decode b_Law_law 30 = .ok (.if_icmp .gt 638, 3) := by decide +kernel
theorem d_Law_law_33 : decode b_Law_law 33 = .ok (.aload_n 0, 1) := by decide +kernel
theorem d_Law_law_34 : decode b_Law_law 34 = .ok (.iload 4, 2) := by decide +kernel
theorem d_Law_law_36 : decode b_Law_law 36 = .ok (.iaload, 1) := by decide +kernel
theorem d_Law_law_37 : decode b_Law_law 37 = .ok (.bipush 15, 2) := by decide +kernel
theorem d_Law_law_39 : decode b_Law_law 39 = .ok (.iand, 1) := by decide +kernel
theorem d_Law_law_40 : decode b_Law_law 40 = .ok (.tableswitch 622 0 10 #[60, 218, 274, 287, 300, 313, 361, 417, 473, 540, 597], 60) := by decide +kernel
theorem d_Law_law_100 : decode b_Law_law 100 = .ok (.aload_n 1, 1) := by decide +kernel
theorem d_Law_law_101 : decode b_Law_law 101 = .ok (.aload_n 0, 1) := by decide +kernel
theorem d_Law_law_102 : decode b_Law_law 102 = .ok (.iload 4, 2) := by decide +kernel
theorem d_Law_law_104 : decode b_Law_law 104 = .ok (.iconst 1, 1) := by decide +kernel
theorem d_Law_law_105 : decode b_Law_law 105 = .ok (.iadd, 1) := by decide +kernel
theorem d_Law_law_106 : decode b_Law_law 106 = .ok (.iaload, 1) := by decide +kernel
theorem d_Law_law_107 : decode b_Law_law 107 = .ok (.aload_n 0, 1) := by decide +kernel
theorem d_Law_law_108 : decode b_Law_law 108 = .ok (.iload 4, 2) := by decide +kernel
theorem d_Law_law_110 : decode b_Law_law 110 = .ok (.iconst 2, 1) := by decide +kernel
theorem d_Law_law_111 : decode b_Law_law 111 = .ok (.iadd, 1) := by decide +kernel
theorem d_Law_law_112 : decode b_Law_law 112 = .ok (.iaload, 1) := by decide +kernel
theorem d_Law_law_113 : decode b_Law_law 113 = .ok (.i2l, 1) := by decide +kernel
theorem d_Law_law_114 : decode b_Law_law 114 = .ok (.bipush 32, 2) := by decide +kernel
theorem d_Law_law_116 : decode b_Law_law 116 = .ok (.lshl, 1) := by decide +kernel
theorem d_Law_law_117 : decode b_Law_law 117 = .ok (.aload_n 0, 1) := by decide +kernel
theorem d_Law_law_118 : decode b_Law_law 118 = .ok (.iload 4, 2) := by decide +kernel
theorem d_Law_law_120 : decode b_Law_law 120 = .ok (.iconst 3, 1) := by decide +kernel
theorem d_Law_law_121 : decode b_Law_law 121 = .ok (.iadd, 1) := by decide +kernel
theorem d_Law_law_122 : decode b_Law_law 122 = .ok (.iaload, 1) := by decide +kernel
theorem d_Law_law_123 : decode b_Law_law 123 = .ok (.i2l, 1) := by decide +kernel
theorem d_Law_law_124 : decode b_Law_law 124 = .ok (.ldc2_w 43, 3) := by decide +kernel
theorem d_Law_law_127 : decode b_Law_law 127 = .ok (.land, 1) := by decide +kernel
theorem d_Law_law_128 : decode b_Law_law 128 = .ok (.lor, 1) := by decide +kernel
theorem d_Law_law_129 : decode b_Law_law 129 = .ok (.aload_n 0, 1) := by decide +kernel
theorem d_Law_law_130 : decode b_Law_law 130 = .ok (.iload 4, 2) := by decide +kernel
theorem d_Law_law_132 : decode b_Law_law 132 = .ok (.iconst 4, 1) := by decide +kernel
theorem d_Law_law_133 : decode b_Law_law 133 = .ok (.iadd, 1) := by decide +kernel
theorem d_Law_law_134 : decode b_Law_law 134 = .ok (.iaload, 1) := by decide +kernel
theorem d_Law_law_135 : decode b_Law_law 135 = .ok (.i2l, 1) := by decide +kernel
theorem d_Law_law_136 : decode b_Law_law 136 = .ok (.bipush 32, 2) := by decide +kernel
theorem d_Law_law_138 : decode b_Law_law 138 = .ok (.lshl, 1) := by decide +kernel
theorem d_Law_law_139 : decode b_Law_law 139 = .ok (.aload_n 0, 1) := by decide +kernel
theorem d_Law_law_140 : decode b_Law_law 140 = .ok (.iload 4, 2) := by decide +kernel
theorem d_Law_law_142 : decode b_Law_law 142 = .ok (.iconst 5, 1) := by decide +kernel
theorem d_Law_law_143 : decode b_Law_law 143 = .ok (.iadd, 1) := by decide +kernel
theorem d_Law_law_144 : decode b_Law_law 144 = .ok (.iaload, 1) := by decide +kernel
theorem d_Law_law_145 : decode b_Law_law 145 = .ok (.i2l, 1) := by decide +kernel
theorem d_Law_law_146 : decode b_Law_law 146 = .ok (.ldc2_w 43, 3) := by decide +kernel
theorem d_Law_law_149 : decode b_Law_law 149 = .ok (.land, 1) := by decide +kernel
theorem d_Law_law_150 : decode b_Law_law 150 = .ok (.lor, 1) := by decide +kernel
theorem d_Law_law_151 : decode b_Law_law 151 = .ok (.aload_n 0, 1) := by decide +kernel
theorem d_Law_law_152 : decode b_Law_law 152 = .ok (.iload 4, 2) := by decide +kernel
theorem d_Law_law_154 : decode b_Law_law 154 = .ok (.bipush 6, 2) := by decide +kernel
theorem d_Law_law_156 : decode b_Law_law 156 = .ok (.iadd, 1) := by decide +kernel
theorem d_Law_law_157 : decode b_Law_law 157 = .ok (.iaload, 1) := by decide +kernel
theorem d_Law_law_158 : decode b_Law_law 158 = .ok (.aload_n 3, 1) := by decide +kernel
theorem d_Law_law_159 : decode b_Law_law 159 = .ok (.invokestatic 45, 3) := by decide +kernel
theorem d_Law_law_162 : decode b_Law_law 162 = .ok (.istore 5, 2) := by decide +kernel
theorem d_Law_law_164 : decode b_Law_law 164 = .ok (.aload_n 2, 1) := by decide +kernel
theorem d_Law_law_165 : decode b_Law_law 165 = .ok (.aload_n 0, 1) := by decide +kernel
theorem d_Law_law_166 : decode b_Law_law 166 = .ok (.iload 4, 2) := by decide +kernel
theorem d_Law_law_168 : decode b_Law_law 168 = .ok (.iconst 1, 1) := by decide +kernel
theorem d_Law_law_169 : decode b_Law_law 169 = .ok (.iadd, 1) := by decide +kernel
theorem d_Law_law_170 : decode b_Law_law 170 = .ok (.iaload, 1) := by decide +kernel
theorem d_Law_law_171 : decode b_Law_law 171 = .ok (.aload_n 0, 1) := by decide +kernel
theorem d_Law_law_172 : decode b_Law_law 172 = .ok (.iload 4, 2) := by decide +kernel
theorem d_Law_law_174 : decode b_Law_law 174 = .ok (.iconst 2, 1) := by decide +kernel
theorem d_Law_law_175 : decode b_Law_law 175 = .ok (.iadd, 1) := by decide +kernel
theorem d_Law_law_176 : decode b_Law_law 176 = .ok (.iaload, 1) := by decide +kernel
theorem d_Law_law_177 : decode b_Law_law 177 = .ok (.i2l, 1) := by decide +kernel
theorem d_Law_law_178 : decode b_Law_law 178 = .ok (.bipush 32, 2) := by decide +kernel
theorem d_Law_law_180 : decode b_Law_law 180 = .ok (.lshl, 1) := by decide +kernel
theorem d_Law_law_181 : decode b_Law_law 181 = .ok (.aload_n 0, 1) := by decide +kernel
theorem d_Law_law_182 : decode b_Law_law 182 = .ok (.iload 4, 2) := by decide +kernel
theorem d_Law_law_184 : decode b_Law_law 184 = .ok (.iconst 3, 1) := by decide +kernel
theorem d_Law_law_185 : decode b_Law_law 185 = .ok (.iadd, 1) := by decide +kernel
theorem d_Law_law_186 : decode b_Law_law 186 = .ok (.iaload, 1) := by decide +kernel
theorem d_Law_law_187 : decode b_Law_law 187 = .ok (.i2l, 1) := by decide +kernel
theorem d_Law_law_188 : decode b_Law_law 188 = .ok (.ldc2_w 43, 3) := by decide +kernel
theorem d_Law_law_191 : decode b_Law_law 191 = .ok (.land, 1) := by decide +kernel
theorem d_Law_law_192 : decode b_Law_law 192 = .ok (.lor, 1) := by decide +kernel
theorem d_Law_law_193 : decode b_Law_law 193 = .ok (.aload_n 0, 1) := by decide +kernel
theorem d_Law_law_194 : decode b_Law_law 194 = .ok (.iload 4, 2) := by decide +kernel
theorem d_Law_law_196 : decode b_Law_law 196 = .ok (.iconst 4, 1) := by decide +kernel
theorem d_Law_law_197 : decode b_Law_law 197 = .ok (.iadd, 1) := by decide +kernel
theorem d_Law_law_198 : decode b_Law_law 198 = .ok (.iaload, 1) := by decide +kernel
theorem d_Law_law_199 : decode b_Law_law 199 = .ok (.i2l, 1) := by decide +kernel
theorem d_Law_law_200 : decode b_Law_law 200 = .ok (.bipush 32, 2) := by decide +kernel
theorem d_Law_law_202 : decode b_Law_law 202 = .ok (.lshl, 1) := by decide +kernel
theorem d_Law_law_203 : decode b_Law_law 203 = .ok (.aload_n 0, 1) := by decide +kernel
theorem d_Law_law_204 : decode b_Law_law 204 = .ok (.iload 4, 2) := by decide +kernel
theorem d_Law_law_206 : decode b_Law_law 206 = .ok (.iconst 5, 1) := by decide +kernel
theorem d_Law_law_207 : decode b_Law_law 207 = .ok (.iadd, 1) := by decide +kernel
theorem d_Law_law_208 : decode b_Law_law 208 = .ok (.iaload, 1) := by decide +kernel
theorem d_Law_law_209 : decode b_Law_law 209 = .ok (.i2l, 1) := by decide +kernel
theorem d_Law_law_210 : decode b_Law_law 210 = .ok (.ldc2_w 43, 3) := by decide +kernel
theorem d_Law_law_213 : decode b_Law_law 213 = .ok (.land, 1) := by decide +kernel
theorem d_Law_law_214 : decode b_Law_law 214 = .ok (.lor, 1) := by decide +kernel
theorem d_Law_law_215 : decode b_Law_law 215 = .ok (.aload_n 0, 1) := by decide +kernel
theorem d_Law_law_216 : decode b_Law_law 216 = .ok (.iload 4, 2) := by decide +kernel
theorem d_Law_law_218 : decode b_Law_law 218 = .ok (.bipush 6, 2) := by decide +kernel
theorem d_Law_law_220 : decode b_Law_law 220 = .ok (.iadd, 1) := by decide +kernel
theorem d_Law_law_221 : decode b_Law_law 221 = .ok (.iaload, 1) := by decide +kernel
theorem d_Law_law_222 : decode b_Law_law 222 = .ok (.invokevirtual 50, 3) := by decide +kernel
theorem d_Law_law_225 : decode b_Law_law 225 = .ok (.istore 6, 2) := by decide +kernel
theorem d_Law_law_227 : decode b_Law_law 227 = .ok (.aload_n 2, 1) := by decide +kernel
theorem d_Law_law_228 : decode b_Law_law 228 = .ok (.invokevirtual 51, 3) := by decide +kernel
theorem d_Law_law_231 : decode b_Law_law 231 = .ok (.iload 5, 2) := by decide +kernel
theorem d_Law_law_233 : decode b_Law_law 233 = .ok (.if_icmp .eq 5, 3) := by decide +kernel
theorem d_Law_law_236 : decode b_Law_law 236 = .ok (.iconst 0, 1) := by decide +kernel
theorem d_Law_law_237 : decode b_Law_law 237 = .ok (.ireturn, 1) := by decide +kernel
theorem d_Law_law_238 : decode b_Law_law 238 = .ok (.iload 5, 2) := by decide +kernel
theorem d_Law_law_240 : decode b_Law_law 240 = .ok (.ifCond .ne 15, 3) := by decide +kernel
theorem d_Law_law_243 : decode b_Law_law 243 = .ok (.aload_n 3, 1) := by decide +kernel
theorem d_Law_law_244 : decode b_Law_law 244 = .ok (.iconst 0, 1) := by decide +kernel
theorem d_Law_law_245 : decode b_Law_law 245 = .ok (.laload, 1) := by decide +kernel
theorem d_Law_law_246 : decode b_Law_law 246 = .ok (.iload 6, 2) := by decide +kernel
theorem d_Law_law_248 : decode b_Law_law 248 = .ok (.i2l, 1) := by decide +kernel
theorem d_Law_law_249 : decode b_Law_law 249 = .ok (.lcmp, 1) := by decide +kernel
theorem d_Law_law_250 : decode b_Law_law 250 = .ok (.ifCond .eq 5, 3) := by decide +kernel
theorem d_Law_law_253 : decode b_Law_law 253 = .ok (.iconst 0, 1) := by decide +kernel
theorem d_Law_law_254 : decode b_Law_law 254 = .ok (.ireturn, 1) := by decide +kernel
theorem d_Law_law_255 : decode b_Law_law 255 = .ok (.goto 407, 3) := by decide +kernel
theorem d_Law_law_258 : decode b_Law_law 258 = .ok (.aload_n 1, 1) := by decide +kernel
theorem d_Law_law_259 : decode b_Law_law 259 = .ok (.aload_n 0, 1) := by decide +kernel
theorem d_Law_law_260 : decode b_Law_law 260 = .ok (.iload 4, 2) := by decide +kernel
theorem d_Law_law_262 : decode b_Law_law 262 = .ok (.iconst 1, 1) := by decide +kernel
theorem d_Law_law_263 : decode b_Law_law 263 = .ok (.iadd, 1) := by decide +kernel
theorem d_Law_law_264 : decode b_Law_law 264 = .ok (.iaload, 1) := by decide +kernel
theorem d_Law_law_265 : decode b_Law_law 265 = .ok (.aload_n 3, 1) := by decide +kernel
theorem d_Law_law_266 : decode b_Law_law 266 = .ok (.invokestatic 55, 3) := by decide +kernel
theorem d_Law_law_269 : decode b_Law_law 269 = .ok (.istore 5, 2) := by decide +kernel
theorem d_Law_law_271 : decode b_Law_law 271 = .ok (.aload_n 2, 1) := by decide +kernel
theorem d_Law_law_272 : decode b_Law_law 272 = .ok (.aload_n 0, 1) := by decide +kernel
theorem d_Law_law_273 : decode b_Law_law 273 = .ok (.iload 4, 2) := by decide +kernel
theorem d_Law_law_275 : decode b_Law_law 275 = .ok (.iconst 1, 1) := by decide +kernel
theorem d_Law_law_276 : decode b_Law_law 276 = .ok (.iadd, 1) := by decide +kernel
theorem d_Law_law_277 : decode b_Law_law 277 = .ok (.iaload, 1) := by decide +kernel
theorem d_Law_law_278 : decode b_Law_law 278 = .ok (.invokevirtual 58, 3) := by decide +kernel
theorem d_Law_law_281 : decode b_Law_law 281 = .ok (.istore 6, 2) := by decide +kernel
theorem d_Law_law_283 : decode b_Law_law 283 = .ok (.aload_n 2, 1) := by decide +kernel
theorem d_Law_law_284 : decode b_Law_law 284 = .ok (.invokevirtual 51, 3) := by decide +kernel
theorem d_Law_law_287 : decode b_Law_law 287 = .ok (.iload 5, 2) := by decide +kernel
theorem d_Law_law_289 : decode b_Law_law 289 = .ok (.if_icmp .eq 5, 3) := by decide +kernel
theorem d_Law_law_292 : decode b_Law_law 292 = .ok (.iconst 0, 1) := by decide +kernel
theorem d_Law_law_293 : decode b_Law_law 293 = .ok (.ireturn, 1) := by decide +kernel
theorem d_Law_law_294 : decode b_Law_law 294 = .ok (.iload 5, 2) := by decide +kernel
theorem d_Law_law_296 : decode b_Law_law 296 = .ok (.ifCond .ne 15, 3) := by decide +kernel
theorem d_Law_law_299 : decode b_Law_law 299 = .ok (.aload_n 3, 1) := by decide +kernel
theorem d_Law_law_300 : decode b_Law_law 300 = .ok (.iconst 0, 1) := by decide +kernel
theorem d_Law_law_301 : decode b_Law_law 301 = .ok (.laload, 1) := by decide +kernel
theorem d_Law_law_302 : decode b_Law_law 302 = .ok (.iload 6, 2) := by decide +kernel
theorem d_Law_law_304 : decode b_Law_law 304 = .ok (.i2l, 1) := by decide +kernel
theorem d_Law_law_305 : decode b_Law_law 305 = .ok (.lcmp, 1) := by decide +kernel
theorem d_Law_law_306 : decode b_Law_law 306 = .ok (.ifCond .eq 5, 3) := by decide +kernel
theorem d_Law_law_309 : decode b_Law_law 309 = .ok (.iconst 0, 1) := by decide +kernel
theorem d_Law_law_310 : decode b_Law_law 310 = .ok (.ireturn, 1) := by decide +kernel
theorem d_Law_law_311 : decode b_Law_law 311 = .ok (.goto 351, 3) := by decide +kernel
theorem d_Law_law_314 : decode b_Law_law 314 = .ok (.aload_n 1, 1) := by decide +kernel
theorem d_Law_law_315 : decode b_Law_law 315 = .ok (.invokevirtual 59, 3) := by decide +kernel
theorem d_Law_law_318 : decode b_Law_law 318 = .ok (.aload_n 2, 1) := by decide +kernel
theorem d_Law_law_319 : decode b_Law_law 319 = .ok (.invokevirtual 62, 3) := by decide +kernel
theorem d_Law_law_322 : decode b_Law_law 322 = .ok (.if_icmp .eq 340, 3) := by decide +kernel
theorem d_Law_law_325 : decode b_Law_law 325 = .ok (.iconst 0, 1) := by decide +kernel
theorem d_Law_law_326 : decode b_Law_law 326 = .ok (.ireturn, 1) := by decide +kernel
theorem d_Law_law_327 : decode b_Law_law 327 = .ok (.aload_n 1, 1) := by decide +kernel
theorem d_Law_law_328 : decode b_Law_law 328 = .ok (.invokevirtual 63, 3) := by decide +kernel
theorem d_Law_law_331 : decode b_Law_law 331 = .ok (.aload_n 2, 1) := by decide +kernel
theorem d_Law_law_332 : decode b_Law_law 332 = .ok (.invokevirtual 66, 3) := by decide +kernel
theorem d_Law_law_335 : decode b_Law_law 335 = .ok (.if_icmp .eq 327, 3) := by decide +kernel
theorem d_Law_law_338 : decode b_Law_law 338 = .ok (.iconst 0, 1) := by decide +kernel
theorem d_Law_law_339 : decode b_Law_law 339 = .ok (.ireturn, 1) := by decide +kernel
theorem d_Law_law_340 : decode b_Law_law 340 = .ok (.aload_n 1, 1) := by decide +kernel
theorem d_Law_law_341 : decode b_Law_law 341 = .ok (.invokevirtual 67, 3) := by decide +kernel
theorem d_Law_law_344 : decode b_Law_law 344 = .ok (.aload_n 2, 1) := by decide +kernel
theorem d_Law_law_345 : decode b_Law_law 345 = .ok (.invokevirtual 70, 3) := by decide +kernel
theorem d_Law_law_348 : decode b_Law_law 348 = .ok (.if_icmp .eq 314, 3) := by decide +kernel
theorem d_Law_law_351 : decode b_Law_law 351 = .ok (.iconst 0, 1) := by decide +kernel
theorem d_Law_law_352 : decode b_Law_law 352 = .ok (.ireturn, 1) := by decide +kernel
theorem d_Law_law_353 : decode b_Law_law 353 = .ok (.aload_n 1, 1) := by decide +kernel
theorem d_Law_law_354 : decode b_Law_law 354 = .ok (.aload_n 0, 1) := by decide +kernel
theorem d_Law_law_355 : decode b_Law_law 355 = .ok (.iload 4, 2) := by decide +kernel
theorem d_Law_law_357 : decode b_Law_law 357 = .ok (.iconst 1, 1) := by decide +kernel
theorem d_Law_law_358 : decode b_Law_law 358 = .ok (.iadd, 1) := by decide +kernel
theorem d_Law_law_359 : decode b_Law_law 359 = .ok (.iaload, 1) := by decide +kernel
theorem d_Law_law_360 : decode b_Law_law 360 = .ok (.aload_n 0, 1) := by decide +kernel
theorem d_Law_law_361 : decode b_Law_law 361 = .ok (.iload 4, 2) := by decide +kernel
theorem d_Law_law_363 : decode b_Law_law 363 = .ok (.iconst 2, 1) := by decide +kernel
theorem d_Law_law_364 : decode b_Law_law 364 = .ok (.iadd, 1) := by decide +kernel
theorem d_Law_law_365 : decode b_Law_law 365 = .ok (.iaload, 1) := by decide +kernel
theorem d_Law_law_366 : decode b_Law_law 366 = .ok (.invokestatic 71, 3) := by decide +kernel
theorem d_Law_law_369 : decode b_Law_law 369 = .ok (.istore 5, 2) := by decide +kernel
theorem d_Law_law_371 : decode b_Law_law 371 = .ok (.aload_n 2, 1) := by decide +kernel
theorem d_Law_law_372 : decode b_Law_law 372 = .ok (.aload_n 0, 1) := by decide +kernel
theorem d_Law_law_373 : decode b_Law_law 373 = .ok (.iload 4, 2) := by decide +kernel
theorem d_Law_law_375 : decode b_Law_law 375 = .ok (.iconst 1, 1) := by decide +kernel
theorem d_Law_law_376 : decode b_Law_law 376 = .ok (.iadd, 1) := by decide +kernel
theorem d_Law_law_377 : decode b_Law_law 377 = .ok (.iaload, 1) := by decide +kernel
theorem d_Law_law_378 : decode b_Law_law 378 = .ok (.aload_n 0, 1) := by decide +kernel
theorem d_Law_law_379 : decode b_Law_law 379 = .ok (.iload 4, 2) := by decide +kernel
theorem d_Law_law_381 : decode b_Law_law 381 = .ok (.iconst 2, 1) := by decide +kernel
theorem d_Law_law_382 : decode b_Law_law 382 = .ok (.iadd, 1) := by decide +kernel
theorem d_Law_law_383 : decode b_Law_law 383 = .ok (.iaload, 1) := by decide +kernel
theorem d_Law_law_384 : decode b_Law_law 384 = .ok (.invokevirtual 74, 3) := by decide +kernel
theorem d_Law_law_387 : decode b_Law_law 387 = .ok (.aload_n 2, 1) := by decide +kernel
theorem d_Law_law_388 : decode b_Law_law 388 = .ok (.invokevirtual 51, 3) := by decide +kernel
theorem d_Law_law_391 : decode b_Law_law 391 = .ok (.iload 5, 2) := by decide +kernel
theorem d_Law_law_393 : decode b_Law_law 393 = .ok (.if_icmp .eq 5, 3) := by decide +kernel
theorem d_Law_law_396 : decode b_Law_law 396 = .ok (.iconst 0, 1) := by decide +kernel
theorem d_Law_law_397 : decode b_Law_law 397 = .ok (.ireturn, 1) := by decide +kernel
theorem d_Law_law_398 : decode b_Law_law 398 = .ok (.goto 264, 3) := by decide +kernel
theorem d_Law_law_401 : decode b_Law_law 401 = .ok (.aload_n 1, 1) := by decide +kernel
theorem d_Law_law_402 : decode b_Law_law 402 = .ok (.aload_n 0, 1) := by decide +kernel
theorem d_Law_law_403 : decode b_Law_law 403 = .ok (.iload 4, 2) := by decide +kernel
theorem d_Law_law_405 : decode b_Law_law 405 = .ok (.iconst 1, 1) := by decide +kernel
theorem d_Law_law_406 : decode b_Law_law 406 = .ok (.iadd, 1) := by decide +kernel
theorem d_Law_law_407 : decode b_Law_law 407 = .ok (.iaload, 1) := by decide +kernel
theorem d_Law_law_408 : decode b_Law_law 408 = .ok (.aload_n 3, 1) := by decide +kernel
theorem d_Law_law_409 : decode b_Law_law 409 = .ok (.invokestatic 75, 3) := by decide +kernel
theorem d_Law_law_412 : decode b_Law_law 412 = .ok (.istore 5, 2) := by decide +kernel
theorem d_Law_law_414 : decode b_Law_law 414 = .ok (.aload_n 2, 1) := by decide +kernel
theorem d_Law_law_415 : decode b_Law_law 415 = .ok (.aload_n 0, 1) := by decide +kernel
theorem d_Law_law_416 : decode b_Law_law 416 = .ok (.iload 4, 2) := by decide +kernel
theorem d_Law_law_418 : decode b_Law_law 418 = .ok (.iconst 1, 1) := by decide +kernel
theorem d_Law_law_419 : decode b_Law_law 419 = .ok (.iadd, 1) := by decide +kernel
theorem d_Law_law_420 : decode b_Law_law 420 = .ok (.iaload, 1) := by decide +kernel
theorem d_Law_law_421 : decode b_Law_law 421 = .ok (.invokevirtual 77, 3) := by decide +kernel
theorem d_Law_law_424 : decode b_Law_law 424 = .ok (.istore 6, 2) := by decide +kernel
theorem d_Law_law_426 : decode b_Law_law 426 = .ok (.aload_n 2, 1) := by decide +kernel
theorem d_Law_law_427 : decode b_Law_law 427 = .ok (.invokevirtual 51, 3) := by decide +kernel
theorem d_Law_law_430 : decode b_Law_law 430 = .ok (.iload 5, 2) := by decide +kernel
theorem d_Law_law_432 : decode b_Law_law 432 = .ok (.if_icmp .eq 5, 3) := by decide +kernel
theorem d_Law_law_435 : decode b_Law_law 435 = .ok (.iconst 0, 1) := by decide +kernel
theorem d_Law_law_436 : decode b_Law_law 436 = .ok (.ireturn, 1) := by decide +kernel
theorem d_Law_law_437 : decode b_Law_law 437 = .ok (.iload 5, 2) := by decide +kernel
theorem d_Law_law_439 : decode b_Law_law 439 = .ok (.ifCond .ne 15, 3) := by decide +kernel
theorem d_Law_law_442 : decode b_Law_law 442 = .ok (.aload_n 3, 1) := by decide +kernel
theorem d_Law_law_443 : decode b_Law_law 443 = .ok (.iconst 0, 1) := by decide +kernel
theorem d_Law_law_444 : decode b_Law_law 444 = .ok (.laload, 1) := by decide +kernel
theorem d_Law_law_445 : decode b_Law_law 445 = .ok (.iload 6, 2) := by decide +kernel
theorem d_Law_law_447 : decode b_Law_law 447 = .ok (.i2l, 1) := by decide +kernel
theorem d_Law_law_448 : decode b_Law_law 448 = .ok (.lcmp, 1) := by decide +kernel
theorem d_Law_law_449 : decode b_Law_law 449 = .ok (.ifCond .eq 5, 3) := by decide +kernel
theorem d_Law_law_452 : decode b_Law_law 452 = .ok (.iconst 0, 1) := by decide +kernel
theorem d_Law_law_453 : decode b_Law_law 453 = .ok (.ireturn, 1) := by decide +kernel
theorem d_Law_law_454 : decode b_Law_law 454 = .ok (.goto 208, 3) := by decide +kernel
theorem d_Law_law_457 : decode b_Law_law 457 = .ok (.aload_n 1, 1) := by decide +kernel
theorem d_Law_law_458 : decode b_Law_law 458 = .ok (.aload_n 0, 1) := by decide +kernel
theorem d_Law_law_459 : decode b_Law_law 459 = .ok (.iload 4, 2) := by decide +kernel
theorem d_Law_law_461 : decode b_Law_law 461 = .ok (.iconst 1, 1) := by decide +kernel
theorem d_Law_law_462 : decode b_Law_law 462 = .ok (.iadd, 1) := by decide +kernel
theorem d_Law_law_463 : decode b_Law_law 463 = .ok (.iaload, 1) := by decide +kernel
theorem d_Law_law_464 : decode b_Law_law 464 = .ok (.aload_n 3, 1) := by decide +kernel
theorem d_Law_law_465 : decode b_Law_law 465 = .ok (.invokestatic 78, 3) := by decide +kernel
theorem d_Law_law_468 : decode b_Law_law 468 = .ok (.istore 5, 2) := by decide +kernel
theorem d_Law_law_470 : decode b_Law_law 470 = .ok (.aload_n 2, 1) := by decide +kernel
theorem d_Law_law_471 : decode b_Law_law 471 = .ok (.aload_n 0, 1) := by decide +kernel
theorem d_Law_law_472 : decode b_Law_law 472 = .ok (.iload 4, 2) := by decide +kernel
theorem d_Law_law_474 : decode b_Law_law 474 = .ok (.iconst 1, 1) := by decide +kernel
theorem d_Law_law_475 : decode b_Law_law 475 = .ok (.iadd, 1) := by decide +kernel
theorem d_Law_law_476 : decode b_Law_law 476 = .ok (.iaload, 1) := by decide +kernel
theorem d_Law_law_477 : decode b_Law_law 477 = .ok (.invokevirtual 80, 3) := by decide +kernel
theorem d_Law_law_480 : decode b_Law_law 480 = .ok (.istore 6, 2) := by decide +kernel
theorem d_Law_law_482 : decode b_Law_law 482 = .ok (.aload_n 2, 1) := by decide +kernel
theorem d_Law_law_483 : decode b_Law_law 483 = .ok (.invokevirtual 51, 3) := by decide +kernel
theorem d_Law_law_486 : decode b_Law_law 486 = .ok (.iload 5, 2) := by decide +kernel
theorem d_Law_law_488 : decode b_Law_law 488 = .ok (.if_icmp .eq 5, 3) := by decide +kernel
theorem d_Law_law_491 : decode b_Law_law 491 = .ok (.iconst 0, 1) := by decide +kernel
theorem d_Law_law_492 : decode b_Law_law 492 = .ok (.ireturn, 1) := by decide +kernel
theorem d_Law_law_493 : decode b_Law_law 493 = .ok (.iload 5, 2) := by decide +kernel
theorem d_Law_law_495 : decode b_Law_law 495 = .ok (.ifCond .ne 15, 3) := by decide +kernel
theorem d_Law_law_498 : decode b_Law_law 498 = .ok (.aload_n 3, 1) := by decide +kernel
theorem d_Law_law_499 : decode b_Law_law 499 = .ok (.iconst 0, 1) := by decide +kernel
theorem d_Law_law_500 : decode b_Law_law 500 = .ok (.laload, 1) := by decide +kernel
theorem d_Law_law_501 : decode b_Law_law 501 = .ok (.iload 6, 2) := by decide +kernel
theorem d_Law_law_503 : decode b_Law_law 503 = .ok (.i2l, 1) := by decide +kernel
theorem d_Law_law_504 : decode b_Law_law 504 = .ok (.lcmp, 1) := by decide +kernel
theorem d_Law_law_505 : decode b_Law_law 505 = .ok (.ifCond .eq 5, 3) := by decide +kernel
theorem d_Law_law_508 : decode b_Law_law 508 = .ok (.iconst 0, 1) := by decide +kernel
theorem d_Law_law_509 : decode b_Law_law 509 = .ok (.ireturn, 1) := by decide +kernel
theorem d_Law_law_510 : decode b_Law_law 510 = .ok (.goto 152, 3) := by decide +kernel
theorem d_Law_law_513 : decode b_Law_law 513 = .ok (.aload_n 1, 1) := by decide +kernel
theorem d_Law_law_514 : decode b_Law_law 514 = .ok (.aload_n 0, 1) := by decide +kernel
theorem d_Law_law_515 : decode b_Law_law 515 = .ok (.iload 4, 2) := by decide +kernel
theorem d_Law_law_517 : decode b_Law_law 517 = .ok (.iconst 1, 1) := by decide +kernel
theorem d_Law_law_518 : decode b_Law_law 518 = .ok (.iadd, 1) := by decide +kernel
theorem d_Law_law_519 : decode b_Law_law 519 = .ok (.iaload, 1) := by decide +kernel
theorem d_Law_law_520 : decode b_Law_law 520 = .ok (.aload_n 0, 1) := by decide +kernel
theorem d_Law_law_521 : decode b_Law_law 521 = .ok (.iload 4, 2) := by decide +kernel
theorem d_Law_law_523 : decode b_Law_law 523 = .ok (.iconst 2, 1) := by decide +kernel
theorem d_Law_law_524 : decode b_Law_law 524 = .ok (.iadd, 1) := by decide +kernel
theorem d_Law_law_525 : decode b_Law_law 525 = .ok (.iaload, 1) := by decide +kernel
theorem d_Law_law_526 : decode b_Law_law 526 = .ok (.aload_n 3, 1) := by decide +kernel
theorem d_Law_law_527 : decode b_Law_law 527 = .ok (.invokestatic 81, 3) := by decide +kernel
theorem d_Law_law_530 : decode b_Law_law 530 = .ok (.istore 5, 2) := by decide +kernel
theorem d_Law_law_532 : decode b_Law_law 532 = .ok (.aload_n 2, 1) := by decide +kernel
theorem d_Law_law_533 : decode b_Law_law 533 = .ok (.aload_n 0, 1) := by decide +kernel
theorem d_Law_law_534 : decode b_Law_law 534 = .ok (.iload 4, 2) := by decide +kernel
theorem d_Law_law_536 : decode b_Law_law 536 = .ok (.iconst 1, 1) := by decide +kernel
theorem d_Law_law_537 : decode b_Law_law 537 = .ok (.iadd, 1) := by decide +kernel
theorem d_Law_law_538 : decode b_Law_law 538 = .ok (.iaload, 1) := by decide +kernel
theorem d_Law_law_539 : decode b_Law_law 539 = .ok (.aload_n 0, 1) := by decide +kernel
theorem d_Law_law_540 : decode b_Law_law 540 = .ok (.iload 4, 2) := by decide +kernel
theorem d_Law_law_542 : decode b_Law_law 542 = .ok (.iconst 2, 1) := by decide +kernel
theorem d_Law_law_543 : decode b_Law_law 543 = .ok (.iadd, 1) := by decide +kernel
theorem d_Law_law_544 : decode b_Law_law 544 = .ok (.iaload, 1) := by decide +kernel
theorem d_Law_law_545 : decode b_Law_law 545 = .ok (.invokevirtual 84, 3) := by decide +kernel
theorem d_Law_law_548 : decode b_Law_law 548 = .ok (.lstore 6, 2) := by decide +kernel
theorem d_Law_law_550 : decode b_Law_law 550 = .ok (.aload_n 2, 1) := by decide +kernel
theorem d_Law_law_551 : decode b_Law_law 551 = .ok (.invokevirtual 51, 3) := by decide +kernel
theorem d_Law_law_554 : decode b_Law_law 554 = .ok (.iload 5, 2) := by decide +kernel
theorem d_Law_law_556 : decode b_Law_law 556 = .ok (.if_icmp .eq 5, 3) := by decide +kernel
theorem d_Law_law_559 : decode b_Law_law 559 = .ok (.iconst 0, 1) := by decide +kernel
theorem d_Law_law_560 : decode b_Law_law 560 = .ok (.ireturn, 1) := by decide +kernel
theorem d_Law_law_561 : decode b_Law_law 561 = .ok (.iload 5, 2) := by decide +kernel
theorem d_Law_law_563 : decode b_Law_law 563 = .ok (.ifCond .ne 14, 3) := by decide +kernel
theorem d_Law_law_566 : decode b_Law_law 566 = .ok (.aload_n 3, 1) := by decide +kernel
theorem d_Law_law_567 : decode b_Law_law 567 = .ok (.iconst 0, 1) := by decide +kernel
theorem d_Law_law_568 : decode b_Law_law 568 = .ok (.laload, 1) := by decide +kernel
theorem d_Law_law_569 : decode b_Law_law 569 = .ok (.lload 6, 2) := by decide +kernel
theorem d_Law_law_571 : decode b_Law_law 571 = .ok (.lcmp, 1) := by decide +kernel
theorem d_Law_law_572 : decode b_Law_law 572 = .ok (.ifCond .eq 5, 3) := by decide +kernel
theorem d_Law_law_575 : decode b_Law_law 575 = .ok (.iconst 0, 1) := by decide +kernel
theorem d_Law_law_576 : decode b_Law_law 576 = .ok (.ireturn, 1) := by decide +kernel
theorem d_Law_law_577 : decode b_Law_law 577 = .ok (.goto 85, 3) := by decide +kernel
theorem d_Law_law_580 : decode b_Law_law 580 = .ok (.aload_n 1, 1) := by decide +kernel
theorem d_Law_law_581 : decode b_Law_law 581 = .ok (.aload_n 0, 1) := by decide +kernel
theorem d_Law_law_582 : decode b_Law_law 582 = .ok (.iload 4, 2) := by decide +kernel
theorem d_Law_law_584 : decode b_Law_law 584 = .ok (.iconst 1, 1) := by decide +kernel
theorem d_Law_law_585 : decode b_Law_law 585 = .ok (.iadd, 1) := by decide +kernel
theorem d_Law_law_586 : decode b_Law_law 586 = .ok (.iaload, 1) := by decide +kernel
theorem d_Law_law_587 : decode b_Law_law 587 = .ok (.i2l, 1) := by decide +kernel
theorem d_Law_law_588 : decode b_Law_law 588 = .ok (.bipush 32, 2) := by decide +kernel
theorem d_Law_law_590 : decode b_Law_law 590 = .ok (.lshl, 1) := by decide +kernel
theorem d_Law_law_591 : decode b_Law_law 591 = .ok (.aload_n 0, 1) := by decide +kernel
theorem d_Law_law_592 : decode b_Law_law 592 = .ok (.iload 4, 2) := by decide +kernel
theorem d_Law_law_594 : decode b_Law_law 594 = .ok (.iconst 2, 1) := by decide +kernel
theorem d_Law_law_595 : decode b_Law_law 595 = .ok (.iadd, 1) := by decide +kernel
theorem d_Law_law_596 : decode b_Law_law 596 = .ok (.iaload, 1) := by decide +kernel
theorem d_Law_law_597 : decode b_Law_law 597 = .ok (.i2l, 1) := by decide +kernel
theorem d_Law_law_598 : decode b_Law_law 598 = .ok (.ldc2_w 43, 3) := by decide +kernel
theorem d_Law_law_601 : decode b_Law_law 601 = .ok (.land, 1) := by decide +kernel
theorem d_Law_law_602 : decode b_Law_law 602 = .ok (.lor, 1) := by decide +kernel
theorem d_Law_law_603 : decode b_Law_law 603 = .ok (.invokevirtual 85, 3) := by decide +kernel
theorem d_Law_law_606 : decode b_Law_law 606 = .ok (.aload_n 2, 1) := by decide +kernel
theorem d_Law_law_607 : decode b_Law_law 607 = .ok (.aload_n 0, 1) := by decide +kernel
theorem d_Law_law_608 : decode b_Law_law 608 = .ok (.iload 4, 2) := by decide +kernel
theorem d_Law_law_610 : decode b_Law_law 610 = .ok (.iconst 1, 1) := by decide +kernel
theorem d_Law_law_611 : decode b_Law_law 611 = .ok (.iadd, 1) := by decide +kernel
theorem d_Law_law_612 : decode b_Law_law 612 = .ok (.iaload, 1) := by decide +kernel
theorem d_Law_law_613 : decode b_Law_law 613 = .ok (.i2l, 1) := by decide +kernel
theorem d_Law_law_614 : decode b_Law_law 614 = .ok (.bipush 32, 2) := by decide +kernel
theorem d_Law_law_616 : decode b_Law_law 616 = .ok (.lshl, 1) := by decide +kernel
theorem d_Law_law_617 : decode b_Law_law 617 = .ok (.aload_n 0, 1) := by decide +kernel
theorem d_Law_law_618 : decode b_Law_law 618 = .ok (.iload 4, 2) := by decide +kernel
theorem d_Law_law_620 : decode b_Law_law 620 = .ok (.iconst 2, 1) := by decide +kernel
theorem d_Law_law_621 : decode b_Law_law 621 = .ok (.iadd, 1) := by decide +kernel
theorem d_Law_law_622 : decode b_Law_law 622 = .ok (.iaload, 1) := by decide +kernel
theorem d_Law_law_623 : decode b_Law_law 623 = .ok (.i2l, 1) := by decide +kernel
theorem d_Law_law_624 : decode b_Law_law 624 = .ok (.ldc2_w 43, 3) := by decide +kernel
theorem d_Law_law_627 : decode b_Law_law 627 = .ok (.land, 1) := by decide +kernel
theorem d_Law_law_628 : decode b_Law_law 628 = .ok (.lor, 1) := by decide +kernel
theorem d_Law_law_629 : decode b_Law_law 629 = .ok (.invokevirtual 89, 3) := by decide +kernel
theorem d_Law_law_632 : decode b_Law_law 632 = .ok (.if_icmp .eq 30, 3) := by decide +kernel
theorem d_Law_law_635 : decode b_Law_law 635 = .ok (.iconst 0, 1) := by decide +kernel
theorem d_Law_law_636 : decode b_Law_law 636 = .ok (.ireturn, 1) := by decide +kernel
theorem d_Law_law_637 : decode b_Law_law 637 = .ok (.aload_n 1, 1) := by decide +kernel
theorem d_Law_law_638 : decode b_Law_law 638 = .ok (.aload_n 0, 1) := by decide +kernel
theorem d_Law_law_639 : decode b_Law_law 639 = .ok (.iload 4, 2) := by decide +kernel
theorem d_Law_law_641 : decode b_Law_law 641 = .ok (.iconst 1, 1) := by decide +kernel
theorem d_Law_law_642 : decode b_Law_law 642 = .ok (.iadd, 1) := by decide +kernel
theorem d_Law_law_643 : decode b_Law_law 643 = .ok (.iaload, 1) := by decide +kernel
theorem d_Law_law_644 : decode b_Law_law 644 = .ok (.invokevirtual 90, 3) := by decide +kernel
theorem d_Law_law_647 : decode b_Law_law 647 = .ok (.aload_n 2, 1) := by decide +kernel
theorem d_Law_law_648 : decode b_Law_law 648 = .ok (.aload_n 0, 1) := by decide +kernel
theorem d_Law_law_649 : decode b_Law_law 649 = .ok (.iload 4, 2) := by decide +kernel
theorem d_Law_law_651 : decode b_Law_law 651 = .ok (.iconst 1, 1) := by decide +kernel
theorem d_Law_law_652 : decode b_Law_law 652 = .ok (.iadd, 1) := by decide +kernel
theorem d_Law_law_653 : decode b_Law_law 653 = .ok (.iaload, 1) := by decide +kernel
theorem d_Law_law_654 : decode b_Law_law 654 = .ok (.invokevirtual 93, 3) := by decide +kernel
theorem d_Law_law_657 : decode b_Law_law 657 = .ok (.if_icmp .eq 5, 3) := by decide +kernel
theorem d_Law_law_660 : decode b_Law_law 660 = .ok (.iconst 0, 1) := by decide +kernel
theorem d_Law_law_661 : decode b_Law_law 661 = .ok (.ireturn, 1) := by decide +kernel
theorem d_Law_law_662 : decode b_Law_law 662 = .ok (.iinc 4 7, 3) := by decide +kernel
theorem d_Law_law_665 : decode b_Law_law 665 = .ok (.goto (-642), 3) := by decide +kernel
theorem d_Law_law_668 : decode b_Law_law 668 = .ok (.iconst 1, 1) := by decide +kernel
theorem d_Law_law_669 : decode b_Law_law 669 = .ok (.ireturn, 1) := by decide +kernel
theorem wd_0 : Cond.initialized "EventLogLaw" ∈ U0 := mU (List.mem_append_right _ (List.mem_of_getElem? (i := 0) (by decide +kernel))) (by decide +kernel)
theorem wd_15 : Cond.classLink "EventLogLaw" 8 "EventLog" ∈ U0 := mU (List.mem_append_right _ (List.mem_of_getElem? (i := 15) (by decide +kernel))) (by decide +kernel)
theorem wd_16 : Cond.instantiable "EventLog" 5 ∈ U0 := mU (List.mem_append_right _ (List.mem_of_getElem? (i := 16) (by decide +kernel))) (by decide +kernel)
theorem wd_17 : Cond.methodLink "EventLogLaw" 39 ⟨"EventLog", "<init>", "()V"⟩ ∈ U0 := mU (List.mem_append_right _ (List.mem_of_getElem? (i := 17) (by decide +kernel))) (by decide +kernel)
theorem wd_18 : Cond.instanceMethod ⟨"EventLog", "<init>", "()V"⟩ ∈ U0 := mU (List.mem_append_right _ (List.mem_of_getElem? (i := 18) (by decide +kernel))) (by decide +kernel)
theorem wd_19 : Cond.code ⟨"EventLog", "<init>", "()V"⟩ prog_1_method_1_code 2 none ∈ U0 := mU (List.mem_append_right _ (List.mem_of_getElem? (i := 19) (by decide +kernel))) (by decide +kernel)
theorem wd_147 : Cond.methodLink "EventLogLaw" 59 ⟨"EventLog", "pack", "()I"⟩ ∈ U0 := mU (List.mem_append_right _ (List.mem_of_getElem? (i := 147) (by decide +kernel))) (by decide +kernel)
theorem wd_148 : Cond.instanceMethod ⟨"EventLog", "pack", "()I"⟩ ∈ U0 := mU (List.mem_append_right _ (List.mem_of_getElem? (i := 148) (by decide +kernel))) (by decide +kernel)
theorem wd_149 : Cond.selects "EventLog" ⟨"EventLog", "pack", "()I"⟩ ⟨"EventLog", "pack", "()I"⟩ ∈ U0 := mU (List.mem_append_right _ (List.mem_of_getElem? (i := 149) (by decide +kernel))) (by decide +kernel)
theorem wd_150 : Cond.code ⟨"EventLog", "pack", "()I"⟩ prog_1_method_4_code 1 (some FieldType.int) ∈ U0 := mU (List.mem_append_right _ (List.mem_of_getElem? (i := 150) (by decide +kernel))) (by decide +kernel)
theorem wd_260 : Cond.methodLink "EventLogLaw" 63 ⟨"EventLog", "size", "()I"⟩ ∈ U0 := mU (List.mem_append_right _ (List.mem_of_getElem? (i := 260) (by decide +kernel))) (by decide +kernel)
theorem wd_261 : Cond.instanceMethod ⟨"EventLog", "size", "()I"⟩ ∈ U0 := mU (List.mem_append_right _ (List.mem_of_getElem? (i := 261) (by decide +kernel))) (by decide +kernel)
theorem wd_262 : Cond.selects "EventLog" ⟨"EventLog", "size", "()I"⟩ ⟨"EventLog", "size", "()I"⟩ ∈ U0 := mU (List.mem_append_right _ (List.mem_of_getElem? (i := 262) (by decide +kernel))) (by decide +kernel)
theorem wd_263 : Cond.code ⟨"EventLog", "size", "()I"⟩ prog_1_method_5_code 1 (some FieldType.int) ∈ U0 := mU (List.mem_append_right _ (List.mem_of_getElem? (i := 263) (by decide +kernel))) (by decide +kernel)
theorem wd_264 : Cond.methodLink "EventLogLaw" 67 ⟨"EventLog", "read", "()I"⟩ ∈ U0 := mU (List.mem_append_right _ (List.mem_of_getElem? (i := 264) (by decide +kernel))) (by decide +kernel)
theorem wd_265 : Cond.instanceMethod ⟨"EventLog", "read", "()I"⟩ ∈ U0 := mU (List.mem_append_right _ (List.mem_of_getElem? (i := 265) (by decide +kernel))) (by decide +kernel)
theorem wd_266 : Cond.selects "EventLog" ⟨"EventLog", "read", "()I"⟩ ⟨"EventLog", "read", "()I"⟩ ∈ U0 := mU (List.mem_append_right _ (List.mem_of_getElem? (i := 266) (by decide +kernel))) (by decide +kernel)
theorem wd_267 : Cond.code ⟨"EventLog", "read", "()I"⟩ prog_1_method_6_code 3 (some FieldType.int) ∈ U0 := mU (List.mem_append_right _ (List.mem_of_getElem? (i := 267) (by decide +kernel))) (by decide +kernel)
theorem wd_357 : Cond.methodLink "EventLogLaw" 85 ⟨"EventLog", "at", "(J)I"⟩ ∈ U0 := mU (List.mem_append_right _ (List.mem_of_getElem? (i := 357) (by decide +kernel))) (by decide +kernel)
theorem wd_358 : Cond.instanceMethod ⟨"EventLog", "at", "(J)I"⟩ ∈ U0 := mU (List.mem_append_right _ (List.mem_of_getElem? (i := 358) (by decide +kernel))) (by decide +kernel)
theorem wd_359 : Cond.selects "EventLog" ⟨"EventLog", "at", "(J)I"⟩ ⟨"EventLog", "at", "(J)I"⟩ ∈ U0 := mU (List.mem_append_right _ (List.mem_of_getElem? (i := 359) (by decide +kernel))) (by decide +kernel)
theorem wd_360 : Cond.code ⟨"EventLog", "at", "(J)I"⟩ prog_1_method_11_code 3 (some FieldType.int) ∈ U0 := mU (List.mem_append_right _ (List.mem_of_getElem? (i := 360) (by decide +kernel))) (by decide +kernel)
theorem wd_365 : Cond.methodLink "EventLogLaw" 90 ⟨"EventLog", "count", "(I)I"⟩ ∈ U0 := mU (List.mem_append_right _ (List.mem_of_getElem? (i := 365) (by decide +kernel))) (by decide +kernel)
theorem wd_366 : Cond.instanceMethod ⟨"EventLog", "count", "(I)I"⟩ ∈ U0 := mU (List.mem_append_right _ (List.mem_of_getElem? (i := 366) (by decide +kernel))) (by decide +kernel)
theorem wd_367 : Cond.selects "EventLog" ⟨"EventLog", "count", "(I)I"⟩ ⟨"EventLog", "count", "(I)I"⟩ ∈ U0 := mU (List.mem_append_right _ (List.mem_of_getElem? (i := 367) (by decide +kernel))) (by decide +kernel)
theorem wd_368 : Cond.code ⟨"EventLog", "count", "(I)I"⟩ prog_1_method_12_code 2 (some FieldType.int) ∈ U0 := mU (List.mem_append_right _ (List.mem_of_getElem? (i := 368) (by decide +kernel))) (by decide +kernel)
theorem wd_387 : Cond.methodLink "EventLogLaw" 45 ⟨"EventLogLaw", "add", "(LEventLog;IJJI[J)I"⟩ ∈ U0 := mU (List.mem_append_right _ (List.mem_of_getElem? (i := 387) (by decide +kernel))) (by decide +kernel)
theorem wd_388 : Cond.static ⟨"EventLogLaw", "add", "(LEventLog;IJJI[J)I"⟩ ∈ U0 := mU (List.mem_append_right _ (List.mem_of_getElem? (i := 388) (by decide +kernel))) (by decide +kernel)
theorem wd_389 : Cond.codeWith ⟨"EventLogLaw", "add", "(LEventLog;IJJI[J)I"⟩ method_3_code 9 (some FieldType.int) [(0, 15, 18, 13), (0, 15, 22, 15)] ∈ U0 := mU (List.mem_append_right _ (List.mem_of_getElem? (i := 389) (by decide +kernel))) (by decide +kernel)
theorem wd_390 : Cond.classLink "EventLogLaw" 13 "java/lang/IllegalArgumentException" ∈ U0 := mU (List.mem_append_right _ (List.mem_of_getElem? (i := 390) (by decide +kernel))) (by decide +kernel)
theorem wd_391 : Cond.classLink "EventLogLaw" 15 "java/lang/IllegalStateException" ∈ U0 := mU (List.mem_append_right _ (List.mem_of_getElem? (i := 391) (by decide +kernel))) (by decide +kernel)
theorem wd_392 : Cond.methodLink "EventLogLaw" 7 ⟨"EventLog", "add", "(IJJI)I"⟩ ∈ U0 := mU (List.mem_append_right _ (List.mem_of_getElem? (i := 392) (by decide +kernel))) (by decide +kernel)
theorem wd_393 : Cond.instanceMethod ⟨"EventLog", "add", "(IJJI)I"⟩ ∈ U0 := mU (List.mem_append_right _ (List.mem_of_getElem? (i := 393) (by decide +kernel))) (by decide +kernel)
theorem wd_394 : Cond.selects "EventLog" ⟨"EventLog", "add", "(IJJI)I"⟩ ⟨"EventLog", "add", "(IJJI)I"⟩ ∈ U0 := mU (List.mem_append_right _ (List.mem_of_getElem? (i := 394) (by decide +kernel))) (by decide +kernel)
theorem wd_395 : Cond.code ⟨"EventLog", "add", "(IJJI)I"⟩ prog_1_method_2_code 7 (some FieldType.int) ∈ U0 := mU (List.mem_append_right _ (List.mem_of_getElem? (i := 395) (by decide +kernel))) (by decide +kernel)
theorem wd_498 : Cond.methodLink "EventLogLaw" 55 ⟨"EventLogLaw", "drop", "(LEventLog;I[J)I"⟩ ∈ U0 := mU (List.mem_append_right _ (List.mem_of_getElem? (i := 498) (by decide +kernel))) (by decide +kernel)
theorem wd_499 : Cond.static ⟨"EventLogLaw", "drop", "(LEventLog;I[J)I"⟩ ∈ U0 := mU (List.mem_append_right _ (List.mem_of_getElem? (i := 499) (by decide +kernel))) (by decide +kernel)
theorem wd_500 : Cond.codeWith ⟨"EventLogLaw", "drop", "(LEventLog;I[J)I"⟩ method_4_code 4 (some FieldType.int) [(0, 9, 12, 13)] ∈ U0 := mU (List.mem_append_right _ (List.mem_of_getElem? (i := 500) (by decide +kernel))) (by decide +kernel)
theorem wd_501 : Cond.methodLink "EventLogLaw" 17 ⟨"EventLog", "drop", "(I)I"⟩ ∈ U0 := mU (List.mem_append_right _ (List.mem_of_getElem? (i := 501) (by decide +kernel))) (by decide +kernel)
theorem wd_502 : Cond.instanceMethod ⟨"EventLog", "drop", "(I)I"⟩ ∈ U0 := mU (List.mem_append_right _ (List.mem_of_getElem? (i := 502) (by decide +kernel))) (by decide +kernel)
theorem wd_503 : Cond.selects "EventLog" ⟨"EventLog", "drop", "(I)I"⟩ ⟨"EventLog", "drop", "(I)I"⟩ ∈ U0 := mU (List.mem_append_right _ (List.mem_of_getElem? (i := 503) (by decide +kernel))) (by decide +kernel)
theorem wd_504 : Cond.code ⟨"EventLog", "drop", "(I)I"⟩ prog_1_method_3_code 3 (some FieldType.int) ∈ U0 := mU (List.mem_append_right _ (List.mem_of_getElem? (i := 504) (by decide +kernel))) (by decide +kernel)
theorem wd_507 : Cond.methodLink "EventLogLaw" 71 ⟨"EventLogLaw", "poke", "(LEventLog;II)I"⟩ ∈ U0 := mU (List.mem_append_right _ (List.mem_of_getElem? (i := 507) (by decide +kernel))) (by decide +kernel)
theorem wd_508 : Cond.static ⟨"EventLogLaw", "poke", "(LEventLog;II)I"⟩ ∈ U0 := mU (List.mem_append_right _ (List.mem_of_getElem? (i := 508) (by decide +kernel))) (by decide +kernel)
theorem wd_509 : Cond.codeWith ⟨"EventLogLaw", "poke", "(LEventLog;II)I"⟩ method_5_code 4 (some FieldType.int) [(0, 6, 9, 13), (0, 6, 12, 25), (0, 6, 15, 15)] ∈ U0 := mU (List.mem_append_right _ (List.mem_of_getElem? (i := 509) (by decide +kernel))) (by decide +kernel)
theorem wd_510 : Cond.classLink "EventLogLaw" 25 "java/lang/IndexOutOfBoundsException" ∈ U0 := mU (List.mem_append_right _ (List.mem_of_getElem? (i := 510) (by decide +kernel))) (by decide +kernel)
theorem wd_511 : Cond.methodLink "EventLogLaw" 21 ⟨"EventLog", "poke", "(II)V"⟩ ∈ U0 := mU (List.mem_append_right _ (List.mem_of_getElem? (i := 511) (by decide +kernel))) (by decide +kernel)
theorem wd_512 : Cond.instanceMethod ⟨"EventLog", "poke", "(II)V"⟩ ∈ U0 := mU (List.mem_append_right _ (List.mem_of_getElem? (i := 512) (by decide +kernel))) (by decide +kernel)
theorem wd_513 : Cond.selects "EventLog" ⟨"EventLog", "poke", "(II)V"⟩ ⟨"EventLog", "poke", "(II)V"⟩ ∈ U0 := mU (List.mem_append_right _ (List.mem_of_getElem? (i := 513) (by decide +kernel))) (by decide +kernel)
theorem wd_514 : Cond.code ⟨"EventLog", "poke", "(II)V"⟩ prog_1_method_7_code 3 none ∈ U0 := mU (List.mem_append_right _ (List.mem_of_getElem? (i := 514) (by decide +kernel))) (by decide +kernel)
theorem wd_538 : Cond.methodLink "EventLogLaw" 75 ⟨"EventLogLaw", "cut", "(LEventLog;I[J)I"⟩ ∈ U0 := mU (List.mem_append_right _ (List.mem_of_getElem? (i := 538) (by decide +kernel))) (by decide +kernel)
theorem wd_539 : Cond.static ⟨"EventLogLaw", "cut", "(LEventLog;I[J)I"⟩ ∈ U0 := mU (List.mem_append_right _ (List.mem_of_getElem? (i := 539) (by decide +kernel))) (by decide +kernel)
theorem wd_540 : Cond.codeWith ⟨"EventLogLaw", "cut", "(LEventLog;I[J)I"⟩ method_6_code 4 (some FieldType.int) [(0, 9, 12, 25)] ∈ U0 := mU (List.mem_append_right _ (List.mem_of_getElem? (i := 540) (by decide +kernel))) (by decide +kernel)
theorem wd_541 : Cond.methodLink "EventLogLaw" 27 ⟨"EventLog", "cut", "(I)I"⟩ ∈ U0 := mU (List.mem_append_right _ (List.mem_of_getElem? (i := 541) (by decide +kernel))) (by decide +kernel)
theorem wd_542 : Cond.instanceMethod ⟨"EventLog", "cut", "(I)I"⟩ ∈ U0 := mU (List.mem_append_right _ (List.mem_of_getElem? (i := 542) (by decide +kernel))) (by decide +kernel)
theorem wd_543 : Cond.selects "EventLog" ⟨"EventLog", "cut", "(I)I"⟩ ⟨"EventLog", "cut", "(I)I"⟩ ∈ U0 := mU (List.mem_append_right _ (List.mem_of_getElem? (i := 543) (by decide +kernel))) (by decide +kernel)
theorem wd_544 : Cond.code ⟨"EventLog", "cut", "(I)I"⟩ prog_1_method_8_code 3 (some FieldType.int) ∈ U0 := mU (List.mem_append_right _ (List.mem_of_getElem? (i := 544) (by decide +kernel))) (by decide +kernel)
theorem wd_547 : Cond.methodLink "EventLogLaw" 78 ⟨"EventLogLaw", "byteAt", "(LEventLog;I[J)I"⟩ ∈ U0 := mU (List.mem_append_right _ (List.mem_of_getElem? (i := 547) (by decide +kernel))) (by decide +kernel)
theorem wd_548 : Cond.static ⟨"EventLogLaw", "byteAt", "(LEventLog;I[J)I"⟩ ∈ U0 := mU (List.mem_append_right _ (List.mem_of_getElem? (i := 548) (by decide +kernel))) (by decide +kernel)
theorem wd_549 : Cond.codeWith ⟨"EventLogLaw", "byteAt", "(LEventLog;I[J)I"⟩ method_7_code 4 (some FieldType.int) [(0, 9, 12, 25)] ∈ U0 := mU (List.mem_append_right _ (List.mem_of_getElem? (i := 549) (by decide +kernel))) (by decide +kernel)
theorem wd_550 : Cond.methodLink "EventLogLaw" 30 ⟨"EventLog", "byteAt", "(I)I"⟩ ∈ U0 := mU (List.mem_append_right _ (List.mem_of_getElem? (i := 550) (by decide +kernel))) (by decide +kernel)
theorem wd_551 : Cond.instanceMethod ⟨"EventLog", "byteAt", "(I)I"⟩ ∈ U0 := mU (List.mem_append_right _ (List.mem_of_getElem? (i := 551) (by decide +kernel))) (by decide +kernel)
theorem wd_552 : Cond.selects "EventLog" ⟨"EventLog", "byteAt", "(I)I"⟩ ⟨"EventLog", "byteAt", "(I)I"⟩ ∈ U0 := mU (List.mem_append_right _ (List.mem_of_getElem? (i := 552) (by decide +kernel))) (by decide +kernel)
theorem wd_553 : Cond.code ⟨"EventLog", "byteAt", "(I)I"⟩ prog_1_method_9_code 2 (some FieldType.int) ∈ U0 := mU (List.mem_append_right _ (List.mem_of_getElem? (i := 553) (by decide +kernel))) (by decide +kernel)
theorem wd_556 : Cond.methodLink "EventLogLaw" 81 ⟨"EventLogLaw", "event", "(LEventLog;II[J)I"⟩ ∈ U0 := mU (List.mem_append_right _ (List.mem_of_getElem? (i := 556) (by decide +kernel))) (by decide +kernel)
theorem wd_557 : Cond.static ⟨"EventLogLaw", "event", "(LEventLog;II[J)I"⟩ ∈ U0 := mU (List.mem_append_right _ (List.mem_of_getElem? (i := 557) (by decide +kernel))) (by decide +kernel)
theorem wd_558 : Cond.codeWith ⟨"EventLogLaw", "event", "(LEventLog;II[J)I"⟩ method_8_code 5 (some FieldType.int) [(0, 9, 12, 37), (0, 9, 16, 13)] ∈ U0 := mU (List.mem_append_right _ (List.mem_of_getElem? (i := 558) (by decide +kernel))) (by decide +kernel)
theorem wd_559 : Cond.classLink "EventLogLaw" 37 "java/util/NoSuchElementException" ∈ U0 := mU (List.mem_append_right _ (List.mem_of_getElem? (i := 559) (by decide +kernel))) (by decide +kernel)
theorem wd_560 : Cond.methodLink "EventLogLaw" 33 ⟨"EventLog", "event", "(II)J"⟩ ∈ U0 := mU (List.mem_append_right _ (List.mem_of_getElem? (i := 560) (by decide +kernel))) (by decide +kernel)
theorem wd_561 : Cond.instanceMethod ⟨"EventLog", "event", "(II)J"⟩ ∈ U0 := mU (List.mem_append_right _ (List.mem_of_getElem? (i := 561) (by decide +kernel))) (by decide +kernel)
theorem wd_562 : Cond.selects "EventLog" ⟨"EventLog", "event", "(II)J"⟩ ⟨"EventLog", "event", "(II)J"⟩ ∈ U0 := mU (List.mem_append_right _ (List.mem_of_getElem? (i := 562) (by decide +kernel))) (by decide +kernel)
theorem wd_563 : Cond.code ⟨"EventLog", "event", "(II)J"⟩ prog_1_method_10_code 3 (some FieldType.long) ∈ U0 := mU (List.mem_append_right _ (List.mem_of_getElem? (i := 563) (by decide +kernel))) (by decide +kernel)
theorem wd_590 : Cond.classLink "EventLogLaw" 40 "EventLogModel" ∈ U0 := mU (List.mem_append_right _ (List.mem_of_getElem? (i := 590) (by decide +kernel))) (by decide +kernel)
theorem wd_591 : Cond.instantiable "EventLogModel" 21 ∈ U0 := mU (List.mem_append_right _ (List.mem_of_getElem? (i := 591) (by decide +kernel))) (by decide +kernel)
theorem wd_592 : Cond.methodLink "EventLogLaw" 42 ⟨"EventLogModel", "<init>", "()V"⟩ ∈ U0 := mU (List.mem_append_right _ (List.mem_of_getElem? (i := 592) (by decide +kernel))) (by decide +kernel)
theorem wd_593 : Cond.instanceMethod ⟨"EventLogModel", "<init>", "()V"⟩ ∈ U0 := mU (List.mem_append_right _ (List.mem_of_getElem? (i := 593) (by decide +kernel))) (by decide +kernel)
theorem wd_594 : Cond.code ⟨"EventLogModel", "<init>", "()V"⟩ prog_8_method_1_code 1 none ∈ U0 := mU (List.mem_append_right _ (List.mem_of_getElem? (i := 594) (by decide +kernel))) (by decide +kernel)
theorem wd_660 : Cond.methodLink "EventLogLaw" 51 ⟨"EventLogModel", "thrown", "()I"⟩ ∈ U0 := mU (List.mem_append_right _ (List.mem_of_getElem? (i := 660) (by decide +kernel))) (by decide +kernel)
theorem wd_661 : Cond.instanceMethod ⟨"EventLogModel", "thrown", "()I"⟩ ∈ U0 := mU (List.mem_append_right _ (List.mem_of_getElem? (i := 661) (by decide +kernel))) (by decide +kernel)
theorem wd_662 : Cond.selects "EventLogModel" ⟨"EventLogModel", "thrown", "()I"⟩ ⟨"EventLogModel", "thrown", "()I"⟩ ∈ U0 := mU (List.mem_append_right _ (List.mem_of_getElem? (i := 662) (by decide +kernel))) (by decide +kernel)
theorem wd_663 : Cond.code ⟨"EventLogModel", "thrown", "()I"⟩ prog_8_method_2_code 1 (some FieldType.int) ∈ U0 := mU (List.mem_append_right _ (List.mem_of_getElem? (i := 663) (by decide +kernel))) (by decide +kernel)
theorem wd_664 : Cond.methodLink "EventLogLaw" 50 ⟨"EventLogModel", "add", "(IJJI)I"⟩ ∈ U0 := mU (List.mem_append_right _ (List.mem_of_getElem? (i := 664) (by decide +kernel))) (by decide +kernel)
theorem wd_665 : Cond.instanceMethod ⟨"EventLogModel", "add", "(IJJI)I"⟩ ∈ U0 := mU (List.mem_append_right _ (List.mem_of_getElem? (i := 665) (by decide +kernel))) (by decide +kernel)
theorem wd_666 : Cond.selects "EventLogModel" ⟨"EventLogModel", "add", "(IJJI)I"⟩ ⟨"EventLogModel", "add", "(IJJI)I"⟩ ∈ U0 := mU (List.mem_append_right _ (List.mem_of_getElem? (i := 666) (by decide +kernel))) (by decide +kernel)
theorem wd_667 : Cond.code ⟨"EventLogModel", "add", "(IJJI)I"⟩ prog_8_method_7_code 8 (some FieldType.int) ∈ U0 := mU (List.mem_append_right _ (List.mem_of_getElem? (i := 667) (by decide +kernel))) (by decide +kernel)
theorem wd_686 : Cond.methodLink "EventLogLaw" 58 ⟨"EventLogModel", "drop", "(I)I"⟩ ∈ U0 := mU (List.mem_append_right _ (List.mem_of_getElem? (i := 686) (by decide +kernel))) (by decide +kernel)
theorem wd_687 : Cond.instanceMethod ⟨"EventLogModel", "drop", "(I)I"⟩ ∈ U0 := mU (List.mem_append_right _ (List.mem_of_getElem? (i := 687) (by decide +kernel))) (by decide +kernel)
theorem wd_688 : Cond.selects "EventLogModel" ⟨"EventLogModel", "drop", "(I)I"⟩ ⟨"EventLogModel", "drop", "(I)I"⟩ ∈ U0 := mU (List.mem_append_right _ (List.mem_of_getElem? (i := 688) (by decide +kernel))) (by decide +kernel)
theorem wd_689 : Cond.code ⟨"EventLogModel", "drop", "(I)I"⟩ prog_8_method_8_code 3 (some FieldType.int) ∈ U0 := mU (List.mem_append_right _ (List.mem_of_getElem? (i := 689) (by decide +kernel))) (by decide +kernel)
theorem wd_690 : Cond.methodLink "EventLogLaw" 62 ⟨"EventLogModel", "pack", "()I"⟩ ∈ U0 := mU (List.mem_append_right _ (List.mem_of_getElem? (i := 690) (by decide +kernel))) (by decide +kernel)
theorem wd_691 : Cond.instanceMethod ⟨"EventLogModel", "pack", "()I"⟩ ∈ U0 := mU (List.mem_append_right _ (List.mem_of_getElem? (i := 691) (by decide +kernel))) (by decide +kernel)
theorem wd_692 : Cond.selects "EventLogModel" ⟨"EventLogModel", "pack", "()I"⟩ ⟨"EventLogModel", "pack", "()I"⟩ ∈ U0 := mU (List.mem_append_right _ (List.mem_of_getElem? (i := 692) (by decide +kernel))) (by decide +kernel)
theorem wd_693 : Cond.code ⟨"EventLogModel", "pack", "()I"⟩ prog_8_method_18_code 2 (some FieldType.int) ∈ U0 := mU (List.mem_append_right _ (List.mem_of_getElem? (i := 693) (by decide +kernel))) (by decide +kernel)
theorem wd_731 : Cond.methodLink "EventLogLaw" 66 ⟨"EventLogModel", "size", "()I"⟩ ∈ U0 := mU (List.mem_append_right _ (List.mem_of_getElem? (i := 731) (by decide +kernel))) (by decide +kernel)
theorem wd_732 : Cond.instanceMethod ⟨"EventLogModel", "size", "()I"⟩ ∈ U0 := mU (List.mem_append_right _ (List.mem_of_getElem? (i := 732) (by decide +kernel))) (by decide +kernel)
theorem wd_733 : Cond.selects "EventLogModel" ⟨"EventLogModel", "size", "()I"⟩ ⟨"EventLogModel", "size", "()I"⟩ ∈ U0 := mU (List.mem_append_right _ (List.mem_of_getElem? (i := 733) (by decide +kernel))) (by decide +kernel)
theorem wd_734 : Cond.code ⟨"EventLogModel", "size", "()I"⟩ prog_8_method_19_code 1 (some FieldType.int) ∈ U0 := mU (List.mem_append_right _ (List.mem_of_getElem? (i := 734) (by decide +kernel))) (by decide +kernel)
theorem wd_735 : Cond.methodLink "EventLogLaw" 70 ⟨"EventLogModel", "read", "()I"⟩ ∈ U0 := mU (List.mem_append_right _ (List.mem_of_getElem? (i := 735) (by decide +kernel))) (by decide +kernel)
theorem wd_736 : Cond.instanceMethod ⟨"EventLogModel", "read", "()I"⟩ ∈ U0 := mU (List.mem_append_right _ (List.mem_of_getElem? (i := 736) (by decide +kernel))) (by decide +kernel)
theorem wd_737 : Cond.selects "EventLogModel" ⟨"EventLogModel", "read", "()I"⟩ ⟨"EventLogModel", "read", "()I"⟩ ∈ U0 := mU (List.mem_append_right _ (List.mem_of_getElem? (i := 737) (by decide +kernel))) (by decide +kernel)
theorem wd_738 : Cond.code ⟨"EventLogModel", "read", "()I"⟩ prog_8_method_29_code 5 (some FieldType.int) ∈ U0 := mU (List.mem_append_right _ (List.mem_of_getElem? (i := 738) (by decide +kernel))) (by decide +kernel)
theorem wd_776 : Cond.methodLink "EventLogLaw" 74 ⟨"EventLogModel", "poke", "(II)V"⟩ ∈ U0 := mU (List.mem_append_right _ (List.mem_of_getElem? (i := 776) (by decide +kernel))) (by decide +kernel)
theorem wd_777 : Cond.instanceMethod ⟨"EventLogModel", "poke", "(II)V"⟩ ∈ U0 := mU (List.mem_append_right _ (List.mem_of_getElem? (i := 777) (by decide +kernel))) (by decide +kernel)
theorem wd_778 : Cond.selects "EventLogModel" ⟨"EventLogModel", "poke", "(II)V"⟩ ⟨"EventLogModel", "poke", "(II)V"⟩ ∈ U0 := mU (List.mem_append_right _ (List.mem_of_getElem? (i := 778) (by decide +kernel))) (by decide +kernel)
theorem wd_779 : Cond.code ⟨"EventLogModel", "poke", "(II)V"⟩ prog_8_method_30_code 4 none ∈ U0 := mU (List.mem_append_right _ (List.mem_of_getElem? (i := 779) (by decide +kernel))) (by decide +kernel)
theorem wd_781 : Cond.methodLink "EventLogLaw" 77 ⟨"EventLogModel", "cut", "(I)I"⟩ ∈ U0 := mU (List.mem_append_right _ (List.mem_of_getElem? (i := 781) (by decide +kernel))) (by decide +kernel)
theorem wd_782 : Cond.instanceMethod ⟨"EventLogModel", "cut", "(I)I"⟩ ∈ U0 := mU (List.mem_append_right _ (List.mem_of_getElem? (i := 782) (by decide +kernel))) (by decide +kernel)
theorem wd_783 : Cond.selects "EventLogModel" ⟨"EventLogModel", "cut", "(I)I"⟩ ⟨"EventLogModel", "cut", "(I)I"⟩ ∈ U0 := mU (List.mem_append_right _ (List.mem_of_getElem? (i := 783) (by decide +kernel))) (by decide +kernel)
theorem wd_784 : Cond.code ⟨"EventLogModel", "cut", "(I)I"⟩ prog_8_method_31_code 3 (some FieldType.int) ∈ U0 := mU (List.mem_append_right _ (List.mem_of_getElem? (i := 784) (by decide +kernel))) (by decide +kernel)
theorem wd_785 : Cond.methodLink "EventLogLaw" 80 ⟨"EventLogModel", "byteAt", "(I)I"⟩ ∈ U0 := mU (List.mem_append_right _ (List.mem_of_getElem? (i := 785) (by decide +kernel))) (by decide +kernel)
theorem wd_786 : Cond.instanceMethod ⟨"EventLogModel", "byteAt", "(I)I"⟩ ∈ U0 := mU (List.mem_append_right _ (List.mem_of_getElem? (i := 786) (by decide +kernel))) (by decide +kernel)
theorem wd_787 : Cond.selects "EventLogModel" ⟨"EventLogModel", "byteAt", "(I)I"⟩ ⟨"EventLogModel", "byteAt", "(I)I"⟩ ∈ U0 := mU (List.mem_append_right _ (List.mem_of_getElem? (i := 787) (by decide +kernel))) (by decide +kernel)
theorem wd_788 : Cond.code ⟨"EventLogModel", "byteAt", "(I)I"⟩ prog_8_method_32_code 2 (some FieldType.int) ∈ U0 := mU (List.mem_append_right _ (List.mem_of_getElem? (i := 788) (by decide +kernel))) (by decide +kernel)
theorem wd_789 : Cond.methodLink "EventLogLaw" 84 ⟨"EventLogModel", "event", "(II)J"⟩ ∈ U0 := mU (List.mem_append_right _ (List.mem_of_getElem? (i := 789) (by decide +kernel))) (by decide +kernel)
theorem wd_790 : Cond.instanceMethod ⟨"EventLogModel", "event", "(II)J"⟩ ∈ U0 := mU (List.mem_append_right _ (List.mem_of_getElem? (i := 790) (by decide +kernel))) (by decide +kernel)
theorem wd_791 : Cond.selects "EventLogModel" ⟨"EventLogModel", "event", "(II)J"⟩ ⟨"EventLogModel", "event", "(II)J"⟩ ∈ U0 := mU (List.mem_append_right _ (List.mem_of_getElem? (i := 791) (by decide +kernel))) (by decide +kernel)
theorem wd_792 : Cond.code ⟨"EventLogModel", "event", "(II)J"⟩ prog_8_method_34_code 3 (some FieldType.long) ∈ U0 := mU (List.mem_append_right _ (List.mem_of_getElem? (i := 792) (by decide +kernel))) (by decide +kernel)
theorem wd_797 : Cond.methodLink "EventLogLaw" 89 ⟨"EventLogModel", "at", "(J)I"⟩ ∈ U0 := mU (List.mem_append_right _ (List.mem_of_getElem? (i := 797) (by decide +kernel))) (by decide +kernel)
theorem wd_798 : Cond.instanceMethod ⟨"EventLogModel", "at", "(J)I"⟩ ∈ U0 := mU (List.mem_append_right _ (List.mem_of_getElem? (i := 798) (by decide +kernel))) (by decide +kernel)
theorem wd_799 : Cond.selects "EventLogModel" ⟨"EventLogModel", "at", "(J)I"⟩ ⟨"EventLogModel", "at", "(J)I"⟩ ∈ U0 := mU (List.mem_append_right _ (List.mem_of_getElem? (i := 799) (by decide +kernel))) (by decide +kernel)
theorem wd_800 : Cond.code ⟨"EventLogModel", "at", "(J)I"⟩ prog_8_method_35_code 4 (some FieldType.int) ∈ U0 := mU (List.mem_append_right _ (List.mem_of_getElem? (i := 800) (by decide +kernel))) (by decide +kernel)
theorem wd_801 : Cond.methodLink "EventLogLaw" 93 ⟨"EventLogModel", "count", "(I)I"⟩ ∈ U0 := mU (List.mem_append_right _ (List.mem_of_getElem? (i := 801) (by decide +kernel))) (by decide +kernel)
theorem wd_802 : Cond.instanceMethod ⟨"EventLogModel", "count", "(I)I"⟩ ∈ U0 := mU (List.mem_append_right _ (List.mem_of_getElem? (i := 802) (by decide +kernel))) (by decide +kernel)
theorem wd_803 : Cond.selects "EventLogModel" ⟨"EventLogModel", "count", "(I)I"⟩ ⟨"EventLogModel", "count", "(I)I"⟩ ∈ U0 := mU (List.mem_append_right _ (List.mem_of_getElem? (i := 803) (by decide +kernel))) (by decide +kernel)
theorem wd_804 : Cond.code ⟨"EventLogModel", "count", "(I)I"⟩ prog_8_method_36_code 2 (some FieldType.int) ∈ U0 := mU (List.mem_append_right _ (List.mem_of_getElem? (i := 804) (by decide +kernel))) (by decide +kernel)
theorem wd_805 : Cond.constantLong "EventLogLaw" 43 (4294967295) ∈ U0 := mU (List.mem_append_right _ (List.mem_of_getElem? (i := 805) (by decide +kernel))) (by decide +kernel)
theorem kV_EventLog_add : ClV y_EventLog_add b_EventLog_add 7 (some FieldType.int) 4 := ⟨⟨wd_395, wd_1, by decide +kernel, by decide +kernel, by decide +kernel⟩, wd_393, wd_394⟩
theorem kV_EventLog_drop : ClV y_EventLog_drop b_EventLog_drop 3 (some FieldType.int) 1 := ⟨⟨wd_504, wd_1, by decide +kernel, by decide +kernel, by decide +kernel⟩, wd_502, wd_503⟩
theorem kV_EventLog_poke : ClV y_EventLog_poke b_EventLog_poke 3 none 2 := ⟨⟨wd_514, wd_1, by decide +kernel, by decide +kernel, by decide +kernel⟩, wd_512, wd_513⟩
theorem kV_EventLog_cut : ClV y_EventLog_cut b_EventLog_cut 3 (some FieldType.int) 1 := ⟨⟨wd_544, wd_1, by decide +kernel, by decide +kernel, by decide +kernel⟩, wd_542, wd_543⟩
theorem kV_EventLog_byteAt : ClV y_EventLog_byteAt b_EventLog_byteAt 2 (some FieldType.int) 1 := ⟨⟨wd_553, wd_1, by decide +kernel, by decide +kernel, by decide +kernel⟩, wd_551, wd_552⟩
theorem kV_EventLog_event : ClV y_EventLog_event b_EventLog_event 3 (some FieldType.long) 2 := ⟨⟨wd_563, wd_1, by decide +kernel, by decide +kernel, by decide +kernel⟩, wd_561, wd_562⟩
theorem kV_Model_add : ClV y_Model_add b_Model_add 8 (some FieldType.int) 4 := ⟨⟨wd_667, wd_7, by decide +kernel, by decide +kernel, by decide +kernel⟩, wd_665, wd_666⟩
theorem kV_Model_thrown : ClV y_Model_thrown b_Model_thrown 1 (some FieldType.int) 0 := ⟨⟨wd_663, wd_7, by decide +kernel, by decide +kernel, by decide +kernel⟩, wd_661, wd_662⟩
theorem kV_Model_drop : ClV y_Model_drop b_Model_drop 3 (some FieldType.int) 1 := ⟨⟨wd_689, wd_7, by decide +kernel, by decide +kernel, by decide +kernel⟩, wd_687, wd_688⟩
theorem kV_EventLog_pack : ClV y_EventLog_pack b_EventLog_pack 1 (some FieldType.int) 0 := ⟨⟨wd_150, wd_1, by decide +kernel, by decide +kernel, by decide +kernel⟩, wd_148, wd_149⟩
theorem kV_Model_pack : ClV y_Model_pack b_Model_pack 2 (some FieldType.int) 0 := ⟨⟨wd_693, wd_7, by decide +kernel, by decide +kernel, by decide +kernel⟩, wd_691, wd_692⟩
theorem kV_EventLog_size : ClV y_EventLog_size b_EventLog_size 1 (some FieldType.int) 0 := ⟨⟨wd_263, wd_1, by decide +kernel, by decide +kernel, by decide +kernel⟩, wd_261, wd_262⟩
theorem kV_Model_size : ClV y_Model_size b_Model_size 1 (some FieldType.int) 0 := ⟨⟨wd_734, wd_7, by decide +kernel, by decide +kernel, by decide +kernel⟩, wd_732, wd_733⟩
theorem kV_EventLog_read : ClV y_EventLog_read b_EventLog_read 3 (some FieldType.int) 0 := ⟨⟨wd_267, wd_1, by decide +kernel, by decide +kernel, by decide +kernel⟩, wd_265, wd_266⟩
theorem kV_Model_read : ClV y_Model_read b_Model_read 5 (some FieldType.int) 0 := ⟨⟨wd_738, wd_7, by decide +kernel, by decide +kernel, by decide +kernel⟩, wd_736, wd_737⟩
theorem kV_Model_poke : ClV y_Model_poke b_Model_poke 4 none 2 := ⟨⟨wd_779, wd_7, by decide +kernel, by decide +kernel, by decide +kernel⟩, wd_777, wd_778⟩
theorem kV_Model_cut : ClV y_Model_cut b_Model_cut 3 (some FieldType.int) 1 := ⟨⟨wd_784, wd_7, by decide +kernel, by decide +kernel, by decide +kernel⟩, wd_782, wd_783⟩
theorem kV_Model_byteAt : ClV y_Model_byteAt b_Model_byteAt 2 (some FieldType.int) 1 := ⟨⟨wd_788, wd_7, by decide +kernel, by decide +kernel, by decide +kernel⟩, wd_786, wd_787⟩
theorem kV_Model_event : ClV y_Model_event b_Model_event 3 (some FieldType.long) 2 := ⟨⟨wd_792, wd_7, by decide +kernel, by decide +kernel, by decide +kernel⟩, wd_790, wd_791⟩
theorem kV_EventLog_at : ClV y_EventLog_at b_EventLog_at 3 (some FieldType.int) 1 := ⟨⟨wd_360, wd_1, by decide +kernel, by decide +kernel, by decide +kernel⟩, wd_358, wd_359⟩
theorem kV_Model_at : ClV y_Model_at b_Model_at 4 (some FieldType.int) 1 := ⟨⟨wd_800, wd_7, by decide +kernel, by decide +kernel, by decide +kernel⟩, wd_798, wd_799⟩
theorem kV_EventLog_count : ClV y_EventLog_count b_EventLog_count 2 (some FieldType.int) 1 := ⟨⟨wd_368, wd_1, by decide +kernel, by decide +kernel, by decide +kernel⟩, wd_366, wd_367⟩
theorem kV_Model_count : ClV y_Model_count b_Model_count 2 (some FieldType.int) 1 := ⟨⟨wd_804, wd_7, by decide +kernel, by decide +kernel, by decide +kernel⟩, wd_802, wd_803⟩
theorem kI_EventLog_init : ClI y_EventLog_init b_EventLog_init 2 0 := ⟨⟨wd_19, wd_1, by decide +kernel, by decide +kernel, by decide +kernel⟩, rfl, wd_18⟩
theorem kI_Model_init : ClI y_Model_init b_Model_init 1 0 := ⟨⟨wd_594, wd_7, by decide +kernel, by decide +kernel, by decide +kernel⟩, rfl, wd_593⟩
