section GO
variable {K : gK} {k : gC} {lv : gL} {st : List Value} {σ : gS} {c z : Nat} 
theorem go_M_init_0 : g_go c_M_init K k 0 lv st σ c z = k 0 (.aload_n 0, 1, 0, []) lv st σ c z := rfl
theorem at_M_init_0 : g_at c_M_init k 0 lv st σ c z = k 0 (.aload_n 0, 1, 0, []) lv st σ c z := rfl
theorem go_M_init_1 : g_go c_M_init K k 1 lv st σ c z = k 1 (.invokespecial 1, 3, 0, []) lv st σ c z := rfl
theorem go_M_init_4 : g_go c_M_init K k 4 lv st σ c z = k 4 (.aload_n 0, 1, 0, []) lv st σ c z := rfl
theorem go_M_init_5 : g_go c_M_init K k 5 lv st σ c z = k 5 (.sipush 500, 3, 500, []) lv st σ c z := rfl
theorem go_M_init_8 : g_go c_M_init K k 8 lv st σ c z = k 8 (.newarray .int, 2, 0, []) lv st σ c z := rfl
theorem go_M_init_10 : g_go c_M_init K k 10 lv st σ c z = k 10 (.putfield 7, 3, 0, []) lv st σ c z := rfl
theorem go_M_init_13 : g_go c_M_init K k 13 lv st σ c z = k 13 (.aload_n 0, 1, 0, []) lv st σ c z := rfl
theorem go_M_init_14 : g_go c_M_init K k 14 lv st σ c z = k 14 (.bipush 61, 2, 61, []) lv st σ c z := rfl
theorem go_M_init_16 : g_go c_M_init K k 16 lv st σ c z = k 16 (.newarray .boolean, 2, 0, []) lv st σ c z := rfl
theorem go_M_init_18 : g_go c_M_init K k 18 lv st σ c z = k 18 (.putfield 13, 3, 0, []) lv st σ c z := rfl
theorem go_M_init_21 : g_go c_M_init K k 21 lv st σ c z = k 21 (.aload_n 0, 1, 0, []) lv st σ c z := rfl
theorem go_M_init_22 : g_go c_M_init K k 22 lv st σ c z = k 22 (.bipush 61, 2, 61, []) lv st σ c z := rfl
theorem go_M_init_24 : g_go c_M_init K k 24 lv st σ c z = k 24 (.newarray .int, 2, 0, []) lv st σ c z := rfl
theorem go_M_init_26 : g_go c_M_init K k 26 lv st σ c z = k 26 (.putfield 17, 3, 0, []) lv st σ c z := rfl
theorem go_M_init_29 : g_go c_M_init K k 29 lv st σ c z = k 29 (.aload_n 0, 1, 0, []) lv st σ c z := rfl
theorem go_M_init_30 : g_go c_M_init K k 30 lv st σ c z = k 30 (.bipush 61, 2, 61, []) lv st σ c z := rfl
theorem go_M_init_32 : g_go c_M_init K k 32 lv st σ c z = k 32 (.newarray .int, 2, 0, []) lv st σ c z := rfl
theorem go_M_init_34 : g_go c_M_init K k 34 lv st σ c z = k 34 (.putfield 20, 3, 0, []) lv st σ c z := rfl
theorem go_M_init_37 : g_go c_M_init K k 37 lv st σ c z = k 37 (.aload_n 0, 1, 0, []) lv st σ c z := rfl
theorem go_M_init_38 : g_go c_M_init K k 38 lv st σ c z = k 38 (.bipush 61, 2, 61, []) lv st σ c z := rfl
theorem go_M_init_40 : g_go c_M_init K k 40 lv st σ c z = k 40 (.newarray .int, 2, 0, []) lv st σ c z := rfl
theorem go_M_init_42 : g_go c_M_init K k 42 lv st σ c z = k 42 (.putfield 23, 3, 0, []) lv st σ c z := rfl
theorem go_M_init_45 : g_go c_M_init K k 45 lv st σ c z = k 45 (.aload_n 0, 1, 0, []) lv st σ c z := rfl
theorem go_M_init_46 : g_go c_M_init K k 46 lv st σ c z = k 46 (.bipush 61, 2, 61, []) lv st σ c z := rfl
theorem go_M_init_48 : g_go c_M_init K k 48 lv st σ c z = k 48 (.newarray .int, 2, 0, []) lv st σ c z := rfl
theorem go_M_init_50 : g_go c_M_init K k 50 lv st σ c z = k 50 (.putfield 26, 3, 0, []) lv st σ c z := rfl
theorem go_M_init_53 : g_go c_M_init K k 53 lv st σ c z = k 53 (.aload_n 0, 1, 0, []) lv st σ c z := rfl
theorem go_M_init_54 : g_go c_M_init K k 54 lv st σ c z = k 54 (.sipush 1952, 3, 1952, []) lv st σ c z := rfl
theorem go_M_init_57 : g_go c_M_init K k 57 lv st σ c z = k 57 (.newarray .int, 2, 0, []) lv st σ c z := rfl
theorem go_M_init_59 : g_go c_M_init K k 59 lv st σ c z = k 59 (.putfield 29, 3, 0, []) lv st σ c z := rfl
theorem go_M_init_62 : g_go c_M_init K k 62 lv st σ c z = k 62 (.aload_n 0, 1, 0, []) lv st σ c z := rfl
theorem go_M_init_63 : g_go c_M_init K k 63 lv st σ c z = k 63 (.bipush 61, 2, 61, []) lv st σ c z := rfl
theorem go_M_init_65 : g_go c_M_init K k 65 lv st σ c z = k 65 (.newarray .long, 2, 0, []) lv st σ c z := rfl
theorem go_M_init_67 : g_go c_M_init K k 67 lv st σ c z = k 67 (.putfield 32, 3, 0, []) lv st σ c z := rfl
theorem go_M_init_70 : g_go c_M_init K k 70 lv st σ c z = k 70 (.aload_n 0, 1, 0, []) lv st σ c z := rfl
theorem go_M_init_71 : g_go c_M_init K k 71 lv st σ c z = k 71 (.sipush 732, 3, 732, []) lv st σ c z := rfl
theorem go_M_init_74 : g_go c_M_init K k 74 lv st σ c z = k 74 (.newarray .int, 2, 0, []) lv st σ c z := rfl
theorem go_M_init_76 : g_go c_M_init K k 76 lv st σ c z = k 76 (.putfield 36, 3, 0, []) lv st σ c z := rfl
theorem go_M_init_79 : g_go c_M_init K k 79 lv st σ c z = k 79 (.aload_n 0, 1, 0, []) lv st σ c z := rfl
theorem go_M_init_80 : g_go c_M_init K k 80 lv st σ c z = k 80 (.sipush 732, 3, 732, []) lv st σ c z := rfl
theorem go_M_init_83 : g_go c_M_init K k 83 lv st σ c z = k 83 (.newarray .int, 2, 0, []) lv st σ c z := rfl
theorem go_M_init_85 : g_go c_M_init K k 85 lv st σ c z = k 85 (.putfield 39, 3, 0, []) lv st σ c z := rfl
theorem go_M_init_88 : g_go c_M_init K k 88 lv st σ c z = k 88 (.aload_n 0, 1, 0, []) lv st σ c z := rfl
theorem go_M_init_89 : g_go c_M_init K k 89 lv st σ c z = k 89 (.sipush 732, 3, 732, []) lv st σ c z := rfl
theorem go_M_init_92 : g_go c_M_init K k 92 lv st σ c z = k 92 (.newarray .int, 2, 0, []) lv st σ c z := rfl
theorem go_M_init_94 : g_go c_M_init K k 94 lv st σ c z = k 94 (.putfield 42, 3, 0, []) lv st σ c z := rfl
theorem go_M_init_97 : g_go c_M_init K k 97 lv st σ c z = k 97 (.aload_n 0, 1, 0, []) lv st σ c z := rfl
theorem go_M_init_98 : g_go c_M_init K k 98 lv st σ c z = k 98 (.sipush 1830, 3, 1830, []) lv st σ c z := rfl
theorem go_M_init_101 : g_go c_M_init K k 101 lv st σ c z = k 101 (.newarray .int, 2, 0, []) lv st σ c z := rfl
theorem go_M_init_103 : g_go c_M_init K k 103 lv st σ c z = k 103 (.putfield 45, 3, 0, []) lv st σ c z := rfl
theorem go_M_init_106 : g_go c_M_init K k 106 lv st σ c z = k 106 (.aload_n 0, 1, 0, []) lv st σ c z := rfl
theorem go_M_init_107 : g_go c_M_init K k 107 lv st σ c z = k 107 (.sipush 1830, 3, 1830, []) lv st σ c z := rfl
theorem go_M_init_110 : g_go c_M_init K k 110 lv st σ c z = k 110 (.newarray .boolean, 2, 0, []) lv st σ c z := rfl
theorem go_M_init_112 : g_go c_M_init K k 112 lv st σ c z = k 112 (.putfield 48, 3, 0, []) lv st σ c z := rfl
theorem go_M_init_115 : g_go c_M_init K k 115 lv st σ c z = k 115 (.aload_n 0, 1, 0, []) lv st σ c z := rfl
theorem go_M_init_116 : g_go c_M_init K k 116 lv st σ c z = k 116 (.sipush 2000, 3, 2000, []) lv st σ c z := rfl
theorem go_M_init_119 : g_go c_M_init K k 119 lv st σ c z = k 119 (.newarray .int, 2, 0, []) lv st σ c z := rfl
theorem go_M_init_121 : g_go c_M_init K k 121 lv st σ c z = k 121 (.putfield 51, 3, 0, []) lv st σ c z := rfl
theorem go_M_init_124 : g_go c_M_init K k 124 lv st σ c z = k 124 (.aload_n 0, 1, 0, []) lv st σ c z := rfl
theorem go_M_init_125 : g_go c_M_init K k 125 lv st σ c z = k 125 (.sipush 2000, 3, 2000, []) lv st σ c z := rfl
theorem go_M_init_128 : g_go c_M_init K k 128 lv st σ c z = k 128 (.newarray .int, 2, 0, []) lv st σ c z := rfl
theorem go_M_init_130 : g_go c_M_init K k 130 lv st σ c z = k 130 (.putfield 54, 3, 0, []) lv st σ c z := rfl
theorem go_M_init_133 : g_go c_M_init K k 133 lv st σ c z = k 133 (.aload_n 0, 1, 0, []) lv st σ c z := rfl
theorem go_M_init_134 : g_go c_M_init K k 134 lv st σ c z = k 134 (.sipush 2000, 3, 2000, []) lv st σ c z := rfl
theorem go_M_init_137 : g_go c_M_init K k 137 lv st σ c z = k 137 (.newarray .boolean, 2, 0, []) lv st σ c z := rfl
theorem go_M_init_139 : g_go c_M_init K k 139 lv st σ c z = k 139 (.putfield 57, 3, 0, []) lv st σ c z := rfl
theorem go_M_init_142 : g_go c_M_init K k 142 lv st σ c z = k 142 (.aload_n 0, 1, 0, []) lv st σ c z := rfl
theorem go_M_init_143 : g_go c_M_init K k 143 lv st σ c z = k 143 (.sipush 2000, 3, 2000, []) lv st σ c z := rfl
theorem go_M_init_146 : g_go c_M_init K k 146 lv st σ c z = k 146 (.newarray .boolean, 2, 0, []) lv st σ c z := rfl
theorem go_M_init_148 : g_go c_M_init K k 148 lv st σ c z = k 148 (.putfield 60, 3, 0, []) lv st σ c z := rfl
theorem go_M_init_151 : g_go c_M_init K k 151 lv st σ c z = k 151 (.aload_n 0, 1, 0, []) lv st σ c z := rfl
theorem go_M_init_152 : g_go c_M_init K k 152 lv st σ c z = k 152 (.iload_n 1, 1, 0, []) lv st σ c z := rfl
theorem go_M_init_153 : g_go c_M_init K k 153 lv st σ c z = k 153 (.iconst 1, 1, 1, []) lv st σ c z := rfl
theorem go_M_init_154 : g_go c_M_init K k 154 lv st σ c z = k 154 (.if_icmp .ge 7, 3, 0, [(0, 161)]) lv st σ c z := rfl
theorem go_M_init_157 : g_go c_M_init K k 157 lv st σ c z = k 157 (.iconst 1, 1, 1, []) lv st σ c z := rfl
theorem go_M_init_158 : g_go c_M_init K k 158 lv st σ c z = k 158 (.goto 17, 3, 0, [(0, 175)]) lv st σ c z := rfl
theorem go_M_init_161 : g_go c_M_init K k 161 lv st σ c z = k 161 (.iload_n 1, 1, 0, []) lv st σ c z := rfl
theorem go_M_init_162 : g_go c_M_init K k 162 lv st σ c z = k 162 (.sipush 500, 3, 500, []) lv st σ c z := rfl
theorem go_M_init_165 : g_go c_M_init K k 165 lv st σ c z = k 165 (.if_icmp .le 9, 3, 0, [(0, 174)]) lv st σ c z := rfl
theorem go_M_init_168 : g_go c_M_init K k 168 lv st σ c z = k 168 (.sipush 500, 3, 500, []) lv st σ c z := rfl
theorem go_M_init_171 : g_go c_M_init K k 171 lv st σ c z = k 171 (.goto 4, 3, 0, [(0, 175)]) lv st σ c z := rfl
theorem go_M_init_174 : g_go c_M_init K k 174 lv st σ c z = k 174 (.iload_n 1, 1, 0, []) lv st σ c z := rfl
theorem go_M_init_175 : g_go c_M_init K k 175 lv st σ c z = k 175 (.putfield 63, 3, 0, []) lv st σ c z := rfl
theorem go_M_init_178 : g_go c_M_init K k 178 lv st σ c z = k 178 (.iconst 0, 1, 0, []) lv st σ c z := rfl
theorem go_M_init_179 : g_go c_M_init K k 179 lv st σ c z = k 179 (.istore_n 2, 1, 0, []) lv st σ c z := rfl
theorem go_M_init_180 : g_go c_M_init K k 180 lv st σ c z = K 180 (lv.take 3) st σ c z := rfl
theorem at_M_init_180 : g_at c_M_init k 180 lv st σ c z = k 180 (.iload_n 2, 1, 0, []) lv st σ c z := rfl
theorem go_M_init_181 : g_go c_M_init K k 181 lv st σ c z = k 181 (.sipush 732, 3, 732, []) lv st σ c z := rfl
theorem go_M_init_184 : g_go c_M_init K k 184 lv st σ c z = k 184 (.if_icmp .ge 16, 3, 0, [(0, 200)]) lv st σ c z := rfl
theorem go_M_init_187 : g_go c_M_init K k 187 lv st σ c z = k 187 (.aload_n 0, 1, 0, []) lv st σ c z := rfl
theorem go_M_init_188 : g_go c_M_init K k 188 lv st σ c z = k 188 (.getfield 36, 3, 0, []) lv st σ c z := rfl
theorem go_M_init_191 : g_go c_M_init K k 191 lv st σ c z = k 191 (.iload_n 2, 1, 0, []) lv st σ c z := rfl
theorem go_M_init_192 : g_go c_M_init K k 192 lv st σ c z = k 192 (.iconst (-1), 1, (-1), []) lv st σ c z := rfl
theorem go_M_init_193 : g_go c_M_init K k 193 lv st σ c z = k 193 (.iastore, 1, 0, []) lv st σ c z := rfl
theorem go_M_init_194 : g_go c_M_init K k 194 lv st σ c z = k 194 (.iinc 2 1, 3, 1, []) lv st σ c z := rfl
theorem go_M_init_197 : g_go c_M_init K k 197 lv st σ c z = k 197 (.goto (-17), 3, 0, [(0, 180)]) lv st σ c z := rfl
theorem go_M_init_200 : g_go c_M_init K k 200 lv st σ c z = k 200 (.return_, 1, 0, []) lv st σ c z := rfl
theorem go_M_isName_0 : g_go c_M_isName K k 0 lv st σ c z = k 0 (.iload_n 0, 1, 0, []) lv st σ c z := rfl
theorem at_M_isName_0 : g_at c_M_isName k 0 lv st σ c z = k 0 (.iload_n 0, 1, 0, []) lv st σ c z := rfl
theorem go_M_isName_1 : g_go c_M_isName K k 1 lv st σ c z = k 1 (.ifCond .lt 13, 3, 0, [(0, 14)]) lv st σ c z := rfl
theorem go_M_isName_4 : g_go c_M_isName K k 4 lv st σ c z = k 4 (.iload_n 0, 1, 0, []) lv st σ c z := rfl
theorem go_M_isName_5 : g_go c_M_isName K k 5 lv st σ c z = k 5 (.bipush 100, 2, 100, []) lv st σ c z := rfl
theorem go_M_isName_7 : g_go c_M_isName K k 7 lv st σ c z = k 7 (.if_icmp .ge 7, 3, 0, [(0, 14)]) lv st σ c z := rfl
theorem go_M_isName_10 : g_go c_M_isName K k 10 lv st σ c z = k 10 (.iconst 1, 1, 1, []) lv st σ c z := rfl
theorem go_M_isName_11 : g_go c_M_isName K k 11 lv st σ c z = k 11 (.goto 4, 3, 0, [(0, 15)]) lv st σ c z := rfl
theorem go_M_isName_14 : g_go c_M_isName K k 14 lv st σ c z = k 14 (.iconst 0, 1, 0, []) lv st σ c z := rfl
theorem go_M_isName_15 : g_go c_M_isName K k 15 lv st σ c z = k 15 (.ireturn, 1, 0, []) lv st σ c z := rfl
theorem go_M_isSet_0 : g_go c_M_isSet K k 0 lv st σ c z = k 0 (.iload_n 1, 1, 0, []) lv st σ c z := rfl
theorem at_M_isSet_0 : g_at c_M_isSet k 0 lv st σ c z = k 0 (.iload_n 1, 1, 0, []) lv st σ c z := rfl
theorem go_M_isSet_1 : g_go c_M_isSet K k 1 lv st σ c z = k 1 (.ifCond .le 24, 3, 0, [(0, 25)]) lv st σ c z := rfl
theorem go_M_isSet_4 : g_go c_M_isSet K k 4 lv st σ c z = k 4 (.iload_n 1, 1, 0, []) lv st σ c z := rfl
theorem go_M_isSet_5 : g_go c_M_isSet K k 5 lv st σ c z = k 5 (.aload_n 0, 1, 0, []) lv st σ c z := rfl
theorem go_M_isSet_6 : g_go c_M_isSet K k 6 lv st σ c z = k 6 (.getfield 70, 3, 0, []) lv st σ c z := rfl
theorem go_M_isSet_9 : g_go c_M_isSet K k 9 lv st σ c z = k 9 (.if_icmp .gt 16, 3, 0, [(0, 25)]) lv st σ c z := rfl
theorem go_M_isSet_12 : g_go c_M_isSet K k 12 lv st σ c z = k 12 (.aload_n 0, 1, 0, []) lv st σ c z := rfl
theorem go_M_isSet_13 : g_go c_M_isSet K k 13 lv st σ c z = k 13 (.getfield 13, 3, 0, []) lv st σ c z := rfl
theorem go_M_isSet_16 : g_go c_M_isSet K k 16 lv st σ c z = k 16 (.iload_n 1, 1, 0, []) lv st σ c z := rfl
theorem go_M_isSet_17 : g_go c_M_isSet K k 17 lv st σ c z = k 17 (.baload, 1, 0, []) lv st σ c z := rfl
theorem go_M_isSet_18 : g_go c_M_isSet K k 18 lv st σ c z = k 18 (.ifCond .ne 7, 3, 0, [(0, 25)]) lv st σ c z := rfl
theorem go_M_isSet_21 : g_go c_M_isSet K k 21 lv st σ c z = k 21 (.iconst 1, 1, 1, []) lv st σ c z := rfl
theorem go_M_isSet_22 : g_go c_M_isSet K k 22 lv st σ c z = k 22 (.goto 4, 3, 0, [(0, 26)]) lv st σ c z := rfl
theorem go_M_isSet_25 : g_go c_M_isSet K k 25 lv st σ c z = k 25 (.iconst 0, 1, 0, []) lv st σ c z := rfl
theorem go_M_isSet_26 : g_go c_M_isSet K k 26 lv st σ c z = k 26 (.ireturn, 1, 0, []) lv st σ c z := rfl
theorem go_M_named_0 : g_go c_M_named K k 0 lv st σ c z = k 0 (.iconst 0, 1, 0, []) lv st σ c z := rfl
theorem at_M_named_0 : g_at c_M_named k 0 lv st σ c z = k 0 (.iconst 0, 1, 0, []) lv st σ c z := rfl
theorem go_M_named_1 : g_go c_M_named K k 1 lv st σ c z = k 1 (.istore_n 2, 1, 0, []) lv st σ c z := rfl
theorem go_M_named_2 : g_go c_M_named K k 2 lv st σ c z = k 2 (.iconst 1, 1, 1, []) lv st σ c z := rfl
theorem go_M_named_3 : g_go c_M_named K k 3 lv st σ c z = k 3 (.istore_n 3, 1, 0, []) lv st σ c z := rfl
theorem go_M_named_4 : g_go c_M_named K k 4 lv st σ c z = K 4 (lv.take 4) st σ c z := rfl
theorem at_M_named_4 : g_at c_M_named k 4 lv st σ c z = k 4 (.iload_n 3, 1, 0, []) lv st σ c z := rfl
theorem go_M_named_5 : g_go c_M_named K k 5 lv st σ c z = k 5 (.aload_n 0, 1, 0, []) lv st σ c z := rfl
theorem go_M_named_6 : g_go c_M_named K k 6 lv st σ c z = k 6 (.getfield 70, 3, 0, []) lv st σ c z := rfl
theorem go_M_named_9 : g_go c_M_named K k 9 lv st σ c z = k 9 (.if_icmp .gt 34, 3, 0, [(0, 43)]) lv st σ c z := rfl
theorem go_M_named_12 : g_go c_M_named K k 12 lv st σ c z = k 12 (.aload_n 0, 1, 0, []) lv st σ c z := rfl
theorem go_M_named_13 : g_go c_M_named K k 13 lv st σ c z = k 13 (.getfield 13, 3, 0, []) lv st σ c z := rfl
theorem go_M_named_16 : g_go c_M_named K k 16 lv st σ c z = k 16 (.iload_n 3, 1, 0, []) lv st σ c z := rfl
theorem go_M_named_17 : g_go c_M_named K k 17 lv st σ c z = k 17 (.baload, 1, 0, []) lv st σ c z := rfl
theorem go_M_named_18 : g_go c_M_named K k 18 lv st σ c z = k 18 (.ifCond .ne 17, 3, 0, [(0, 35)]) lv st σ c z := rfl
theorem go_M_named_21 : g_go c_M_named K k 21 lv st σ c z = k 21 (.aload_n 0, 1, 0, []) lv st σ c z := rfl
theorem go_M_named_22 : g_go c_M_named K k 22 lv st σ c z = k 22 (.getfield 17, 3, 0, []) lv st σ c z := rfl
theorem go_M_named_25 : g_go c_M_named K k 25 lv st σ c z = k 25 (.iload_n 3, 1, 0, []) lv st σ c z := rfl
theorem go_M_named_26 : g_go c_M_named K k 26 lv st σ c z = k 26 (.iaload, 1, 0, []) lv st σ c z := rfl
theorem go_M_named_27 : g_go c_M_named K k 27 lv st σ c z = k 27 (.iload_n 1, 1, 0, []) lv st σ c z := rfl
theorem go_M_named_28 : g_go c_M_named K k 28 lv st σ c z = k 28 (.if_icmp .ne 7, 3, 0, [(0, 35)]) lv st σ c z := rfl
theorem go_M_named_31 : g_go c_M_named K k 31 lv st σ c z = k 31 (.iload_n 3, 1, 0, []) lv st σ c z := rfl
theorem go_M_named_32 : g_go c_M_named K k 32 lv st σ c z = k 32 (.goto 4, 3, 0, [(0, 36)]) lv st σ c z := rfl
theorem go_M_named_35 : g_go c_M_named K k 35 lv st σ c z = k 35 (.iload_n 2, 1, 0, []) lv st σ c z := rfl
theorem go_M_named_36 : g_go c_M_named K k 36 lv st σ c z = k 36 (.istore_n 2, 1, 0, []) lv st σ c z := rfl
theorem go_M_named_37 : g_go c_M_named K k 37 lv st σ c z = k 37 (.iinc 3 1, 3, 1, []) lv st σ c z := rfl
theorem go_M_named_40 : g_go c_M_named K k 40 lv st σ c z = k 40 (.goto (-36), 3, 0, [(0, 4)]) lv st σ c z := rfl
theorem go_M_named_43 : g_go c_M_named K k 43 lv st σ c z = k 43 (.iload_n 2, 1, 0, []) lv st σ c z := rfl
theorem go_M_named_44 : g_go c_M_named K k 44 lv st σ c z = k 44 (.ireturn, 1, 0, []) lv st σ c z := rfl
theorem go_M_place_0 : g_go c_M_place K k 0 lv st σ c z = k 0 (.iconst 0, 1, 0, []) lv st σ c z := rfl
theorem at_M_place_0 : g_at c_M_place k 0 lv st σ c z = k 0 (.iconst 0, 1, 0, []) lv st σ c z := rfl
theorem go_M_place_1 : g_go c_M_place K k 1 lv st σ c z = k 1 (.istore_n 2, 1, 0, []) lv st σ c z := rfl
theorem go_M_place_2 : g_go c_M_place K k 2 lv st σ c z = k 2 (.iconst 0, 1, 0, []) lv st σ c z := rfl
theorem go_M_place_3 : g_go c_M_place K k 3 lv st σ c z = k 3 (.istore_n 3, 1, 0, []) lv st σ c z := rfl
theorem go_M_place_4 : g_go c_M_place K k 4 lv st σ c z = K 4 (lv.take 4) st σ c z := rfl
theorem at_M_place_4 : g_at c_M_place k 4 lv st σ c z = k 4 (.iload_n 3, 1, 0, []) lv st σ c z := rfl
theorem go_M_place_5 : g_go c_M_place K k 5 lv st σ c z = k 5 (.aload_n 0, 1, 0, []) lv st σ c z := rfl
theorem go_M_place_6 : g_go c_M_place K k 6 lv st σ c z = k 6 (.getfield 63, 3, 0, []) lv st σ c z := rfl
theorem go_M_place_9 : g_go c_M_place K k 9 lv st σ c z = k 9 (.if_icmp .ge 37, 3, 0, [(0, 46)]) lv st σ c z := rfl
theorem go_M_place_12 : g_go c_M_place K k 12 lv st σ c z = k 12 (.aload_n 0, 1, 0, []) lv st σ c z := rfl
theorem go_M_place_13 : g_go c_M_place K k 13 lv st σ c z = k 13 (.getfield 7, 3, 0, []) lv st σ c z := rfl
theorem go_M_place_16 : g_go c_M_place K k 16 lv st σ c z = k 16 (.iload_n 3, 1, 0, []) lv st σ c z := rfl
theorem go_M_place_17 : g_go c_M_place K k 17 lv st σ c z = k 17 (.iaload, 1, 0, []) lv st σ c z := rfl
theorem go_M_place_18 : g_go c_M_place K k 18 lv st σ c z = k 18 (.ifCond .ne 9, 3, 0, [(0, 27)]) lv st σ c z := rfl
theorem go_M_place_21 : g_go c_M_place K k 21 lv st σ c z = k 21 (.iload_n 2, 1, 0, []) lv st σ c z := rfl
theorem go_M_place_22 : g_go c_M_place K k 22 lv st σ c z = k 22 (.iconst 1, 1, 1, []) lv st σ c z := rfl
theorem go_M_place_23 : g_go c_M_place K k 23 lv st σ c z = k 23 (.iadd, 1, 0, []) lv st σ c z := rfl
theorem go_M_place_24 : g_go c_M_place K k 24 lv st σ c z = k 24 (.goto 4, 3, 0, [(0, 28)]) lv st σ c z := rfl
theorem go_M_place_27 : g_go c_M_place K k 27 lv st σ c z = k 27 (.iconst 0, 1, 0, []) lv st σ c z := rfl
theorem go_M_place_28 : g_go c_M_place K k 28 lv st σ c z = k 28 (.istore_n 2, 1, 0, []) lv st σ c z := rfl
theorem go_M_place_29 : g_go c_M_place K k 29 lv st σ c z = k 29 (.iload_n 2, 1, 0, []) lv st σ c z := rfl
theorem go_M_place_30 : g_go c_M_place K k 30 lv st σ c z = k 30 (.iload_n 1, 1, 0, []) lv st σ c z := rfl
theorem go_M_place_31 : g_go c_M_place K k 31 lv st σ c z = k 31 (.if_icmp .ne 9, 3, 0, [(0, 40)]) lv st σ c z := rfl
theorem go_M_place_34 : g_go c_M_place K k 34 lv st σ c z = k 34 (.iload_n 3, 1, 0, []) lv st σ c z := rfl
theorem go_M_place_35 : g_go c_M_place K k 35 lv st σ c z = k 35 (.iload_n 1, 1, 0, []) lv st σ c z := rfl
theorem go_M_place_36 : g_go c_M_place K k 36 lv st σ c z = k 36 (.isub, 1, 0, []) lv st σ c z := rfl
theorem go_M_place_37 : g_go c_M_place K k 37 lv st σ c z = k 37 (.iconst 1, 1, 1, []) lv st σ c z := rfl
theorem go_M_place_38 : g_go c_M_place K k 38 lv st σ c z = k 38 (.iadd, 1, 0, []) lv st σ c z := rfl
theorem go_M_place_39 : g_go c_M_place K k 39 lv st σ c z = k 39 (.ireturn, 1, 0, []) lv st σ c z := rfl
theorem go_M_place_40 : g_go c_M_place K k 40 lv st σ c z = k 40 (.iinc 3 1, 3, 1, []) lv st σ c z := rfl
theorem go_M_place_43 : g_go c_M_place K k 43 lv st σ c z = k 43 (.goto (-39), 3, 0, [(0, 4)]) lv st σ c z := rfl
theorem go_M_place_46 : g_go c_M_place K k 46 lv st σ c z = k 46 (.iconst (-1), 1, (-1), []) lv st σ c z := rfl
theorem go_M_place_47 : g_go c_M_place K k 47 lv st σ c z = k 47 (.ireturn, 1, 0, []) lv st σ c z := rfl
theorem go_M_take_0 : g_go c_M_take K k 0 lv st σ c z = k 0 (.iload_n 2, 1, 0, []) lv st σ c z := rfl
theorem at_M_take_0 : g_at c_M_take k 0 lv st σ c z = k 0 (.iload_n 2, 1, 0, []) lv st σ c z := rfl
theorem go_M_take_1 : g_go c_M_take K k 1 lv st σ c z = k 1 (.istore 4, 2, 0, []) lv st σ c z := rfl
theorem go_M_take_3 : g_go c_M_take K k 3 lv st σ c z = K 3 (lv.take 5) st σ c z := rfl
theorem at_M_take_3 : g_at c_M_take k 3 lv st σ c z = k 3 (.iload 4, 2, 0, []) lv st σ c z := rfl
theorem go_M_take_5 : g_go c_M_take K k 5 lv st σ c z = k 5 (.iload_n 2, 1, 0, []) lv st σ c z := rfl
theorem go_M_take_6 : g_go c_M_take K k 6 lv st σ c z = k 6 (.iload_n 3, 1, 0, []) lv st σ c z := rfl
theorem go_M_take_7 : g_go c_M_take K k 7 lv st σ c z = k 7 (.iadd, 1, 0, []) lv st σ c z := rfl
theorem go_M_take_8 : g_go c_M_take K k 8 lv st σ c z = k 8 (.if_icmp .ge 17, 3, 0, [(0, 25)]) lv st σ c z := rfl
theorem go_M_take_11 : g_go c_M_take K k 11 lv st σ c z = k 11 (.aload_n 0, 1, 0, []) lv st σ c z := rfl
theorem go_M_take_12 : g_go c_M_take K k 12 lv st σ c z = k 12 (.getfield 7, 3, 0, []) lv st σ c z := rfl
theorem go_M_take_15 : g_go c_M_take K k 15 lv st σ c z = k 15 (.iload 4, 2, 0, []) lv st σ c z := rfl
theorem go_M_take_17 : g_go c_M_take K k 17 lv st σ c z = k 17 (.iload_n 1, 1, 0, []) lv st σ c z := rfl
theorem go_M_take_18 : g_go c_M_take K k 18 lv st σ c z = k 18 (.iastore, 1, 0, []) lv st σ c z := rfl
theorem go_M_take_19 : g_go c_M_take K k 19 lv st σ c z = k 19 (.iinc 4 1, 3, 1, []) lv st σ c z := rfl
theorem go_M_take_22 : g_go c_M_take K k 22 lv st σ c z = k 22 (.goto (-19), 3, 0, [(0, 3)]) lv st σ c z := rfl
theorem go_M_take_25 : g_go c_M_take K k 25 lv st σ c z = k 25 (.aload_n 0, 1, 0, []) lv st σ c z := rfl
theorem go_M_take_26 : g_go c_M_take K k 26 lv st σ c z = k 26 (.getfield 29, 3, 0, []) lv st σ c z := rfl
theorem go_M_take_29 : g_go c_M_take K k 29 lv st σ c z = k 29 (.bipush 32, 2, 32, []) lv st σ c z := rfl
theorem go_M_take_31 : g_go c_M_take K k 31 lv st σ c z = k 31 (.iload_n 1, 1, 0, []) lv st σ c z := rfl
theorem go_M_take_32 : g_go c_M_take K k 32 lv st σ c z = k 32 (.imul, 1, 0, []) lv st σ c z := rfl
theorem go_M_take_33 : g_go c_M_take K k 33 lv st σ c z = k 33 (.iconst 2, 1, 2, []) lv st σ c z := rfl
theorem go_M_take_34 : g_go c_M_take K k 34 lv st σ c z = k 34 (.aload_n 0, 1, 0, []) lv st σ c z := rfl
theorem go_M_take_35 : g_go c_M_take K k 35 lv st σ c z = k 35 (.getfield 26, 3, 0, []) lv st σ c z := rfl
theorem go_M_take_38 : g_go c_M_take K k 38 lv st σ c z = k 38 (.iload_n 1, 1, 0, []) lv st σ c z := rfl
theorem go_M_take_39 : g_go c_M_take K k 39 lv st σ c z = k 39 (.iaload, 1, 0, []) lv st σ c z := rfl
theorem go_M_take_40 : g_go c_M_take K k 40 lv st σ c z = k 40 (.imul, 1, 0, []) lv st σ c z := rfl
theorem go_M_take_41 : g_go c_M_take K k 41 lv st σ c z = k 41 (.iadd, 1, 0, []) lv st σ c z := rfl
theorem go_M_take_42 : g_go c_M_take K k 42 lv st σ c z = k 42 (.iload_n 2, 1, 0, []) lv st σ c z := rfl
theorem go_M_take_43 : g_go c_M_take K k 43 lv st σ c z = k 43 (.iastore, 1, 0, []) lv st σ c z := rfl
theorem go_M_take_44 : g_go c_M_take K k 44 lv st σ c z = k 44 (.aload_n 0, 1, 0, []) lv st σ c z := rfl
theorem go_M_take_45 : g_go c_M_take K k 45 lv st σ c z = k 45 (.getfield 29, 3, 0, []) lv st σ c z := rfl
theorem go_M_take_48 : g_go c_M_take K k 48 lv st σ c z = k 48 (.bipush 32, 2, 32, []) lv st σ c z := rfl
theorem go_M_take_50 : g_go c_M_take K k 50 lv st σ c z = k 50 (.iload_n 1, 1, 0, []) lv st σ c z := rfl
theorem go_M_take_51 : g_go c_M_take K k 51 lv st σ c z = k 51 (.imul, 1, 0, []) lv st σ c z := rfl
theorem go_M_take_52 : g_go c_M_take K k 52 lv st σ c z = k 52 (.iconst 2, 1, 2, []) lv st σ c z := rfl
theorem go_M_take_53 : g_go c_M_take K k 53 lv st σ c z = k 53 (.aload_n 0, 1, 0, []) lv st σ c z := rfl
theorem go_M_take_54 : g_go c_M_take K k 54 lv st σ c z = k 54 (.getfield 26, 3, 0, []) lv st σ c z := rfl
theorem go_M_take_57 : g_go c_M_take K k 57 lv st σ c z = k 57 (.iload_n 1, 1, 0, []) lv st σ c z := rfl
theorem go_M_take_58 : g_go c_M_take K k 58 lv st σ c z = k 58 (.iaload, 1, 0, []) lv st σ c z := rfl
theorem go_M_take_59 : g_go c_M_take K k 59 lv st σ c z = k 59 (.imul, 1, 0, []) lv st σ c z := rfl
theorem go_M_take_60 : g_go c_M_take K k 60 lv st σ c z = k 60 (.iadd, 1, 0, []) lv st σ c z := rfl
theorem go_M_take_61 : g_go c_M_take K k 61 lv st σ c z = k 61 (.iconst 1, 1, 1, []) lv st σ c z := rfl
theorem go_M_take_62 : g_go c_M_take K k 62 lv st σ c z = k 62 (.iadd, 1, 0, []) lv st σ c z := rfl
theorem go_M_take_63 : g_go c_M_take K k 63 lv st σ c z = k 63 (.iload_n 3, 1, 0, []) lv st σ c z := rfl
theorem go_M_take_64 : g_go c_M_take K k 64 lv st σ c z = k 64 (.iastore, 1, 0, []) lv st σ c z := rfl
theorem go_M_take_65 : g_go c_M_take K k 65 lv st σ c z = k 65 (.aload_n 0, 1, 0, []) lv st σ c z := rfl
theorem go_M_take_66 : g_go c_M_take K k 66 lv st σ c z = k 66 (.getfield 26, 3, 0, []) lv st σ c z := rfl
theorem go_M_take_69 : g_go c_M_take K k 69 lv st σ c z = k 69 (.iload_n 1, 1, 0, []) lv st σ c z := rfl
theorem go_M_take_70 : g_go c_M_take K k 70 lv st σ c z = k 70 (.dup2, 1, 0, []) lv st σ c z := rfl
theorem go_M_take_71 : g_go c_M_take K k 71 lv st σ c z = k 71 (.iaload, 1, 0, []) lv st σ c z := rfl
theorem go_M_take_72 : g_go c_M_take K k 72 lv st σ c z = k 72 (.iconst 1, 1, 1, []) lv st σ c z := rfl
theorem go_M_take_73 : g_go c_M_take K k 73 lv st σ c z = k 73 (.iadd, 1, 0, []) lv st σ c z := rfl
theorem go_M_take_74 : g_go c_M_take K k 74 lv st σ c z = k 74 (.iastore, 1, 0, []) lv st σ c z := rfl
theorem go_M_take_75 : g_go c_M_take K k 75 lv st σ c z = k 75 (.return_, 1, 0, []) lv st σ c z := rfl
theorem go_M_tracksOf_0 : g_go c_M_tracksOf K k 0 lv st σ c z = k 0 (.iconst 0, 1, 0, []) lv st σ c z := rfl
theorem at_M_tracksOf_0 : g_at c_M_tracksOf k 0 lv st σ c z = k 0 (.iconst 0, 1, 0, []) lv st σ c z := rfl
theorem go_M_tracksOf_1 : g_go c_M_tracksOf K k 1 lv st σ c z = k 1 (.istore_n 2, 1, 0, []) lv st σ c z := rfl
theorem go_M_tracksOf_2 : g_go c_M_tracksOf K k 2 lv st σ c z = k 2 (.iconst 0, 1, 0, []) lv st σ c z := rfl
theorem go_M_tracksOf_3 : g_go c_M_tracksOf K k 3 lv st σ c z = k 3 (.istore_n 3, 1, 0, []) lv st σ c z := rfl
theorem go_M_tracksOf_4 : g_go c_M_tracksOf K k 4 lv st σ c z = K 4 (lv.take 4) st σ c z := rfl
theorem at_M_tracksOf_4 : g_at c_M_tracksOf k 4 lv st σ c z = k 4 (.iload_n 3, 1, 0, []) lv st σ c z := rfl
theorem go_M_tracksOf_5 : g_go c_M_tracksOf K k 5 lv st σ c z = k 5 (.aload_n 0, 1, 0, []) lv st σ c z := rfl
theorem go_M_tracksOf_6 : g_go c_M_tracksOf K k 6 lv st σ c z = k 6 (.getfield 26, 3, 0, []) lv st σ c z := rfl
theorem go_M_tracksOf_9 : g_go c_M_tracksOf K k 9 lv st σ c z = k 9 (.iload_n 1, 1, 0, []) lv st σ c z := rfl
theorem go_M_tracksOf_10 : g_go c_M_tracksOf K k 10 lv st σ c z = k 10 (.iaload, 1, 0, []) lv st σ c z := rfl
theorem go_M_tracksOf_11 : g_go c_M_tracksOf K k 11 lv st σ c z = k 11 (.if_icmp .ge 27, 3, 0, [(0, 38)]) lv st σ c z := rfl
theorem go_M_tracksOf_14 : g_go c_M_tracksOf K k 14 lv st σ c z = k 14 (.iload_n 2, 1, 0, []) lv st σ c z := rfl
theorem go_M_tracksOf_15 : g_go c_M_tracksOf K k 15 lv st σ c z = k 15 (.aload_n 0, 1, 0, []) lv st σ c z := rfl
theorem go_M_tracksOf_16 : g_go c_M_tracksOf K k 16 lv st σ c z = k 16 (.getfield 29, 3, 0, []) lv st σ c z := rfl
theorem go_M_tracksOf_19 : g_go c_M_tracksOf K k 19 lv st σ c z = k 19 (.bipush 32, 2, 32, []) lv st σ c z := rfl
theorem go_M_tracksOf_21 : g_go c_M_tracksOf K k 21 lv st σ c z = k 21 (.iload_n 1, 1, 0, []) lv st σ c z := rfl
theorem go_M_tracksOf_22 : g_go c_M_tracksOf K k 22 lv st σ c z = k 22 (.imul, 1, 0, []) lv st σ c z := rfl
theorem go_M_tracksOf_23 : g_go c_M_tracksOf K k 23 lv st σ c z = k 23 (.iconst 2, 1, 2, []) lv st σ c z := rfl
theorem go_M_tracksOf_24 : g_go c_M_tracksOf K k 24 lv st σ c z = k 24 (.iload_n 3, 1, 0, []) lv st σ c z := rfl
theorem go_M_tracksOf_25 : g_go c_M_tracksOf K k 25 lv st σ c z = k 25 (.imul, 1, 0, []) lv st σ c z := rfl
theorem go_M_tracksOf_26 : g_go c_M_tracksOf K k 26 lv st σ c z = k 26 (.iadd, 1, 0, []) lv st σ c z := rfl
theorem go_M_tracksOf_27 : g_go c_M_tracksOf K k 27 lv st σ c z = k 27 (.iconst 1, 1, 1, []) lv st σ c z := rfl
theorem go_M_tracksOf_28 : g_go c_M_tracksOf K k 28 lv st σ c z = k 28 (.iadd, 1, 0, []) lv st σ c z := rfl
theorem go_M_tracksOf_29 : g_go c_M_tracksOf K k 29 lv st σ c z = k 29 (.iaload, 1, 0, []) lv st σ c z := rfl
theorem go_M_tracksOf_30 : g_go c_M_tracksOf K k 30 lv st σ c z = k 30 (.iadd, 1, 0, []) lv st σ c z := rfl
theorem go_M_tracksOf_31 : g_go c_M_tracksOf K k 31 lv st σ c z = k 31 (.istore_n 2, 1, 0, []) lv st σ c z := rfl
theorem go_M_tracksOf_32 : g_go c_M_tracksOf K k 32 lv st σ c z = k 32 (.iinc 3 1, 3, 1, []) lv st σ c z := rfl
theorem go_M_tracksOf_35 : g_go c_M_tracksOf K k 35 lv st σ c z = k 35 (.goto (-31), 3, 0, [(0, 4)]) lv st σ c z := rfl
theorem go_M_tracksOf_38 : g_go c_M_tracksOf K k 38 lv st σ c z = k 38 (.iload_n 2, 1, 0, []) lv st σ c z := rfl
theorem go_M_tracksOf_39 : g_go c_M_tracksOf K k 39 lv st σ c z = k 39 (.ireturn, 1, 0, []) lv st σ c z := rfl
theorem go_M_make_0 : g_go c_M_make K k 0 lv st σ c z = k 0 (.aload_n 0, 1, 0, []) lv st σ c z := rfl
theorem at_M_make_0 : g_at c_M_make k 0 lv st σ c z = k 0 (.aload_n 0, 1, 0, []) lv st σ c z := rfl
theorem go_M_make_1 : g_go c_M_make K k 1 lv st σ c z = k 1 (.iconst 0, 1, 0, []) lv st σ c z := rfl
theorem go_M_make_2 : g_go c_M_make K k 2 lv st σ c z = k 2 (.putfield 67, 3, 0, []) lv st σ c z := rfl
theorem go_M_make_5 : g_go c_M_make K k 5 lv st σ c z = k 5 (.iload_n 1, 1, 0, []) lv st σ c z := rfl
theorem go_M_make_6 : g_go c_M_make K k 6 lv st σ c z = k 6 (.invokestatic 73, 3, 0, []) lv st σ c z := rfl
theorem go_M_make_9 : g_go c_M_make K k 9 lv st σ c z = k 9 (.ifCond .eq 26, 3, 0, [(0, 35)]) lv st σ c z := rfl
theorem go_M_make_12 : g_go c_M_make K k 12 lv st σ c z = k 12 (.iload_n 2, 1, 0, []) lv st σ c z := rfl
theorem go_M_make_13 : g_go c_M_make K k 13 lv st σ c z = k 13 (.iconst 1, 1, 1, []) lv st σ c z := rfl
theorem go_M_make_14 : g_go c_M_make K k 14 lv st σ c z = k 14 (.if_icmp .lt 21, 3, 0, [(0, 35)]) lv st σ c z := rfl
theorem go_M_make_17 : g_go c_M_make K k 17 lv st σ c z = k 17 (.iload_n 2, 1, 0, []) lv st σ c z := rfl
theorem go_M_make_18 : g_go c_M_make K k 18 lv st σ c z = k 18 (.sipush 500, 3, 500, []) lv st σ c z := rfl
theorem go_M_make_21 : g_go c_M_make K k 21 lv st σ c z = k 21 (.if_icmp .gt 14, 3, 0, [(0, 35)]) lv st σ c z := rfl
theorem go_M_make_24 : g_go c_M_make K k 24 lv st σ c z = k 24 (.iload_n 3, 1, 0, []) lv st σ c z := rfl
theorem go_M_make_25 : g_go c_M_make K k 25 lv st σ c z = k 25 (.ifCond .lt 10, 3, 0, [(0, 35)]) lv st σ c z := rfl
theorem go_M_make_28 : g_go c_M_make K k 28 lv st σ c z = k 28 (.iload_n 3, 1, 0, []) lv st σ c z := rfl
theorem go_M_make_29 : g_go c_M_make K k 29 lv st σ c z = k 29 (.sipush 500, 3, 500, []) lv st σ c z := rfl
theorem go_M_make_32 : g_go c_M_make K k 32 lv st σ c z = k 32 (.if_icmp .le 6, 3, 0, [(0, 38)]) lv st σ c z := rfl
theorem go_M_make_35 : g_go c_M_make K k 35 lv st σ c z = k 35 (.bipush (-4), 2, (-4), []) lv st σ c z := rfl
theorem go_M_make_37 : g_go c_M_make K k 37 lv st σ c z = k 37 (.ireturn, 1, 0, []) lv st σ c z := rfl
theorem go_M_make_38 : g_go c_M_make K k 38 lv st σ c z = k 38 (.aload_n 0, 1, 0, []) lv st σ c z := rfl
theorem go_M_make_39 : g_go c_M_make K k 39 lv st σ c z = k 39 (.iload_n 1, 1, 0, []) lv st σ c z := rfl
theorem go_M_make_40 : g_go c_M_make K k 40 lv st σ c z = k 40 (.invokevirtual 77, 3, 0, []) lv st σ c z := rfl
theorem go_M_make_43 : g_go c_M_make K k 43 lv st σ c z = k 43 (.ifCond .eq 6, 3, 0, [(0, 49)]) lv st σ c z := rfl
theorem go_M_make_46 : g_go c_M_make K k 46 lv st σ c z = k 46 (.bipush (-3), 2, (-3), []) lv st σ c z := rfl
theorem go_M_make_48 : g_go c_M_make K k 48 lv st σ c z = k 48 (.ireturn, 1, 0, []) lv st σ c z := rfl
theorem go_M_make_49 : g_go c_M_make K k 49 lv st σ c z = k 49 (.aload_n 0, 1, 0, []) lv st σ c z := rfl
theorem go_M_make_50 : g_go c_M_make K k 50 lv st σ c z = k 50 (.iload_n 2, 1, 0, []) lv st σ c z := rfl
theorem go_M_make_51 : g_go c_M_make K k 51 lv st σ c z = k 51 (.invokevirtual 81, 3, 0, []) lv st σ c z := rfl
theorem go_M_make_54 : g_go c_M_make K k 54 lv st σ c z = k 54 (.istore 4, 2, 0, []) lv st σ c z := rfl
theorem go_M_make_56 : g_go c_M_make K k 56 lv st σ c z = k 56 (.iload 4, 2, 0, []) lv st σ c z := rfl
theorem go_M_make_58 : g_go c_M_make K k 58 lv st σ c z = k 58 (.iconst (-1), 1, (-1), []) lv st σ c z := rfl
theorem go_M_make_59 : g_go c_M_make K k 59 lv st σ c z = k 59 (.if_icmp .ne 6, 3, 0, [(0, 65)]) lv st σ c z := rfl
theorem go_M_make_62 : g_go c_M_make K k 62 lv st σ c z = k 62 (.bipush (-8), 2, (-8), []) lv st σ c z := rfl
theorem go_M_make_64 : g_go c_M_make K k 64 lv st σ c z = k 64 (.ireturn, 1, 0, []) lv st σ c z := rfl
theorem go_M_make_65 : g_go c_M_make K k 65 lv st σ c z = k 65 (.aload_n 0, 1, 0, []) lv st σ c z := rfl
theorem go_M_make_66 : g_go c_M_make K k 66 lv st σ c z = k 66 (.getfield 70, 3, 0, []) lv st σ c z := rfl
theorem go_M_make_69 : g_go c_M_make K k 69 lv st σ c z = k 69 (.bipush 60, 2, 60, []) lv st σ c z := rfl
theorem go_M_make_71 : g_go c_M_make K k 71 lv st σ c z = k 71 (.if_icmp .ne 5, 3, 0, [(0, 76)]) lv st σ c z := rfl
theorem go_M_make_74 : g_go c_M_make K k 74 lv st σ c z = k 74 (.iconst (-1), 1, (-1), []) lv st σ c z := rfl
theorem go_M_make_75 : g_go c_M_make K k 75 lv st σ c z = k 75 (.ireturn, 1, 0, []) lv st σ c z := rfl
theorem go_M_make_76 : g_go c_M_make K k 76 lv st σ c z = k 76 (.aload_n 0, 1, 0, []) lv st σ c z := rfl
theorem go_M_make_77 : g_go c_M_make K k 77 lv st σ c z = k 77 (.dup, 1, 0, []) lv st σ c z := rfl
theorem go_M_make_78 : g_go c_M_make K k 78 lv st σ c z = k 78 (.getfield 70, 3, 0, []) lv st σ c z := rfl
theorem go_M_make_81 : g_go c_M_make K k 81 lv st σ c z = k 81 (.iconst 1, 1, 1, []) lv st σ c z := rfl
theorem go_M_make_82 : g_go c_M_make K k 82 lv st σ c z = k 82 (.iadd, 1, 0, []) lv st σ c z := rfl
theorem go_M_make_83 : g_go c_M_make K k 83 lv st σ c z = k 83 (.putfield 70, 3, 0, []) lv st σ c z := rfl
theorem go_M_make_86 : g_go c_M_make K k 86 lv st σ c z = k 86 (.aload_n 0, 1, 0, []) lv st σ c z := rfl
theorem go_M_make_87 : g_go c_M_make K k 87 lv st σ c z = k 87 (.getfield 17, 3, 0, []) lv st σ c z := rfl
theorem go_M_make_90 : g_go c_M_make K k 90 lv st σ c z = k 90 (.aload_n 0, 1, 0, []) lv st σ c z := rfl
theorem go_M_make_91 : g_go c_M_make K k 91 lv st σ c z = k 91 (.getfield 70, 3, 0, []) lv st σ c z := rfl
theorem go_M_make_94 : g_go c_M_make K k 94 lv st σ c z = k 94 (.iload_n 1, 1, 0, []) lv st σ c z := rfl
theorem go_M_make_95 : g_go c_M_make K k 95 lv st σ c z = k 95 (.iastore, 1, 0, []) lv st σ c z := rfl
theorem go_M_make_96 : g_go c_M_make K k 96 lv st σ c z = k 96 (.aload_n 0, 1, 0, []) lv st σ c z := rfl
theorem go_M_make_97 : g_go c_M_make K k 97 lv st σ c z = k 97 (.getfield 20, 3, 0, []) lv st σ c z := rfl
theorem go_M_make_100 : g_go c_M_make K k 100 lv st σ c z = k 100 (.aload_n 0, 1, 0, []) lv st σ c z := rfl
theorem go_M_make_101 : g_go c_M_make K k 101 lv st σ c z = k 101 (.getfield 70, 3, 0, []) lv st σ c z := rfl
theorem go_M_make_104 : g_go c_M_make K k 104 lv st σ c z = k 104 (.iload_n 3, 1, 0, []) lv st σ c z := rfl
theorem go_M_make_105 : g_go c_M_make K k 105 lv st σ c z = k 105 (.iastore, 1, 0, []) lv st σ c z := rfl
theorem go_M_make_106 : g_go c_M_make K k 106 lv st σ c z = k 106 (.aload_n 0, 1, 0, []) lv st σ c z := rfl
theorem go_M_make_107 : g_go c_M_make K k 107 lv st σ c z = k 107 (.getfield 32, 3, 0, []) lv st σ c z := rfl
theorem go_M_make_110 : g_go c_M_make K k 110 lv st σ c z = k 110 (.aload_n 0, 1, 0, []) lv st σ c z := rfl
theorem go_M_make_111 : g_go c_M_make K k 111 lv st σ c z = k 111 (.getfield 70, 3, 0, []) lv st σ c z := rfl
theorem go_M_make_114 : g_go c_M_make K k 114 lv st σ c z = k 114 (.ldc2_w 84, 3, 0, []) lv st σ c z := rfl
theorem go_M_make_117 : g_go c_M_make K k 117 lv st σ c z = k 117 (.lastore, 1, 0, []) lv st σ c z := rfl
theorem go_M_make_118 : g_go c_M_make K k 118 lv st σ c z = k 118 (.aload_n 0, 1, 0, []) lv st σ c z := rfl
theorem go_M_make_119 : g_go c_M_make K k 119 lv st σ c z = k 119 (.aload_n 0, 1, 0, []) lv st σ c z := rfl
theorem go_M_make_120 : g_go c_M_make K k 120 lv st σ c z = k 120 (.getfield 70, 3, 0, []) lv st σ c z := rfl
theorem go_M_make_123 : g_go c_M_make K k 123 lv st σ c z = k 123 (.iload 4, 2, 0, []) lv st σ c z := rfl
theorem go_M_make_125 : g_go c_M_make K k 125 lv st σ c z = k 125 (.iload_n 2, 1, 0, []) lv st σ c z := rfl
theorem go_M_make_126 : g_go c_M_make K k 126 lv st σ c z = k 126 (.invokevirtual 86, 3, 0, []) lv st σ c z := rfl
theorem go_M_make_129 : g_go c_M_make K k 129 lv st σ c z = k 129 (.aload_n 0, 1, 0, []) lv st σ c z := rfl
theorem go_M_make_130 : g_go c_M_make K k 130 lv st σ c z = k 130 (.getfield 70, 3, 0, []) lv st σ c z := rfl
theorem go_M_make_133 : g_go c_M_make K k 133 lv st σ c z = k 133 (.ireturn, 1, 0, []) lv st σ c z := rfl
theorem go_M_extend_0 : g_go c_M_extend K k 0 lv st σ c z = k 0 (.aload_n 0, 1, 0, []) lv st σ c z := rfl
theorem at_M_extend_0 : g_at c_M_extend k 0 lv st σ c z = k 0 (.aload_n 0, 1, 0, []) lv st σ c z := rfl
theorem go_M_extend_1 : g_go c_M_extend K k 1 lv st σ c z = k 1 (.iconst 0, 1, 0, []) lv st σ c z := rfl
theorem go_M_extend_2 : g_go c_M_extend K k 2 lv st σ c z = k 2 (.putfield 67, 3, 0, []) lv st σ c z := rfl
theorem go_M_extend_5 : g_go c_M_extend K k 5 lv st σ c z = k 5 (.aload_n 0, 1, 0, []) lv st σ c z := rfl
theorem go_M_extend_6 : g_go c_M_extend K k 6 lv st σ c z = k 6 (.iload_n 1, 1, 0, []) lv st σ c z := rfl
theorem go_M_extend_7 : g_go c_M_extend K k 7 lv st σ c z = k 7 (.invokevirtual 90, 3, 0, []) lv st σ c z := rfl
theorem go_M_extend_10 : g_go c_M_extend K k 10 lv st σ c z = k 10 (.ifCond .ne 6, 3, 0, [(0, 16)]) lv st σ c z := rfl
theorem go_M_extend_13 : g_go c_M_extend K k 13 lv st σ c z = k 13 (.bipush (-2), 2, (-2), []) lv st σ c z := rfl
theorem go_M_extend_15 : g_go c_M_extend K k 15 lv st σ c z = k 15 (.ireturn, 1, 0, []) lv st σ c z := rfl
theorem go_M_extend_16 : g_go c_M_extend K k 16 lv st σ c z = k 16 (.aload_n 0, 1, 0, []) lv st σ c z := rfl
theorem go_M_extend_17 : g_go c_M_extend K k 17 lv st σ c z = k 17 (.getfield 26, 3, 0, []) lv st σ c z := rfl
theorem go_M_extend_20 : g_go c_M_extend K k 20 lv st σ c z = k 20 (.iload_n 1, 1, 0, []) lv st σ c z := rfl
theorem go_M_extend_21 : g_go c_M_extend K k 21 lv st σ c z = k 21 (.iaload, 1, 0, []) lv st σ c z := rfl
theorem go_M_extend_22 : g_go c_M_extend K k 22 lv st σ c z = k 22 (.bipush 16, 2, 16, []) lv st σ c z := rfl
theorem go_M_extend_24 : g_go c_M_extend K k 24 lv st σ c z = k 24 (.if_icmp .eq 12, 3, 0, [(0, 36)]) lv st σ c z := rfl
theorem go_M_extend_27 : g_go c_M_extend K k 27 lv st σ c z = k 27 (.aload_n 0, 1, 0, []) lv st σ c z := rfl
theorem go_M_extend_28 : g_go c_M_extend K k 28 lv st σ c z = k 28 (.getfield 20, 3, 0, []) lv st σ c z := rfl
theorem go_M_extend_31 : g_go c_M_extend K k 31 lv st σ c z = k 31 (.iload_n 1, 1, 0, []) lv st σ c z := rfl
theorem go_M_extend_32 : g_go c_M_extend K k 32 lv st σ c z = k 32 (.iaload, 1, 0, []) lv st σ c z := rfl
theorem go_M_extend_33 : g_go c_M_extend K k 33 lv st σ c z = k 33 (.ifCond .ne 6, 3, 0, [(0, 39)]) lv st σ c z := rfl
theorem go_M_extend_36 : g_go c_M_extend K k 36 lv st σ c z = k 36 (.bipush (-7), 2, (-7), []) lv st σ c z := rfl
theorem go_M_extend_38 : g_go c_M_extend K k 38 lv st σ c z = k 38 (.ireturn, 1, 0, []) lv st σ c z := rfl
theorem go_M_extend_39 : g_go c_M_extend K k 39 lv st σ c z = k 39 (.aload_n 0, 1, 0, []) lv st σ c z := rfl
theorem go_M_extend_40 : g_go c_M_extend K k 40 lv st σ c z = k 40 (.aload_n 0, 1, 0, []) lv st σ c z := rfl
theorem go_M_extend_41 : g_go c_M_extend K k 41 lv st σ c z = k 41 (.getfield 20, 3, 0, []) lv st σ c z := rfl
theorem go_M_extend_44 : g_go c_M_extend K k 44 lv st σ c z = k 44 (.iload_n 1, 1, 0, []) lv st σ c z := rfl
theorem go_M_extend_45 : g_go c_M_extend K k 45 lv st σ c z = k 45 (.iaload, 1, 0, []) lv st σ c z := rfl
theorem go_M_extend_46 : g_go c_M_extend K k 46 lv st σ c z = k 46 (.invokevirtual 81, 3, 0, []) lv st σ c z := rfl
theorem go_M_extend_49 : g_go c_M_extend K k 49 lv st σ c z = k 49 (.istore_n 2, 1, 0, []) lv st σ c z := rfl
theorem go_M_extend_50 : g_go c_M_extend K k 50 lv st σ c z = k 50 (.iload_n 2, 1, 0, []) lv st σ c z := rfl
theorem go_M_extend_51 : g_go c_M_extend K k 51 lv st σ c z = k 51 (.iconst (-1), 1, (-1), []) lv st σ c z := rfl
theorem go_M_extend_52 : g_go c_M_extend K k 52 lv st σ c z = k 52 (.if_icmp .ne 6, 3, 0, [(0, 58)]) lv st σ c z := rfl
theorem go_M_extend_55 : g_go c_M_extend K k 55 lv st σ c z = k 55 (.bipush (-8), 2, (-8), []) lv st σ c z := rfl
theorem go_M_extend_57 : g_go c_M_extend K k 57 lv st σ c z = k 57 (.ireturn, 1, 0, []) lv st σ c z := rfl
theorem go_M_extend_58 : g_go c_M_extend K k 58 lv st σ c z = k 58 (.aload_n 0, 1, 0, []) lv st σ c z := rfl
theorem go_M_extend_59 : g_go c_M_extend K k 59 lv st σ c z = k 59 (.iload_n 1, 1, 0, []) lv st σ c z := rfl
theorem go_M_extend_60 : g_go c_M_extend K k 60 lv st σ c z = k 60 (.iload_n 2, 1, 0, []) lv st σ c z := rfl
theorem go_M_extend_61 : g_go c_M_extend K k 61 lv st σ c z = k 61 (.aload_n 0, 1, 0, []) lv st σ c z := rfl
theorem go_M_extend_62 : g_go c_M_extend K k 62 lv st σ c z = k 62 (.getfield 20, 3, 0, []) lv st σ c z := rfl
theorem go_M_extend_65 : g_go c_M_extend K k 65 lv st σ c z = k 65 (.iload_n 1, 1, 0, []) lv st σ c z := rfl
theorem go_M_extend_66 : g_go c_M_extend K k 66 lv st σ c z = k 66 (.iaload, 1, 0, []) lv st σ c z := rfl
theorem go_M_extend_67 : g_go c_M_extend K k 67 lv st σ c z = k 67 (.invokevirtual 86, 3, 0, []) lv st σ c z := rfl
theorem go_M_extend_70 : g_go c_M_extend K k 70 lv st σ c z = k 70 (.aload_n 0, 1, 0, []) lv st σ c z := rfl
theorem go_M_extend_71 : g_go c_M_extend K k 71 lv st σ c z = k 71 (.getfield 26, 3, 0, []) lv st σ c z := rfl
theorem go_M_extend_74 : g_go c_M_extend K k 74 lv st σ c z = k 74 (.iload_n 1, 1, 0, []) lv st σ c z := rfl
theorem go_M_extend_75 : g_go c_M_extend K k 75 lv st σ c z = k 75 (.iaload, 1, 0, []) lv st σ c z := rfl
theorem go_M_extend_76 : g_go c_M_extend K k 76 lv st σ c z = k 76 (.ireturn, 1, 0, []) lv st σ c z := rfl
theorem go_M_find_0 : g_go c_M_find K k 0 lv st σ c z = k 0 (.aload_n 0, 1, 0, []) lv st σ c z := rfl
theorem at_M_find_0 : g_at c_M_find k 0 lv st σ c z = k 0 (.aload_n 0, 1, 0, []) lv st σ c z := rfl
theorem go_M_find_1 : g_go c_M_find K k 1 lv st σ c z = k 1 (.iconst 0, 1, 0, []) lv st σ c z := rfl
theorem go_M_find_2 : g_go c_M_find K k 2 lv st σ c z = k 2 (.putfield 67, 3, 0, []) lv st σ c z := rfl
theorem go_M_find_5 : g_go c_M_find K k 5 lv st σ c z = k 5 (.aload_n 0, 1, 0, []) lv st σ c z := rfl
theorem go_M_find_6 : g_go c_M_find K k 6 lv st σ c z = k 6 (.iload_n 1, 1, 0, []) lv st σ c z := rfl
theorem go_M_find_7 : g_go c_M_find K k 7 lv st σ c z = k 7 (.invokevirtual 77, 3, 0, []) lv st σ c z := rfl
theorem go_M_find_10 : g_go c_M_find K k 10 lv st σ c z = k 10 (.ireturn, 1, 0, []) lv st σ c z := rfl
theorem go_M_memberOf_0 : g_go c_M_memberOf K k 0 lv st σ c z = k 0 (.iconst (-1), 1, (-1), []) lv st σ c z := rfl
theorem at_M_memberOf_0 : g_at c_M_memberOf k 0 lv st σ c z = k 0 (.iconst (-1), 1, (-1), []) lv st σ c z := rfl
theorem go_M_memberOf_1 : g_go c_M_memberOf K k 1 lv st σ c z = k 1 (.istore_n 3, 1, 0, []) lv st σ c z := rfl
theorem go_M_memberOf_2 : g_go c_M_memberOf K k 2 lv st σ c z = k 2 (.bipush 12, 2, 12, []) lv st σ c z := rfl
theorem go_M_memberOf_4 : g_go c_M_memberOf K k 4 lv st σ c z = k 4 (.iload_n 1, 1, 0, []) lv st σ c z := rfl
theorem go_M_memberOf_5 : g_go c_M_memberOf K k 5 lv st σ c z = k 5 (.imul, 1, 0, []) lv st σ c z := rfl
theorem go_M_memberOf_6 : g_go c_M_memberOf K k 6 lv st σ c z = k 6 (.istore 4, 2, 0, []) lv st σ c z := rfl
theorem go_M_memberOf_8 : g_go c_M_memberOf K k 8 lv st σ c z = K 8 (lv.take 5) st σ c z := rfl
theorem at_M_memberOf_8 : g_at c_M_memberOf k 8 lv st σ c z = k 8 (.iload 4, 2, 0, []) lv st σ c z := rfl
theorem go_M_memberOf_10 : g_go c_M_memberOf K k 10 lv st σ c z = k 10 (.bipush 12, 2, 12, []) lv st σ c z := rfl
theorem go_M_memberOf_12 : g_go c_M_memberOf K k 12 lv st σ c z = k 12 (.iload_n 1, 1, 0, []) lv st σ c z := rfl
theorem go_M_memberOf_13 : g_go c_M_memberOf K k 13 lv st σ c z = k 13 (.imul, 1, 0, []) lv st σ c z := rfl
theorem go_M_memberOf_14 : g_go c_M_memberOf K k 14 lv st σ c z = k 14 (.bipush 12, 2, 12, []) lv st σ c z := rfl
theorem go_M_memberOf_16 : g_go c_M_memberOf K k 16 lv st σ c z = k 16 (.iadd, 1, 0, []) lv st σ c z := rfl
theorem go_M_memberOf_17 : g_go c_M_memberOf K k 17 lv st σ c z = k 17 (.if_icmp .ge 34, 3, 0, [(0, 51)]) lv st σ c z := rfl
theorem go_M_memberOf_20 : g_go c_M_memberOf K k 20 lv st σ c z = k 20 (.iload_n 2, 1, 0, []) lv st σ c z := rfl
theorem go_M_memberOf_21 : g_go c_M_memberOf K k 21 lv st σ c z = k 21 (.invokestatic 73, 3, 0, []) lv st σ c z := rfl
theorem go_M_memberOf_24 : g_go c_M_memberOf K k 24 lv st σ c z = k 24 (.ifCond .eq 19, 3, 0, [(0, 43)]) lv st σ c z := rfl
theorem go_M_memberOf_27 : g_go c_M_memberOf K k 27 lv st σ c z = k 27 (.aload_n 0, 1, 0, []) lv st σ c z := rfl
theorem go_M_memberOf_28 : g_go c_M_memberOf K k 28 lv st σ c z = k 28 (.getfield 36, 3, 0, []) lv st σ c z := rfl
theorem go_M_memberOf_31 : g_go c_M_memberOf K k 31 lv st σ c z = k 31 (.iload 4, 2, 0, []) lv st σ c z := rfl
theorem go_M_memberOf_33 : g_go c_M_memberOf K k 33 lv st σ c z = k 33 (.iaload, 1, 0, []) lv st σ c z := rfl
theorem go_M_memberOf_34 : g_go c_M_memberOf K k 34 lv st σ c z = k 34 (.iload_n 2, 1, 0, []) lv st σ c z := rfl
theorem go_M_memberOf_35 : g_go c_M_memberOf K k 35 lv st σ c z = k 35 (.if_icmp .ne 8, 3, 0, [(0, 43)]) lv st σ c z := rfl
theorem go_M_memberOf_38 : g_go c_M_memberOf K k 38 lv st σ c z = k 38 (.iload 4, 2, 0, []) lv st σ c z := rfl
theorem go_M_memberOf_40 : g_go c_M_memberOf K k 40 lv st σ c z = k 40 (.goto 4, 3, 0, [(0, 44)]) lv st σ c z := rfl
theorem go_M_memberOf_43 : g_go c_M_memberOf K k 43 lv st σ c z = k 43 (.iload_n 3, 1, 0, []) lv st σ c z := rfl
theorem go_M_memberOf_44 : g_go c_M_memberOf K k 44 lv st σ c z = k 44 (.istore_n 3, 1, 0, []) lv st σ c z := rfl
theorem go_M_memberOf_45 : g_go c_M_memberOf K k 45 lv st σ c z = k 45 (.iinc 4 1, 3, 1, []) lv st σ c z := rfl
theorem go_M_memberOf_48 : g_go c_M_memberOf K k 48 lv st σ c z = k 48 (.goto (-40), 3, 0, [(0, 8)]) lv st σ c z := rfl
theorem go_M_memberOf_51 : g_go c_M_memberOf K k 51 lv st σ c z = k 51 (.iload_n 3, 1, 0, []) lv st σ c z := rfl
theorem go_M_memberOf_52 : g_go c_M_memberOf K k 52 lv st σ c z = k 52 (.ireturn, 1, 0, []) lv st σ c z := rfl
theorem go_M_member_0 : g_go c_M_member K k 0 lv st σ c z = k 0 (.aload_n 0, 1, 0, []) lv st σ c z := rfl
theorem at_M_member_0 : g_at c_M_member k 0 lv st σ c z = k 0 (.aload_n 0, 1, 0, []) lv st σ c z := rfl
theorem go_M_member_1 : g_go c_M_member K k 1 lv st σ c z = k 1 (.iconst 0, 1, 0, []) lv st σ c z := rfl
theorem go_M_member_2 : g_go c_M_member K k 2 lv st σ c z = k 2 (.putfield 67, 3, 0, []) lv st σ c z := rfl
theorem go_M_member_5 : g_go c_M_member K k 5 lv st σ c z = k 5 (.aload_n 0, 1, 0, []) lv st σ c z := rfl
theorem go_M_member_6 : g_go c_M_member K k 6 lv st σ c z = k 6 (.iload_n 1, 1, 0, []) lv st σ c z := rfl
theorem go_M_member_7 : g_go c_M_member K k 7 lv st σ c z = k 7 (.invokevirtual 90, 3, 0, []) lv st σ c z := rfl
theorem go_M_member_10 : g_go c_M_member K k 10 lv st σ c z = k 10 (.ifCond .ne 6, 3, 0, [(0, 16)]) lv st σ c z := rfl
theorem go_M_member_13 : g_go c_M_member K k 13 lv st σ c z = k 13 (.bipush (-2), 2, (-2), []) lv st σ c z := rfl
theorem go_M_member_15 : g_go c_M_member K k 15 lv st σ c z = k 15 (.ireturn, 1, 0, []) lv st σ c z := rfl
theorem go_M_member_16 : g_go c_M_member K k 16 lv st σ c z = k 16 (.iload_n 2, 1, 0, []) lv st σ c z := rfl
theorem go_M_member_17 : g_go c_M_member K k 17 lv st σ c z = k 17 (.invokestatic 73, 3, 0, []) lv st σ c z := rfl
theorem go_M_member_20 : g_go c_M_member K k 20 lv st σ c z = k 20 (.ifCond .eq 14, 3, 0, [(0, 34)]) lv st σ c z := rfl
theorem go_M_member_23 : g_go c_M_member K k 23 lv st σ c z = k 23 (.iload_n 3, 1, 0, []) lv st σ c z := rfl
theorem go_M_member_24 : g_go c_M_member K k 24 lv st σ c z = k 24 (.ifCond .lt 10, 3, 0, [(0, 34)]) lv st σ c z := rfl
theorem go_M_member_27 : g_go c_M_member K k 27 lv st σ c z = k 27 (.iload_n 3, 1, 0, []) lv st σ c z := rfl
theorem go_M_member_28 : g_go c_M_member K k 28 lv st σ c z = k 28 (.sipush 500, 3, 500, []) lv st σ c z := rfl
theorem go_M_member_31 : g_go c_M_member K k 31 lv st σ c z = k 31 (.if_icmp .le 6, 3, 0, [(0, 37)]) lv st σ c z := rfl
theorem go_M_member_34 : g_go c_M_member K k 34 lv st σ c z = k 34 (.bipush (-4), 2, (-4), []) lv st σ c z := rfl
theorem go_M_member_36 : g_go c_M_member K k 36 lv st σ c z = k 36 (.ireturn, 1, 0, []) lv st σ c z := rfl
theorem go_M_member_37 : g_go c_M_member K k 37 lv st σ c z = k 37 (.aload_n 0, 1, 0, []) lv st σ c z := rfl
theorem go_M_member_38 : g_go c_M_member K k 38 lv st σ c z = k 38 (.iload_n 1, 1, 0, []) lv st σ c z := rfl
theorem go_M_member_39 : g_go c_M_member K k 39 lv st σ c z = k 39 (.iload_n 2, 1, 0, []) lv st σ c z := rfl
theorem go_M_member_40 : g_go c_M_member K k 40 lv st σ c z = k 40 (.invokevirtual 93, 3, 0, []) lv st σ c z := rfl
theorem go_M_member_43 : g_go c_M_member K k 43 lv st σ c z = k 43 (.istore 4, 2, 0, []) lv st σ c z := rfl
theorem go_M_member_45 : g_go c_M_member K k 45 lv st σ c z = k 45 (.bipush 12, 2, 12, []) lv st σ c z := rfl
theorem go_M_member_47 : g_go c_M_member K k 47 lv st σ c z = k 47 (.iload_n 1, 1, 0, []) lv st σ c z := rfl
theorem go_M_member_48 : g_go c_M_member K k 48 lv st σ c z = k 48 (.imul, 1, 0, []) lv st σ c z := rfl
theorem go_M_member_49 : g_go c_M_member K k 49 lv st σ c z = k 49 (.bipush 12, 2, 12, []) lv st σ c z := rfl
theorem go_M_member_51 : g_go c_M_member K k 51 lv st σ c z = k 51 (.iadd, 1, 0, []) lv st σ c z := rfl
theorem go_M_member_52 : g_go c_M_member K k 52 lv st σ c z = k 52 (.iconst 1, 1, 1, []) lv st σ c z := rfl
theorem go_M_member_53 : g_go c_M_member K k 53 lv st σ c z = k 53 (.isub, 1, 0, []) lv st σ c z := rfl
theorem go_M_member_54 : g_go c_M_member K k 54 lv st σ c z = k 54 (.istore 5, 2, 0, []) lv st σ c z := rfl
theorem go_M_member_56 : g_go c_M_member K k 56 lv st σ c z = K 56 (lv.take 6) st σ c z := rfl
theorem at_M_member_56 : g_at c_M_member k 56 lv st σ c z = k 56 (.iload 5, 2, 0, []) lv st σ c z := rfl
theorem go_M_member_58 : g_go c_M_member K k 58 lv st σ c z = k 58 (.bipush 12, 2, 12, []) lv st σ c z := rfl
theorem go_M_member_60 : g_go c_M_member K k 60 lv st σ c z = k 60 (.iload_n 1, 1, 0, []) lv st σ c z := rfl
theorem go_M_member_61 : g_go c_M_member K k 61 lv st σ c z = k 61 (.imul, 1, 0, []) lv st σ c z := rfl
theorem go_M_member_62 : g_go c_M_member K k 62 lv st σ c z = k 62 (.if_icmp .lt 39, 3, 0, [(0, 101)]) lv st σ c z := rfl
theorem go_M_member_65 : g_go c_M_member K k 65 lv st σ c z = k 65 (.aload_n 0, 1, 0, []) lv st σ c z := rfl
theorem go_M_member_66 : g_go c_M_member K k 66 lv st σ c z = k 66 (.iload_n 1, 1, 0, []) lv st σ c z := rfl
theorem go_M_member_67 : g_go c_M_member K k 67 lv st σ c z = k 67 (.iload_n 2, 1, 0, []) lv st σ c z := rfl
theorem go_M_member_68 : g_go c_M_member K k 68 lv st σ c z = k 68 (.invokevirtual 93, 3, 0, []) lv st σ c z := rfl
theorem go_M_member_71 : g_go c_M_member K k 71 lv st σ c z = k 71 (.iconst (-1), 1, (-1), []) lv st σ c z := rfl
theorem go_M_member_72 : g_go c_M_member K k 72 lv st σ c z = k 72 (.if_icmp .ne 29, 3, 0, [(0, 101)]) lv st σ c z := rfl
theorem go_M_member_75 : g_go c_M_member K k 75 lv st σ c z = k 75 (.aload_n 0, 1, 0, []) lv st σ c z := rfl
theorem go_M_member_76 : g_go c_M_member K k 76 lv st σ c z = k 76 (.getfield 36, 3, 0, []) lv st σ c z := rfl
theorem go_M_member_79 : g_go c_M_member K k 79 lv st σ c z = k 79 (.iload 5, 2, 0, []) lv st σ c z := rfl
theorem go_M_member_81 : g_go c_M_member K k 81 lv st σ c z = k 81 (.iaload, 1, 0, []) lv st σ c z := rfl
theorem go_M_member_82 : g_go c_M_member K k 82 lv st σ c z = k 82 (.iconst (-1), 1, (-1), []) lv st σ c z := rfl
theorem go_M_member_83 : g_go c_M_member K k 83 lv st σ c z = k 83 (.if_icmp .ne 8, 3, 0, [(0, 91)]) lv st σ c z := rfl
theorem go_M_member_86 : g_go c_M_member K k 86 lv st σ c z = k 86 (.iload 5, 2, 0, []) lv st σ c z := rfl
theorem go_M_member_88 : g_go c_M_member K k 88 lv st σ c z = k 88 (.goto 5, 3, 0, [(0, 93)]) lv st σ c z := rfl
theorem go_M_member_91 : g_go c_M_member K k 91 lv st σ c z = k 91 (.iload 4, 2, 0, []) lv st σ c z := rfl
theorem go_M_member_93 : g_go c_M_member K k 93 lv st σ c z = k 93 (.istore 4, 2, 0, []) lv st σ c z := rfl
theorem go_M_member_95 : g_go c_M_member K k 95 lv st σ c z = k 95 (.iinc 5 (-1), 3, (-1), []) lv st σ c z := rfl
theorem go_M_member_98 : g_go c_M_member K k 98 lv st σ c z = k 98 (.goto (-42), 3, 0, [(0, 56)]) lv st σ c z := rfl
theorem go_M_member_101 : g_go c_M_member K k 101 lv st σ c z = k 101 (.iload 4, 2, 0, []) lv st σ c z := rfl
theorem go_M_member_103 : g_go c_M_member K k 103 lv st σ c z = k 103 (.iconst (-1), 1, (-1), []) lv st σ c z := rfl
theorem go_M_member_104 : g_go c_M_member K k 104 lv st σ c z = k 104 (.if_icmp .ne 6, 3, 0, [(0, 110)]) lv st σ c z := rfl
theorem go_M_member_107 : g_go c_M_member K k 107 lv st σ c z = k 107 (.bipush (-6), 2, (-6), []) lv st σ c z := rfl
theorem go_M_member_109 : g_go c_M_member K k 109 lv st σ c z = k 109 (.ireturn, 1, 0, []) lv st σ c z := rfl
theorem go_M_member_110 : g_go c_M_member K k 110 lv st σ c z = k 110 (.aload_n 0, 1, 0, []) lv st σ c z := rfl
theorem go_M_member_111 : g_go c_M_member K k 111 lv st σ c z = k 111 (.getfield 23, 3, 0, []) lv st σ c z := rfl
theorem go_M_member_114 : g_go c_M_member K k 114 lv st σ c z = k 114 (.iload_n 1, 1, 0, []) lv st σ c z := rfl
theorem go_M_member_115 : g_go c_M_member K k 115 lv st σ c z = k 115 (.iaload, 1, 0, []) lv st σ c z := rfl
theorem go_M_member_116 : g_go c_M_member K k 116 lv st σ c z = k 116 (.iload_n 3, 1, 0, []) lv st σ c z := rfl
theorem go_M_member_117 : g_go c_M_member K k 117 lv st σ c z = k 117 (.iadd, 1, 0, []) lv st σ c z := rfl
theorem go_M_member_118 : g_go c_M_member K k 118 lv st σ c z = k 118 (.aload_n 0, 1, 0, []) lv st σ c z := rfl
theorem go_M_member_119 : g_go c_M_member K k 119 lv st σ c z = k 119 (.iload_n 1, 1, 0, []) lv st σ c z := rfl
theorem go_M_member_120 : g_go c_M_member K k 120 lv st σ c z = k 120 (.invokevirtual 97, 3, 0, []) lv st σ c z := rfl
theorem go_M_member_123 : g_go c_M_member K k 123 lv st σ c z = k 123 (.if_icmp .le 6, 3, 0, [(0, 129)]) lv st σ c z := rfl
theorem go_M_member_126 : g_go c_M_member K k 126 lv st σ c z = k 126 (.bipush (-8), 2, (-8), []) lv st σ c z := rfl
theorem go_M_member_128 : g_go c_M_member K k 128 lv st σ c z = k 128 (.ireturn, 1, 0, []) lv st σ c z := rfl
theorem go_M_member_129 : g_go c_M_member K k 129 lv st σ c z = k 129 (.aload_n 0, 1, 0, []) lv st σ c z := rfl
theorem go_M_member_130 : g_go c_M_member K k 130 lv st σ c z = k 130 (.getfield 36, 3, 0, []) lv st σ c z := rfl
theorem go_M_member_133 : g_go c_M_member K k 133 lv st σ c z = k 133 (.iload 4, 2, 0, []) lv st σ c z := rfl
theorem go_M_member_135 : g_go c_M_member K k 135 lv st σ c z = k 135 (.iload_n 2, 1, 0, []) lv st σ c z := rfl
theorem go_M_member_136 : g_go c_M_member K k 136 lv st σ c z = k 136 (.iastore, 1, 0, []) lv st σ c z := rfl
theorem go_M_member_137 : g_go c_M_member K k 137 lv st σ c z = k 137 (.aload_n 0, 1, 0, []) lv st σ c z := rfl
theorem go_M_member_138 : g_go c_M_member K k 138 lv st σ c z = k 138 (.getfield 39, 3, 0, []) lv st σ c z := rfl
theorem go_M_member_141 : g_go c_M_member K k 141 lv st σ c z = k 141 (.iload 4, 2, 0, []) lv st σ c z := rfl
theorem go_M_member_143 : g_go c_M_member K k 143 lv st σ c z = k 143 (.aload_n 0, 1, 0, []) lv st σ c z := rfl
theorem go_M_member_144 : g_go c_M_member K k 144 lv st σ c z = k 144 (.getfield 23, 3, 0, []) lv st σ c z := rfl
theorem go_M_member_147 : g_go c_M_member K k 147 lv st σ c z = k 147 (.iload_n 1, 1, 0, []) lv st σ c z := rfl
theorem go_M_member_148 : g_go c_M_member K k 148 lv st σ c z = k 148 (.iaload, 1, 0, []) lv st σ c z := rfl
theorem go_M_member_149 : g_go c_M_member K k 149 lv st σ c z = k 149 (.iastore, 1, 0, []) lv st σ c z := rfl
theorem go_M_member_150 : g_go c_M_member K k 150 lv st σ c z = k 150 (.aload_n 0, 1, 0, []) lv st σ c z := rfl
theorem go_M_member_151 : g_go c_M_member K k 151 lv st σ c z = k 151 (.getfield 42, 3, 0, []) lv st σ c z := rfl
theorem go_M_member_154 : g_go c_M_member K k 154 lv st σ c z = k 154 (.iload 4, 2, 0, []) lv st σ c z := rfl
theorem go_M_member_156 : g_go c_M_member K k 156 lv st σ c z = k 156 (.iload_n 3, 1, 0, []) lv st σ c z := rfl
theorem go_M_member_157 : g_go c_M_member K k 157 lv st σ c z = k 157 (.iastore, 1, 0, []) lv st σ c z := rfl
theorem go_M_member_158 : g_go c_M_member K k 158 lv st σ c z = k 158 (.aload_n 0, 1, 0, []) lv st σ c z := rfl
theorem go_M_member_159 : g_go c_M_member K k 159 lv st σ c z = k 159 (.getfield 23, 3, 0, []) lv st σ c z := rfl
theorem go_M_member_162 : g_go c_M_member K k 162 lv st σ c z = k 162 (.iload_n 1, 1, 0, []) lv st σ c z := rfl
theorem go_M_member_163 : g_go c_M_member K k 163 lv st σ c z = k 163 (.dup2, 1, 0, []) lv st σ c z := rfl
theorem go_M_member_164 : g_go c_M_member K k 164 lv st σ c z = k 164 (.iaload, 1, 0, []) lv st σ c z := rfl
theorem go_M_member_165 : g_go c_M_member K k 165 lv st σ c z = k 165 (.iload_n 3, 1, 0, []) lv st σ c z := rfl
theorem go_M_member_166 : g_go c_M_member K k 166 lv st σ c z = k 166 (.iadd, 1, 0, []) lv st σ c z := rfl
theorem go_M_member_167 : g_go c_M_member K k 167 lv st σ c z = k 167 (.iastore, 1, 0, []) lv st σ c z := rfl
theorem go_M_member_168 : g_go c_M_member K k 168 lv st σ c z = k 168 (.iconst 1, 1, 1, []) lv st σ c z := rfl
theorem go_M_member_169 : g_go c_M_member K k 169 lv st σ c z = k 169 (.ireturn, 1, 0, []) lv st σ c z := rfl
theorem go_M_track_0 : g_go c_M_track K k 0 lv st σ c z = k 0 (.aload_n 0, 1, 0, []) lv st σ c z := rfl
theorem at_M_track_0 : g_at c_M_track k 0 lv st σ c z = k 0 (.aload_n 0, 1, 0, []) lv st σ c z := rfl
theorem go_M_track_1 : g_go c_M_track K k 1 lv st σ c z = k 1 (.iconst 0, 1, 0, []) lv st σ c z := rfl
theorem go_M_track_2 : g_go c_M_track K k 2 lv st σ c z = k 2 (.putfield 67, 3, 0, []) lv st σ c z := rfl
theorem go_M_track_5 : g_go c_M_track K k 5 lv st σ c z = k 5 (.aload_n 0, 1, 0, []) lv st σ c z := rfl
theorem go_M_track_6 : g_go c_M_track K k 6 lv st σ c z = k 6 (.iload_n 1, 1, 0, []) lv st σ c z := rfl
theorem go_M_track_7 : g_go c_M_track K k 7 lv st σ c z = k 7 (.invokevirtual 90, 3, 0, []) lv st σ c z := rfl
theorem go_M_track_10 : g_go c_M_track K k 10 lv st σ c z = k 10 (.ifCond .eq 12, 3, 0, [(0, 22)]) lv st σ c z := rfl
theorem go_M_track_13 : g_go c_M_track K k 13 lv st σ c z = k 13 (.aload_n 0, 1, 0, []) lv st σ c z := rfl
theorem go_M_track_14 : g_go c_M_track K k 14 lv st σ c z = k 14 (.iload_n 1, 1, 0, []) lv st σ c z := rfl
theorem go_M_track_15 : g_go c_M_track K k 15 lv st σ c z = k 15 (.iload_n 2, 1, 0, []) lv st σ c z := rfl
theorem go_M_track_16 : g_go c_M_track K k 16 lv st σ c z = k 16 (.invokevirtual 93, 3, 0, []) lv st σ c z := rfl
theorem go_M_track_19 : g_go c_M_track K k 19 lv st σ c z = k 19 (.goto 4, 3, 0, [(0, 23)]) lv st σ c z := rfl
theorem go_M_track_22 : g_go c_M_track K k 22 lv st σ c z = k 22 (.iconst (-1), 1, (-1), []) lv st σ c z := rfl
theorem go_M_track_23 : g_go c_M_track K k 23 lv st σ c z = k 23 (.istore_n 3, 1, 0, []) lv st σ c z := rfl
theorem go_M_track_24 : g_go c_M_track K k 24 lv st σ c z = k 24 (.iload_n 3, 1, 0, []) lv st σ c z := rfl
theorem go_M_track_25 : g_go c_M_track K k 25 lv st σ c z = k 25 (.iconst (-1), 1, (-1), []) lv st σ c z := rfl
theorem go_M_track_26 : g_go c_M_track K k 26 lv st σ c z = k 26 (.if_icmp .eq 12, 3, 0, [(0, 38)]) lv st σ c z := rfl
theorem go_M_track_29 : g_go c_M_track K k 29 lv st σ c z = k 29 (.aload_n 0, 1, 0, []) lv st σ c z := rfl
theorem go_M_track_30 : g_go c_M_track K k 30 lv st σ c z = k 30 (.getfield 42, 3, 0, []) lv st σ c z := rfl
theorem go_M_track_33 : g_go c_M_track K k 33 lv st σ c z = k 33 (.iload_n 3, 1, 0, []) lv st σ c z := rfl
theorem go_M_track_34 : g_go c_M_track K k 34 lv st σ c z = k 34 (.iaload, 1, 0, []) lv st σ c z := rfl
theorem go_M_track_35 : g_go c_M_track K k 35 lv st σ c z = k 35 (.ifCond .ne 5, 3, 0, [(0, 40)]) lv st σ c z := rfl
theorem go_M_track_38 : g_go c_M_track K k 38 lv st σ c z = k 38 (.iconst (-1), 1, (-1), []) lv st σ c z := rfl
theorem go_M_track_39 : g_go c_M_track K k 39 lv st σ c z = k 39 (.ireturn, 1, 0, []) lv st σ c z := rfl
theorem go_M_track_40 : g_go c_M_track K k 40 lv st σ c z = k 40 (.aload_n 0, 1, 0, []) lv st σ c z := rfl
theorem go_M_track_41 : g_go c_M_track K k 41 lv st σ c z = k 41 (.getfield 39, 3, 0, []) lv st σ c z := rfl
theorem go_M_track_44 : g_go c_M_track K k 44 lv st σ c z = k 44 (.iload_n 3, 1, 0, []) lv st σ c z := rfl
theorem go_M_track_45 : g_go c_M_track K k 45 lv st σ c z = k 45 (.iaload, 1, 0, []) lv st σ c z := rfl
theorem go_M_track_46 : g_go c_M_track K k 46 lv st σ c z = k 46 (.istore 4, 2, 0, []) lv st σ c z := rfl
theorem go_M_track_48 : g_go c_M_track K k 48 lv st σ c z = k 48 (.iconst 0, 1, 0, []) lv st σ c z := rfl
theorem go_M_track_49 : g_go c_M_track K k 49 lv st σ c z = k 49 (.istore 5, 2, 0, []) lv st σ c z := rfl
theorem go_M_track_51 : g_go c_M_track K k 51 lv st σ c z = K 51 (lv.take 6) st σ c z := rfl
theorem at_M_track_51 : g_at c_M_track k 51 lv st σ c z = k 51 (.iload 4, 2, 0, []) lv st σ c z := rfl
theorem go_M_track_53 : g_go c_M_track K k 53 lv st σ c z = k 53 (.aload_n 0, 1, 0, []) lv st σ c z := rfl
theorem go_M_track_54 : g_go c_M_track K k 54 lv st σ c z = k 54 (.getfield 29, 3, 0, []) lv st σ c z := rfl
theorem go_M_track_57 : g_go c_M_track K k 57 lv st σ c z = k 57 (.bipush 32, 2, 32, []) lv st σ c z := rfl
theorem go_M_track_59 : g_go c_M_track K k 59 lv st σ c z = k 59 (.iload_n 1, 1, 0, []) lv st σ c z := rfl
theorem go_M_track_60 : g_go c_M_track K k 60 lv st σ c z = k 60 (.imul, 1, 0, []) lv st σ c z := rfl
theorem go_M_track_61 : g_go c_M_track K k 61 lv st σ c z = k 61 (.iconst 2, 1, 2, []) lv st σ c z := rfl
theorem go_M_track_62 : g_go c_M_track K k 62 lv st σ c z = k 62 (.iload 5, 2, 0, []) lv st σ c z := rfl
theorem go_M_track_64 : g_go c_M_track K k 64 lv st σ c z = k 64 (.imul, 1, 0, []) lv st σ c z := rfl
theorem go_M_track_65 : g_go c_M_track K k 65 lv st σ c z = k 65 (.iadd, 1, 0, []) lv st σ c z := rfl
theorem go_M_track_66 : g_go c_M_track K k 66 lv st σ c z = k 66 (.iconst 1, 1, 1, []) lv st σ c z := rfl
theorem go_M_track_67 : g_go c_M_track K k 67 lv st σ c z = k 67 (.iadd, 1, 0, []) lv st σ c z := rfl
theorem go_M_track_68 : g_go c_M_track K k 68 lv st σ c z = k 68 (.iaload, 1, 0, []) lv st σ c z := rfl
theorem go_M_track_69 : g_go c_M_track K k 69 lv st σ c z = k 69 (.if_icmp .lt 30, 3, 0, [(0, 99)]) lv st σ c z := rfl
theorem go_M_track_72 : g_go c_M_track K k 72 lv st σ c z = k 72 (.iload 4, 2, 0, []) lv st σ c z := rfl
theorem go_M_track_74 : g_go c_M_track K k 74 lv st σ c z = k 74 (.aload_n 0, 1, 0, []) lv st σ c z := rfl
theorem go_M_track_75 : g_go c_M_track K k 75 lv st σ c z = k 75 (.getfield 29, 3, 0, []) lv st σ c z := rfl
theorem go_M_track_78 : g_go c_M_track K k 78 lv st σ c z = k 78 (.bipush 32, 2, 32, []) lv st σ c z := rfl
theorem go_M_track_80 : g_go c_M_track K k 80 lv st σ c z = k 80 (.iload_n 1, 1, 0, []) lv st σ c z := rfl
theorem go_M_track_81 : g_go c_M_track K k 81 lv st σ c z = k 81 (.imul, 1, 0, []) lv st σ c z := rfl
theorem go_M_track_82 : g_go c_M_track K k 82 lv st σ c z = k 82 (.iconst 2, 1, 2, []) lv st σ c z := rfl
theorem go_M_track_83 : g_go c_M_track K k 83 lv st σ c z = k 83 (.iload 5, 2, 0, []) lv st σ c z := rfl
theorem go_M_track_85 : g_go c_M_track K k 85 lv st σ c z = k 85 (.imul, 1, 0, []) lv st σ c z := rfl
theorem go_M_track_86 : g_go c_M_track K k 86 lv st σ c z = k 86 (.iadd, 1, 0, []) lv st σ c z := rfl
theorem go_M_track_87 : g_go c_M_track K k 87 lv st σ c z = k 87 (.iconst 1, 1, 1, []) lv st σ c z := rfl
theorem go_M_track_88 : g_go c_M_track K k 88 lv st σ c z = k 88 (.iadd, 1, 0, []) lv st σ c z := rfl
theorem go_M_track_89 : g_go c_M_track K k 89 lv st σ c z = k 89 (.iaload, 1, 0, []) lv st σ c z := rfl
theorem go_M_track_90 : g_go c_M_track K k 90 lv st σ c z = k 90 (.isub, 1, 0, []) lv st σ c z := rfl
theorem go_M_track_91 : g_go c_M_track K k 91 lv st σ c z = k 91 (.istore 4, 2, 0, []) lv st σ c z := rfl
theorem go_M_track_93 : g_go c_M_track K k 93 lv st σ c z = k 93 (.iinc 5 1, 3, 1, []) lv st σ c z := rfl
theorem go_M_track_96 : g_go c_M_track K k 96 lv st σ c z = k 96 (.goto (-45), 3, 0, [(0, 51)]) lv st σ c z := rfl
theorem go_M_track_99 : g_go c_M_track K k 99 lv st σ c z = k 99 (.aload_n 0, 1, 0, []) lv st σ c z := rfl
theorem go_M_track_100 : g_go c_M_track K k 100 lv st σ c z = k 100 (.getfield 29, 3, 0, []) lv st σ c z := rfl
theorem go_M_track_103 : g_go c_M_track K k 103 lv st σ c z = k 103 (.bipush 32, 2, 32, []) lv st σ c z := rfl
theorem go_M_track_105 : g_go c_M_track K k 105 lv st σ c z = k 105 (.iload_n 1, 1, 0, []) lv st σ c z := rfl
theorem go_M_track_106 : g_go c_M_track K k 106 lv st σ c z = k 106 (.imul, 1, 0, []) lv st σ c z := rfl
theorem go_M_track_107 : g_go c_M_track K k 107 lv st σ c z = k 107 (.iconst 2, 1, 2, []) lv st σ c z := rfl
theorem go_M_track_108 : g_go c_M_track K k 108 lv st σ c z = k 108 (.iload 5, 2, 0, []) lv st σ c z := rfl
theorem go_M_track_110 : g_go c_M_track K k 110 lv st σ c z = k 110 (.imul, 1, 0, []) lv st σ c z := rfl
theorem go_M_track_111 : g_go c_M_track K k 111 lv st σ c z = k 111 (.iadd, 1, 0, []) lv st σ c z := rfl
theorem go_M_track_112 : g_go c_M_track K k 112 lv st σ c z = k 112 (.iaload, 1, 0, []) lv st σ c z := rfl
theorem go_M_track_113 : g_go c_M_track K k 113 lv st σ c z = k 113 (.iload 4, 2, 0, []) lv st σ c z := rfl
theorem go_M_track_115 : g_go c_M_track K k 115 lv st σ c z = k 115 (.iadd, 1, 0, []) lv st σ c z := rfl
theorem go_M_track_116 : g_go c_M_track K k 116 lv st σ c z = k 116 (.ireturn, 1, 0, []) lv st σ c z := rfl
theorem go_M_compress_0 : g_go c_M_compress K k 0 lv st σ c z = k 0 (.aload_n 0, 1, 0, []) lv st σ c z := rfl
theorem at_M_compress_0 : g_at c_M_compress k 0 lv st σ c z = k 0 (.aload_n 0, 1, 0, []) lv st σ c z := rfl
theorem go_M_compress_1 : g_go c_M_compress K k 1 lv st σ c z = k 1 (.iconst 0, 1, 0, []) lv st σ c z := rfl
theorem go_M_compress_2 : g_go c_M_compress K k 2 lv st σ c z = k 2 (.putfield 67, 3, 0, []) lv st σ c z := rfl
theorem go_M_compress_5 : g_go c_M_compress K k 5 lv st σ c z = k 5 (.aload_n 0, 1, 0, []) lv st σ c z := rfl
theorem go_M_compress_6 : g_go c_M_compress K k 6 lv st σ c z = k 6 (.iload_n 1, 1, 0, []) lv st σ c z := rfl
theorem go_M_compress_7 : g_go c_M_compress K k 7 lv st σ c z = k 7 (.invokevirtual 90, 3, 0, []) lv st σ c z := rfl
theorem go_M_compress_10 : g_go c_M_compress K k 10 lv st σ c z = k 10 (.ifCond .ne 6, 3, 0, [(0, 16)]) lv st σ c z := rfl
theorem go_M_compress_13 : g_go c_M_compress K k 13 lv st σ c z = k 13 (.bipush (-2), 2, (-2), []) lv st σ c z := rfl
theorem go_M_compress_15 : g_go c_M_compress K k 15 lv st σ c z = k 15 (.ireturn, 1, 0, []) lv st σ c z := rfl
theorem go_M_compress_16 : g_go c_M_compress K k 16 lv st σ c z = k 16 (.aload_n 0, 1, 0, []) lv st σ c z := rfl
theorem go_M_compress_17 : g_go c_M_compress K k 17 lv st σ c z = k 17 (.getfield 23, 3, 0, []) lv st σ c z := rfl
theorem go_M_compress_20 : g_go c_M_compress K k 20 lv st σ c z = k 20 (.iload_n 1, 1, 0, []) lv st σ c z := rfl
theorem go_M_compress_21 : g_go c_M_compress K k 21 lv st σ c z = k 21 (.iaload, 1, 0, []) lv st σ c z := rfl
theorem go_M_compress_22 : g_go c_M_compress K k 22 lv st σ c z = k 22 (.istore_n 2, 1, 0, []) lv st σ c z := rfl
theorem go_M_compress_23 : g_go c_M_compress K k 23 lv st σ c z = k 23 (.iconst 0, 1, 0, []) lv st σ c z := rfl
theorem go_M_compress_24 : g_go c_M_compress K k 24 lv st σ c z = k 24 (.istore_n 3, 1, 0, []) lv st σ c z := rfl
theorem go_M_compress_25 : g_go c_M_compress K k 25 lv st σ c z = k 25 (.iconst 0, 1, 0, []) lv st σ c z := rfl
theorem go_M_compress_26 : g_go c_M_compress K k 26 lv st σ c z = k 26 (.istore 4, 2, 0, []) lv st σ c z := rfl
theorem go_M_compress_28 : g_go c_M_compress K k 28 lv st σ c z = K 28 (lv.take 5) st σ c z := rfl
theorem at_M_compress_28 : g_at c_M_compress k 28 lv st σ c z = k 28 (.iload 4, 2, 0, []) lv st σ c z := rfl
theorem go_M_compress_30 : g_go c_M_compress K k 30 lv st σ c z = k 30 (.iload_n 2, 1, 0, []) lv st σ c z := rfl
theorem go_M_compress_31 : g_go c_M_compress K k 31 lv st σ c z = k 31 (.if_icmp .ge 87, 3, 0, [(0, 118)]) lv st σ c z := rfl
theorem go_M_compress_34 : g_go c_M_compress K k 34 lv st σ c z = k 34 (.bipush 12, 2, 12, []) lv st σ c z := rfl
theorem go_M_compress_36 : g_go c_M_compress K k 36 lv st σ c z = k 36 (.iload_n 1, 1, 0, []) lv st σ c z := rfl
theorem go_M_compress_37 : g_go c_M_compress K k 37 lv st σ c z = k 37 (.imul, 1, 0, []) lv st σ c z := rfl
theorem go_M_compress_38 : g_go c_M_compress K k 38 lv st σ c z = k 38 (.istore 5, 2, 0, []) lv st σ c z := rfl
theorem go_M_compress_40 : g_go c_M_compress K k 40 lv st σ c z = K 40 (lv.take 6) st σ c z := rfl
theorem at_M_compress_40 : g_at c_M_compress k 40 lv st σ c z = k 40 (.iload 5, 2, 0, []) lv st σ c z := rfl
theorem go_M_compress_42 : g_go c_M_compress K k 42 lv st σ c z = k 42 (.bipush 12, 2, 12, []) lv st σ c z := rfl
theorem go_M_compress_44 : g_go c_M_compress K k 44 lv st σ c z = k 44 (.iload_n 1, 1, 0, []) lv st σ c z := rfl
theorem go_M_compress_45 : g_go c_M_compress K k 45 lv st σ c z = k 45 (.imul, 1, 0, []) lv st σ c z := rfl
theorem go_M_compress_46 : g_go c_M_compress K k 46 lv st σ c z = k 46 (.bipush 12, 2, 12, []) lv st σ c z := rfl
theorem go_M_compress_48 : g_go c_M_compress K k 48 lv st σ c z = k 48 (.iadd, 1, 0, []) lv st σ c z := rfl
theorem go_M_compress_49 : g_go c_M_compress K k 49 lv st σ c z = k 49 (.if_icmp .ge 63, 3, 0, [(0, 112)]) lv st σ c z := rfl
theorem go_M_compress_52 : g_go c_M_compress K k 52 lv st σ c z = k 52 (.aload_n 0, 1, 0, []) lv st σ c z := rfl
theorem go_M_compress_53 : g_go c_M_compress K k 53 lv st σ c z = k 53 (.getfield 36, 3, 0, []) lv st σ c z := rfl
theorem go_M_compress_56 : g_go c_M_compress K k 56 lv st σ c z = k 56 (.iload 5, 2, 0, []) lv st σ c z := rfl
theorem go_M_compress_58 : g_go c_M_compress K k 58 lv st σ c z = k 58 (.iaload, 1, 0, []) lv st σ c z := rfl
theorem go_M_compress_59 : g_go c_M_compress K k 59 lv st σ c z = k 59 (.iconst (-1), 1, (-1), []) lv st σ c z := rfl
theorem go_M_compress_60 : g_go c_M_compress K k 60 lv st σ c z = k 60 (.if_icmp .eq 46, 3, 0, [(0, 106)]) lv st σ c z := rfl
theorem go_M_compress_63 : g_go c_M_compress K k 63 lv st σ c z = k 63 (.aload_n 0, 1, 0, []) lv st σ c z := rfl
theorem go_M_compress_64 : g_go c_M_compress K k 64 lv st σ c z = k 64 (.getfield 42, 3, 0, []) lv st σ c z := rfl
theorem go_M_compress_67 : g_go c_M_compress K k 67 lv st σ c z = k 67 (.iload 5, 2, 0, []) lv st σ c z := rfl
theorem go_M_compress_69 : g_go c_M_compress K k 69 lv st σ c z = k 69 (.iaload, 1, 0, []) lv st σ c z := rfl
theorem go_M_compress_70 : g_go c_M_compress K k 70 lv st σ c z = k 70 (.ifCond .eq 36, 3, 0, [(0, 106)]) lv st σ c z := rfl
theorem go_M_compress_73 : g_go c_M_compress K k 73 lv st σ c z = k 73 (.aload_n 0, 1, 0, []) lv st σ c z := rfl
theorem go_M_compress_74 : g_go c_M_compress K k 74 lv st σ c z = k 74 (.getfield 39, 3, 0, []) lv st σ c z := rfl
theorem go_M_compress_77 : g_go c_M_compress K k 77 lv st σ c z = k 77 (.iload 5, 2, 0, []) lv st σ c z := rfl
theorem go_M_compress_79 : g_go c_M_compress K k 79 lv st σ c z = k 79 (.iaload, 1, 0, []) lv st σ c z := rfl
theorem go_M_compress_80 : g_go c_M_compress K k 80 lv st σ c z = k 80 (.iload 4, 2, 0, []) lv st σ c z := rfl
theorem go_M_compress_82 : g_go c_M_compress K k 82 lv st σ c z = k 82 (.if_icmp .eq 6, 3, 0, [(0, 88)]) lv st σ c z := rfl
theorem go_M_compress_85 : g_go c_M_compress K k 85 lv st σ c z = k 85 (.goto 21, 3, 0, [(0, 106)]) lv st σ c z := rfl
theorem go_M_compress_88 : g_go c_M_compress K k 88 lv st σ c z = k 88 (.aload_n 0, 1, 0, []) lv st σ c z := rfl
theorem go_M_compress_89 : g_go c_M_compress K k 89 lv st σ c z = k 89 (.getfield 39, 3, 0, []) lv st σ c z := rfl
theorem go_M_compress_92 : g_go c_M_compress K k 92 lv st σ c z = k 92 (.iload 5, 2, 0, []) lv st σ c z := rfl
theorem go_M_compress_94 : g_go c_M_compress K k 94 lv st σ c z = k 94 (.iload_n 3, 1, 0, []) lv st σ c z := rfl
theorem go_M_compress_95 : g_go c_M_compress K k 95 lv st σ c z = k 95 (.iastore, 1, 0, []) lv st σ c z := rfl
theorem go_M_compress_96 : g_go c_M_compress K k 96 lv st σ c z = k 96 (.iload_n 3, 1, 0, []) lv st σ c z := rfl
theorem go_M_compress_97 : g_go c_M_compress K k 97 lv st σ c z = k 97 (.aload_n 0, 1, 0, []) lv st σ c z := rfl
theorem go_M_compress_98 : g_go c_M_compress K k 98 lv st σ c z = k 98 (.getfield 42, 3, 0, []) lv st σ c z := rfl
theorem go_M_compress_101 : g_go c_M_compress K k 101 lv st σ c z = k 101 (.iload 5, 2, 0, []) lv st σ c z := rfl
theorem go_M_compress_103 : g_go c_M_compress K k 103 lv st σ c z = k 103 (.iaload, 1, 0, []) lv st σ c z := rfl
theorem go_M_compress_104 : g_go c_M_compress K k 104 lv st σ c z = k 104 (.iadd, 1, 0, []) lv st σ c z := rfl
theorem go_M_compress_105 : g_go c_M_compress K k 105 lv st σ c z = k 105 (.istore_n 3, 1, 0, []) lv st σ c z := rfl
theorem go_M_compress_106 : g_go c_M_compress K k 106 lv st σ c z = k 106 (.iinc 5 1, 3, 1, []) lv st σ c z := rfl
theorem go_M_compress_109 : g_go c_M_compress K k 109 lv st σ c z = k 109 (.goto (-69), 3, 0, [(0, 40)]) lv st σ c z := rfl
theorem go_M_compress_112 : g_go c_M_compress K k 112 lv st σ c z = k 112 (.iinc 4 1, 3, 1, []) lv st σ c z := rfl
theorem go_M_compress_115 : g_go c_M_compress K k 115 lv st σ c z = k 115 (.goto (-87), 3, 0, [(0, 28)]) lv st σ c z := rfl
theorem go_M_compress_118 : g_go c_M_compress K k 118 lv st σ c z = k 118 (.aload_n 0, 1, 0, []) lv st σ c z := rfl
theorem go_M_compress_119 : g_go c_M_compress K k 119 lv st σ c z = k 119 (.getfield 23, 3, 0, []) lv st σ c z := rfl
theorem go_M_compress_122 : g_go c_M_compress K k 122 lv st σ c z = k 122 (.iload_n 1, 1, 0, []) lv st σ c z := rfl
theorem go_M_compress_123 : g_go c_M_compress K k 123 lv st σ c z = k 123 (.iload_n 3, 1, 0, []) lv st σ c z := rfl
theorem go_M_compress_124 : g_go c_M_compress K k 124 lv st σ c z = k 124 (.iastore, 1, 0, []) lv st σ c z := rfl
theorem go_M_compress_125 : g_go c_M_compress K k 125 lv st σ c z = k 125 (.iload_n 2, 1, 0, []) lv st σ c z := rfl
theorem go_M_compress_126 : g_go c_M_compress K k 126 lv st σ c z = k 126 (.iload_n 3, 1, 0, []) lv st σ c z := rfl
theorem go_M_compress_127 : g_go c_M_compress K k 127 lv st σ c z = k 127 (.isub, 1, 0, []) lv st σ c z := rfl
theorem go_M_compress_128 : g_go c_M_compress K k 128 lv st σ c z = k 128 (.ireturn, 1, 0, []) lv st σ c z := rfl
theorem go_M_release_0 : g_go c_M_release K k 0 lv st σ c z = k 0 (.aload_n 0, 1, 0, []) lv st σ c z := rfl
theorem at_M_release_0 : g_at c_M_release k 0 lv st σ c z = k 0 (.aload_n 0, 1, 0, []) lv st σ c z := rfl
theorem go_M_release_1 : g_go c_M_release K k 1 lv st σ c z = k 1 (.iconst 0, 1, 0, []) lv st σ c z := rfl
theorem go_M_release_2 : g_go c_M_release K k 2 lv st σ c z = k 2 (.putfield 67, 3, 0, []) lv st σ c z := rfl
theorem go_M_release_5 : g_go c_M_release K k 5 lv st σ c z = k 5 (.aload_n 0, 1, 0, []) lv st σ c z := rfl
theorem go_M_release_6 : g_go c_M_release K k 6 lv st σ c z = k 6 (.iload_n 1, 1, 0, []) lv st σ c z := rfl
theorem go_M_release_7 : g_go c_M_release K k 7 lv st σ c z = k 7 (.invokevirtual 90, 3, 0, []) lv st σ c z := rfl
theorem go_M_release_10 : g_go c_M_release K k 10 lv st σ c z = k 10 (.ifCond .ne 6, 3, 0, [(0, 16)]) lv st σ c z := rfl
theorem go_M_release_13 : g_go c_M_release K k 13 lv st σ c z = k 13 (.bipush (-2), 2, (-2), []) lv st σ c z := rfl
theorem go_M_release_15 : g_go c_M_release K k 15 lv st σ c z = k 15 (.ireturn, 1, 0, []) lv st σ c z := rfl
theorem go_M_release_16 : g_go c_M_release K k 16 lv st σ c z = k 16 (.aload_n 0, 1, 0, []) lv st σ c z := rfl
theorem go_M_release_17 : g_go c_M_release K k 17 lv st σ c z = k 17 (.getfield 23, 3, 0, []) lv st σ c z := rfl
theorem go_M_release_20 : g_go c_M_release K k 20 lv st σ c z = k 20 (.iload_n 1, 1, 0, []) lv st σ c z := rfl
theorem go_M_release_21 : g_go c_M_release K k 21 lv st σ c z = k 21 (.iaload, 1, 0, []) lv st σ c z := rfl
theorem go_M_release_22 : g_go c_M_release K k 22 lv st σ c z = k 22 (.iconst 1, 1, 1, []) lv st σ c z := rfl
theorem go_M_release_23 : g_go c_M_release K k 23 lv st σ c z = k 23 (.if_icmp .le 12, 3, 0, [(0, 35)]) lv st σ c z := rfl
theorem go_M_release_26 : g_go c_M_release K k 26 lv st σ c z = k 26 (.aload_n 0, 1, 0, []) lv st σ c z := rfl
theorem go_M_release_27 : g_go c_M_release K k 27 lv st σ c z = k 27 (.getfield 23, 3, 0, []) lv st σ c z := rfl
theorem go_M_release_30 : g_go c_M_release K k 30 lv st σ c z = k 30 (.iload_n 1, 1, 0, []) lv st σ c z := rfl
theorem go_M_release_31 : g_go c_M_release K k 31 lv st σ c z = k 31 (.iaload, 1, 0, []) lv st σ c z := rfl
theorem go_M_release_32 : g_go c_M_release K k 32 lv st σ c z = k 32 (.goto 4, 3, 0, [(0, 36)]) lv st σ c z := rfl
theorem go_M_release_35 : g_go c_M_release K k 35 lv st σ c z = k 35 (.iconst 1, 1, 1, []) lv st σ c z := rfl
theorem go_M_release_36 : g_go c_M_release K k 36 lv st σ c z = k 36 (.istore_n 2, 1, 0, []) lv st σ c z := rfl
theorem go_M_release_37 : g_go c_M_release K k 37 lv st σ c z = k 37 (.iconst 0, 1, 0, []) lv st σ c z := rfl
theorem go_M_release_38 : g_go c_M_release K k 38 lv st σ c z = k 38 (.istore_n 3, 1, 0, []) lv st σ c z := rfl
theorem go_M_release_39 : g_go c_M_release K k 39 lv st σ c z = k 39 (.iconst 0, 1, 0, []) lv st σ c z := rfl
theorem go_M_release_40 : g_go c_M_release K k 40 lv st σ c z = k 40 (.istore 4, 2, 0, []) lv st σ c z := rfl
theorem go_M_release_42 : g_go c_M_release K k 42 lv st σ c z = k 42 (.iconst 0, 1, 0, []) lv st σ c z := rfl
theorem go_M_release_43 : g_go c_M_release K k 43 lv st σ c z = k 43 (.istore 5, 2, 0, []) lv st σ c z := rfl
theorem go_M_release_45 : g_go c_M_release K k 45 lv st σ c z = k 45 (.iconst 0, 1, 0, []) lv st σ c z := rfl
theorem go_M_release_46 : g_go c_M_release K k 46 lv st σ c z = k 46 (.istore 6, 2, 0, []) lv st σ c z := rfl
theorem go_M_release_48 : g_go c_M_release K k 48 lv st σ c z = K 48 (lv.take 7) st σ c z := rfl
theorem at_M_release_48 : g_at c_M_release k 48 lv st σ c z = k 48 (.iload 6, 2, 0, []) lv st σ c z := rfl
theorem go_M_release_50 : g_go c_M_release K k 50 lv st σ c z = k 50 (.aload_n 0, 1, 0, []) lv st σ c z := rfl
theorem go_M_release_51 : g_go c_M_release K k 51 lv st σ c z = k 51 (.getfield 26, 3, 0, []) lv st σ c z := rfl
theorem go_M_release_54 : g_go c_M_release K k 54 lv st σ c z = k 54 (.iload_n 1, 1, 0, []) lv st σ c z := rfl
theorem go_M_release_55 : g_go c_M_release K k 55 lv st σ c z = k 55 (.iaload, 1, 0, []) lv st σ c z := rfl
theorem go_M_release_56 : g_go c_M_release K k 56 lv st σ c z = k 56 (.if_icmp .ge 146, 3, 0, [(0, 202)]) lv st σ c z := rfl
theorem go_M_release_59 : g_go c_M_release K k 59 lv st σ c z = k 59 (.aload_n 0, 1, 0, []) lv st σ c z := rfl
theorem go_M_release_60 : g_go c_M_release K k 60 lv st σ c z = k 60 (.getfield 29, 3, 0, []) lv st σ c z := rfl
theorem go_M_release_63 : g_go c_M_release K k 63 lv st σ c z = k 63 (.bipush 32, 2, 32, []) lv st σ c z := rfl
theorem go_M_release_65 : g_go c_M_release K k 65 lv st σ c z = k 65 (.iload_n 1, 1, 0, []) lv st σ c z := rfl
theorem go_M_release_66 : g_go c_M_release K k 66 lv st σ c z = k 66 (.imul, 1, 0, []) lv st σ c z := rfl
theorem go_M_release_67 : g_go c_M_release K k 67 lv st σ c z = k 67 (.iconst 2, 1, 2, []) lv st σ c z := rfl
theorem go_M_release_68 : g_go c_M_release K k 68 lv st σ c z = k 68 (.iload 6, 2, 0, []) lv st σ c z := rfl
theorem go_M_release_70 : g_go c_M_release K k 70 lv st σ c z = k 70 (.imul, 1, 0, []) lv st σ c z := rfl
theorem go_M_release_71 : g_go c_M_release K k 71 lv st σ c z = k 71 (.iadd, 1, 0, []) lv st σ c z := rfl
theorem go_M_release_72 : g_go c_M_release K k 72 lv st σ c z = k 72 (.iconst 1, 1, 1, []) lv st σ c z := rfl
theorem go_M_release_73 : g_go c_M_release K k 73 lv st σ c z = k 73 (.iadd, 1, 0, []) lv st σ c z := rfl
theorem go_M_release_74 : g_go c_M_release K k 74 lv st σ c z = k 74 (.iaload, 1, 0, []) lv st σ c z := rfl
theorem go_M_release_75 : g_go c_M_release K k 75 lv st σ c z = k 75 (.istore 7, 2, 0, []) lv st σ c z := rfl
theorem go_M_release_77 : g_go c_M_release K k 77 lv st σ c z = k 77 (.iload_n 2, 1, 0, []) lv st σ c z := rfl
theorem go_M_release_78 : g_go c_M_release K k 78 lv st σ c z = k 78 (.iload 5, 2, 0, []) lv st σ c z := rfl
theorem go_M_release_80 : g_go c_M_release K k 80 lv st σ c z = k 80 (.isub, 1, 0, []) lv st σ c z := rfl
theorem go_M_release_81 : g_go c_M_release K k 81 lv st σ c z = k 81 (.ifCond .ge 7, 3, 0, [(0, 88)]) lv st σ c z := rfl
theorem go_M_release_84 : g_go c_M_release K k 84 lv st σ c z = k 84 (.iconst 0, 1, 0, []) lv st σ c z := rfl
theorem go_M_release_85 : g_go c_M_release K k 85 lv st σ c z = k 85 (.goto 21, 3, 0, [(0, 106)]) lv st σ c z := rfl
theorem go_M_release_88 : g_go c_M_release K k 88 lv st σ c z = k 88 (.iload_n 2, 1, 0, []) lv st σ c z := rfl
theorem go_M_release_89 : g_go c_M_release K k 89 lv st σ c z = k 89 (.iload 5, 2, 0, []) lv st σ c z := rfl
theorem go_M_release_91 : g_go c_M_release K k 91 lv st σ c z = k 91 (.isub, 1, 0, []) lv st σ c z := rfl
theorem go_M_release_92 : g_go c_M_release K k 92 lv st σ c z = k 92 (.iload 7, 2, 0, []) lv st σ c z := rfl
theorem go_M_release_94 : g_go c_M_release K k 94 lv st σ c z = k 94 (.if_icmp .ge 10, 3, 0, [(0, 104)]) lv st σ c z := rfl
theorem go_M_release_97 : g_go c_M_release K k 97 lv st σ c z = k 97 (.iload_n 2, 1, 0, []) lv st σ c z := rfl
theorem go_M_release_98 : g_go c_M_release K k 98 lv st σ c z = k 98 (.iload 5, 2, 0, []) lv st σ c z := rfl
theorem go_M_release_100 : g_go c_M_release K k 100 lv st σ c z = k 100 (.isub, 1, 0, []) lv st σ c z := rfl
theorem go_M_release_101 : g_go c_M_release K k 101 lv st σ c z = k 101 (.goto 5, 3, 0, [(0, 106)]) lv st σ c z := rfl
theorem go_M_release_104 : g_go c_M_release K k 104 lv st σ c z = k 104 (.iload 7, 2, 0, []) lv st σ c z := rfl
theorem go_M_release_106 : g_go c_M_release K k 106 lv st σ c z = k 106 (.istore 8, 2, 0, []) lv st σ c z := rfl
theorem go_M_release_108 : g_go c_M_release K k 108 lv st σ c z = k 108 (.iload 5, 2, 0, []) lv st σ c z := rfl
theorem go_M_release_110 : g_go c_M_release K k 110 lv st σ c z = k 110 (.iload 7, 2, 0, []) lv st σ c z := rfl
theorem go_M_release_112 : g_go c_M_release K k 112 lv st σ c z = k 112 (.iadd, 1, 0, []) lv st σ c z := rfl
theorem go_M_release_113 : g_go c_M_release K k 113 lv st σ c z = k 113 (.istore 5, 2, 0, []) lv st σ c z := rfl
theorem go_M_release_115 : g_go c_M_release K k 115 lv st σ c z = k 115 (.iload 8, 2, 0, []) lv st σ c z := rfl
theorem go_M_release_117 : g_go c_M_release K k 117 lv st σ c z = k 117 (.istore 9, 2, 0, []) lv st σ c z := rfl
theorem go_M_release_119 : g_go c_M_release K k 119 lv st σ c z = K 119 (lv.take 10) st σ c z := rfl
theorem at_M_release_119 : g_at c_M_release k 119 lv st σ c z = k 119 (.iload 9, 2, 0, []) lv st σ c z := rfl
theorem go_M_release_121 : g_go c_M_release K k 121 lv st σ c z = k 121 (.iload 7, 2, 0, []) lv st σ c z := rfl
theorem go_M_release_123 : g_go c_M_release K k 123 lv st σ c z = k 123 (.if_icmp .ge 32, 3, 0, [(0, 155)]) lv st σ c z := rfl
theorem go_M_release_126 : g_go c_M_release K k 126 lv st σ c z = k 126 (.aload_n 0, 1, 0, []) lv st σ c z := rfl
theorem go_M_release_127 : g_go c_M_release K k 127 lv st σ c z = k 127 (.getfield 7, 3, 0, []) lv st σ c z := rfl
theorem go_M_release_130 : g_go c_M_release K k 130 lv st σ c z = k 130 (.aload_n 0, 1, 0, []) lv st σ c z := rfl
theorem go_M_release_131 : g_go c_M_release K k 131 lv st σ c z = k 131 (.getfield 29, 3, 0, []) lv st σ c z := rfl
theorem go_M_release_134 : g_go c_M_release K k 134 lv st σ c z = k 134 (.bipush 32, 2, 32, []) lv st σ c z := rfl
theorem go_M_release_136 : g_go c_M_release K k 136 lv st σ c z = k 136 (.iload_n 1, 1, 0, []) lv st σ c z := rfl
theorem go_M_release_137 : g_go c_M_release K k 137 lv st σ c z = k 137 (.imul, 1, 0, []) lv st σ c z := rfl
theorem go_M_release_138 : g_go c_M_release K k 138 lv st σ c z = k 138 (.iconst 2, 1, 2, []) lv st σ c z := rfl
theorem go_M_release_139 : g_go c_M_release K k 139 lv st σ c z = k 139 (.iload 6, 2, 0, []) lv st σ c z := rfl
theorem go_M_release_141 : g_go c_M_release K k 141 lv st σ c z = k 141 (.imul, 1, 0, []) lv st σ c z := rfl
theorem go_M_release_142 : g_go c_M_release K k 142 lv st σ c z = k 142 (.iadd, 1, 0, []) lv st σ c z := rfl
theorem go_M_release_143 : g_go c_M_release K k 143 lv st σ c z = k 143 (.iaload, 1, 0, []) lv st σ c z := rfl
theorem go_M_release_144 : g_go c_M_release K k 144 lv st σ c z = k 144 (.iload 9, 2, 0, []) lv st σ c z := rfl
theorem go_M_release_146 : g_go c_M_release K k 146 lv st σ c z = k 146 (.iadd, 1, 0, []) lv st σ c z := rfl
theorem go_M_release_147 : g_go c_M_release K k 147 lv st σ c z = k 147 (.iconst 0, 1, 0, []) lv st σ c z := rfl
theorem go_M_release_148 : g_go c_M_release K k 148 lv st σ c z = k 148 (.iastore, 1, 0, []) lv st σ c z := rfl
theorem go_M_release_149 : g_go c_M_release K k 149 lv st σ c z = k 149 (.iinc 9 1, 3, 1, []) lv st σ c z := rfl
theorem go_M_release_152 : g_go c_M_release K k 152 lv st σ c z = k 152 (.goto (-33), 3, 0, [(0, 119)]) lv st σ c z := rfl
theorem go_M_release_155 : g_go c_M_release K k 155 lv st σ c z = k 155 (.iload_n 3, 1, 0, []) lv st σ c z := rfl
theorem go_M_release_156 : g_go c_M_release K k 156 lv st σ c z = k 156 (.iload 7, 2, 0, []) lv st σ c z := rfl
theorem go_M_release_158 : g_go c_M_release K k 158 lv st σ c z = k 158 (.iload 8, 2, 0, []) lv st σ c z := rfl
theorem go_M_release_160 : g_go c_M_release K k 160 lv st σ c z = k 160 (.isub, 1, 0, []) lv st σ c z := rfl
theorem go_M_release_161 : g_go c_M_release K k 161 lv st σ c z = k 161 (.iadd, 1, 0, []) lv st σ c z := rfl
theorem go_M_release_162 : g_go c_M_release K k 162 lv st σ c z = k 162 (.istore_n 3, 1, 0, []) lv st σ c z := rfl
theorem go_M_release_163 : g_go c_M_release K k 163 lv st σ c z = k 163 (.aload_n 0, 1, 0, []) lv st σ c z := rfl
theorem go_M_release_164 : g_go c_M_release K k 164 lv st σ c z = k 164 (.getfield 29, 3, 0, []) lv st σ c z := rfl
theorem go_M_release_167 : g_go c_M_release K k 167 lv st σ c z = k 167 (.bipush 32, 2, 32, []) lv st σ c z := rfl
theorem go_M_release_169 : g_go c_M_release K k 169 lv st σ c z = k 169 (.iload_n 1, 1, 0, []) lv st σ c z := rfl
theorem go_M_release_170 : g_go c_M_release K k 170 lv st σ c z = k 170 (.imul, 1, 0, []) lv st σ c z := rfl
theorem go_M_release_171 : g_go c_M_release K k 171 lv st σ c z = k 171 (.iconst 2, 1, 2, []) lv st σ c z := rfl
theorem go_M_release_172 : g_go c_M_release K k 172 lv st σ c z = k 172 (.iload 6, 2, 0, []) lv st σ c z := rfl
theorem go_M_release_174 : g_go c_M_release K k 174 lv st σ c z = k 174 (.imul, 1, 0, []) lv st σ c z := rfl
theorem go_M_release_175 : g_go c_M_release K k 175 lv st σ c z = k 175 (.iadd, 1, 0, []) lv st σ c z := rfl
theorem go_M_release_176 : g_go c_M_release K k 176 lv st σ c z = k 176 (.iconst 1, 1, 1, []) lv st σ c z := rfl
theorem go_M_release_177 : g_go c_M_release K k 177 lv st σ c z = k 177 (.iadd, 1, 0, []) lv st σ c z := rfl
theorem go_M_release_178 : g_go c_M_release K k 178 lv st σ c z = k 178 (.iload 8, 2, 0, []) lv st σ c z := rfl
theorem go_M_release_180 : g_go c_M_release K k 180 lv st σ c z = k 180 (.iastore, 1, 0, []) lv st σ c z := rfl
theorem go_M_release_181 : g_go c_M_release K k 181 lv st σ c z = k 181 (.iload 4, 2, 0, []) lv st σ c z := rfl
theorem go_M_release_183 : g_go c_M_release K k 183 lv st σ c z = k 183 (.iload 8, 2, 0, []) lv st σ c z := rfl
theorem go_M_release_185 : g_go c_M_release K k 185 lv st σ c z = k 185 (.ifCond .le 7, 3, 0, [(0, 192)]) lv st σ c z := rfl
theorem go_M_release_188 : g_go c_M_release K k 188 lv st σ c z = k 188 (.iconst 1, 1, 1, []) lv st σ c z := rfl
theorem go_M_release_189 : g_go c_M_release K k 189 lv st σ c z = k 189 (.goto 4, 3, 0, [(0, 193)]) lv st σ c z := rfl
theorem go_M_release_192 : g_go c_M_release K k 192 lv st σ c z = k 192 (.iconst 0, 1, 0, []) lv st σ c z := rfl
theorem go_M_release_193 : g_go c_M_release K k 193 lv st σ c z = k 193 (.iadd, 1, 0, []) lv st σ c z := rfl
theorem go_M_release_194 : g_go c_M_release K k 194 lv st σ c z = k 194 (.istore 4, 2, 0, []) lv st σ c z := rfl
theorem go_M_release_196 : g_go c_M_release K k 196 lv st σ c z = k 196 (.iinc 6 1, 3, 1, []) lv st σ c z := rfl
theorem go_M_release_199 : g_go c_M_release K k 199 lv st σ c z = k 199 (.goto (-151), 3, 0, [(0, 48)]) lv st σ c z := rfl
theorem go_M_release_202 : g_go c_M_release K k 202 lv st σ c z = k 202 (.aload_n 0, 1, 0, []) lv st σ c z := rfl
theorem go_M_release_203 : g_go c_M_release K k 203 lv st σ c z = k 203 (.getfield 26, 3, 0, []) lv st σ c z := rfl
theorem go_M_release_206 : g_go c_M_release K k 206 lv st σ c z = k 206 (.iload_n 1, 1, 0, []) lv st σ c z := rfl
theorem go_M_release_207 : g_go c_M_release K k 207 lv st σ c z = k 207 (.iload 4, 2, 0, []) lv st σ c z := rfl
theorem go_M_release_209 : g_go c_M_release K k 209 lv st σ c z = k 209 (.iastore, 1, 0, []) lv st σ c z := rfl
theorem go_M_release_210 : g_go c_M_release K k 210 lv st σ c z = k 210 (.iload_n 3, 1, 0, []) lv st σ c z := rfl
theorem go_M_release_211 : g_go c_M_release K k 211 lv st σ c z = k 211 (.ireturn, 1, 0, []) lv st σ c z := rfl
theorem go_M_isAsked_0 : g_go c_M_isAsked K k 0 lv st σ c z = k 0 (.iconst 0, 1, 0, []) lv st σ c z := rfl
theorem at_M_isAsked_0 : g_at c_M_isAsked k 0 lv st σ c z = k 0 (.iconst 0, 1, 0, []) lv st σ c z := rfl
theorem go_M_isAsked_1 : g_go c_M_isAsked K k 1 lv st σ c z = k 1 (.istore_n 2, 1, 0, []) lv st σ c z := rfl
theorem go_M_isAsked_2 : g_go c_M_isAsked K k 2 lv st σ c z = k 2 (.iconst 0, 1, 0, []) lv st σ c z := rfl
theorem go_M_isAsked_3 : g_go c_M_isAsked K k 3 lv st σ c z = k 3 (.istore_n 3, 1, 0, []) lv st σ c z := rfl
theorem go_M_isAsked_4 : g_go c_M_isAsked K k 4 lv st σ c z = K 4 (lv.take 4) st σ c z := rfl
theorem at_M_isAsked_4 : g_at c_M_isAsked k 4 lv st σ c z = k 4 (.iload_n 3, 1, 0, []) lv st σ c z := rfl
theorem go_M_isAsked_5 : g_go c_M_isAsked K k 5 lv st σ c z = k 5 (.aload_n 0, 1, 0, []) lv st σ c z := rfl
theorem go_M_isAsked_6 : g_go c_M_isAsked K k 6 lv st σ c z = k 6 (.getfield 100, 3, 0, []) lv st σ c z := rfl
theorem go_M_isAsked_9 : g_go c_M_isAsked K k 9 lv st σ c z = k 9 (.if_icmp .ge 29, 3, 0, [(0, 38)]) lv st σ c z := rfl
theorem go_M_isAsked_12 : g_go c_M_isAsked K k 12 lv st σ c z = k 12 (.iload_n 2, 1, 0, []) lv st σ c z := rfl
theorem go_M_isAsked_13 : g_go c_M_isAsked K k 13 lv st σ c z = k 13 (.ifCond .ne 13, 3, 0, [(0, 26)]) lv st σ c z := rfl
theorem go_M_isAsked_16 : g_go c_M_isAsked K k 16 lv st σ c z = k 16 (.aload_n 0, 1, 0, []) lv st σ c z := rfl
theorem go_M_isAsked_17 : g_go c_M_isAsked K k 17 lv st σ c z = k 17 (.getfield 51, 3, 0, []) lv st σ c z := rfl
theorem go_M_isAsked_20 : g_go c_M_isAsked K k 20 lv st σ c z = k 20 (.iload_n 3, 1, 0, []) lv st σ c z := rfl
theorem go_M_isAsked_21 : g_go c_M_isAsked K k 21 lv st σ c z = k 21 (.iaload, 1, 0, []) lv st σ c z := rfl
theorem go_M_isAsked_22 : g_go c_M_isAsked K k 22 lv st σ c z = k 22 (.iload_n 1, 1, 0, []) lv st σ c z := rfl
theorem go_M_isAsked_23 : g_go c_M_isAsked K k 23 lv st σ c z = k 23 (.if_icmp .ne 7, 3, 0, [(0, 30)]) lv st σ c z := rfl
theorem go_M_isAsked_26 : g_go c_M_isAsked K k 26 lv st σ c z = k 26 (.iconst 1, 1, 1, []) lv st σ c z := rfl
theorem go_M_isAsked_27 : g_go c_M_isAsked K k 27 lv st σ c z = k 27 (.goto 4, 3, 0, [(0, 31)]) lv st σ c z := rfl
theorem go_M_isAsked_30 : g_go c_M_isAsked K k 30 lv st σ c z = k 30 (.iconst 0, 1, 0, []) lv st σ c z := rfl
theorem go_M_isAsked_31 : g_go c_M_isAsked K k 31 lv st σ c z = k 31 (.istore_n 2, 1, 0, []) lv st σ c z := rfl
theorem go_M_isAsked_32 : g_go c_M_isAsked K k 32 lv st σ c z = k 32 (.iinc 3 1, 3, 1, []) lv st σ c z := rfl
theorem go_M_isAsked_35 : g_go c_M_isAsked K k 35 lv st σ c z = k 35 (.goto (-31), 3, 0, [(0, 4)]) lv st σ c z := rfl
theorem go_M_isAsked_38 : g_go c_M_isAsked K k 38 lv st σ c z = k 38 (.iload_n 2, 1, 0, []) lv st σ c z := rfl
theorem go_M_isAsked_39 : g_go c_M_isAsked K k 39 lv st σ c z = k 39 (.ireturn, 1, 0, []) lv st σ c z := rfl
theorem go_M_remove_0 : g_go c_M_remove K k 0 lv st σ c z = k 0 (.aload_n 0, 1, 0, []) lv st σ c z := rfl
theorem at_M_remove_0 : g_at c_M_remove k 0 lv st σ c z = k 0 (.aload_n 0, 1, 0, []) lv st σ c z := rfl
theorem go_M_remove_1 : g_go c_M_remove K k 1 lv st σ c z = k 1 (.iconst 0, 1, 0, []) lv st σ c z := rfl
theorem go_M_remove_2 : g_go c_M_remove K k 2 lv st σ c z = k 2 (.putfield 67, 3, 0, []) lv st σ c z := rfl
theorem go_M_remove_5 : g_go c_M_remove K k 5 lv st σ c z = k 5 (.aload_n 0, 1, 0, []) lv st σ c z := rfl
theorem go_M_remove_6 : g_go c_M_remove K k 6 lv st σ c z = k 6 (.iload_n 1, 1, 0, []) lv st σ c z := rfl
theorem go_M_remove_7 : g_go c_M_remove K k 7 lv st σ c z = k 7 (.invokevirtual 77, 3, 0, []) lv st σ c z := rfl
theorem go_M_remove_10 : g_go c_M_remove K k 10 lv st σ c z = k 10 (.istore 4, 2, 0, []) lv st σ c z := rfl
theorem go_M_remove_12 : g_go c_M_remove K k 12 lv st σ c z = k 12 (.iload 4, 2, 0, []) lv st σ c z := rfl
theorem go_M_remove_14 : g_go c_M_remove K k 14 lv st σ c z = k 14 (.ifCond .ne 5, 3, 0, [(0, 19)]) lv st σ c z := rfl
theorem go_M_remove_17 : g_go c_M_remove K k 17 lv st σ c z = k 17 (.iconst 0, 1, 0, []) lv st σ c z := rfl
theorem go_M_remove_18 : g_go c_M_remove K k 18 lv st σ c z = k 18 (.ireturn, 1, 0, []) lv st σ c z := rfl
theorem go_M_remove_19 : g_go c_M_remove K k 19 lv st σ c z = k 19 (.aload_n 0, 1, 0, []) lv st σ c z := rfl
theorem go_M_remove_20 : g_go c_M_remove K k 20 lv st σ c z = k 20 (.iload_n 1, 1, 0, []) lv st σ c z := rfl
theorem go_M_remove_21 : g_go c_M_remove K k 21 lv st σ c z = k 21 (.invokevirtual 103, 3, 0, []) lv st σ c z := rfl
theorem go_M_remove_24 : g_go c_M_remove K k 24 lv st σ c z = k 24 (.ifCond .eq 6, 3, 0, [(0, 30)]) lv st σ c z := rfl
theorem go_M_remove_27 : g_go c_M_remove K k 27 lv st σ c z = k 27 (.bipush (-5), 2, (-5), []) lv st σ c z := rfl
theorem go_M_remove_29 : g_go c_M_remove K k 29 lv st σ c z = k 29 (.ireturn, 1, 0, []) lv st σ c z := rfl
theorem go_M_remove_30 : g_go c_M_remove K k 30 lv st σ c z = k 30 (.aload_n 0, 1, 0, []) lv st σ c z := rfl
theorem go_M_remove_31 : g_go c_M_remove K k 31 lv st σ c z = k 31 (.getfield 32, 3, 0, []) lv st σ c z := rfl
theorem go_M_remove_34 : g_go c_M_remove K k 34 lv st σ c z = k 34 (.iload 4, 2, 0, []) lv st σ c z := rfl
theorem go_M_remove_36 : g_go c_M_remove K k 36 lv st σ c z = k 36 (.laload, 1, 0, []) lv st σ c z := rfl
theorem go_M_remove_37 : g_go c_M_remove K k 37 lv st σ c z = k 37 (.lload_n 2, 1, 0, []) lv st σ c z := rfl
theorem go_M_remove_38 : g_go c_M_remove K k 38 lv st σ c z = k 38 (.lcmp, 1, 0, []) lv st σ c z := rfl
theorem go_M_remove_39 : g_go c_M_remove K k 39 lv st σ c z = k 39 (.ifCond .le 6, 3, 0, [(0, 45)]) lv st σ c z := rfl
theorem go_M_remove_42 : g_go c_M_remove K k 42 lv st σ c z = k 42 (.bipush (-9), 2, (-9), []) lv st σ c z := rfl
theorem go_M_remove_44 : g_go c_M_remove K k 44 lv st σ c z = k 44 (.ireturn, 1, 0, []) lv st σ c z := rfl
theorem go_M_remove_45 : g_go c_M_remove K k 45 lv st σ c z = k 45 (.aload_n 0, 1, 0, []) lv st σ c z := rfl
theorem go_M_remove_46 : g_go c_M_remove K k 46 lv st σ c z = k 46 (.getfield 13, 3, 0, []) lv st σ c z := rfl
theorem go_M_remove_49 : g_go c_M_remove K k 49 lv st σ c z = k 49 (.iload 4, 2, 0, []) lv st σ c z := rfl
theorem go_M_remove_51 : g_go c_M_remove K k 51 lv st σ c z = k 51 (.iconst 1, 1, 1, []) lv st σ c z := rfl
theorem go_M_remove_52 : g_go c_M_remove K k 52 lv st σ c z = k 52 (.bastore, 1, 0, []) lv st σ c z := rfl
theorem go_M_remove_53 : g_go c_M_remove K k 53 lv st σ c z = k 53 (.iconst 0, 1, 0, []) lv st σ c z := rfl
theorem go_M_remove_54 : g_go c_M_remove K k 54 lv st σ c z = k 54 (.istore 5, 2, 0, []) lv st σ c z := rfl
theorem go_M_remove_56 : g_go c_M_remove K k 56 lv st σ c z = K 56 (lv.take 6) st σ c z := rfl
theorem at_M_remove_56 : g_at c_M_remove k 56 lv st σ c z = k 56 (.iload 5, 2, 0, []) lv st σ c z := rfl
theorem go_M_remove_58 : g_go c_M_remove K k 58 lv st σ c z = k 58 (.aload_n 0, 1, 0, []) lv st σ c z := rfl
theorem go_M_remove_59 : g_go c_M_remove K k 59 lv st σ c z = k 59 (.getfield 63, 3, 0, []) lv st σ c z := rfl
theorem go_M_remove_62 : g_go c_M_remove K k 62 lv st σ c z = k 62 (.if_icmp .ge 39, 3, 0, [(0, 101)]) lv st σ c z := rfl
theorem go_M_remove_65 : g_go c_M_remove K k 65 lv st σ c z = k 65 (.aload_n 0, 1, 0, []) lv st σ c z := rfl
theorem go_M_remove_66 : g_go c_M_remove K k 66 lv st σ c z = k 66 (.getfield 7, 3, 0, []) lv st σ c z := rfl
theorem go_M_remove_69 : g_go c_M_remove K k 69 lv st σ c z = k 69 (.iload 5, 2, 0, []) lv st σ c z := rfl
theorem go_M_remove_71 : g_go c_M_remove K k 71 lv st σ c z = k 71 (.aload_n 0, 1, 0, []) lv st σ c z := rfl
theorem go_M_remove_72 : g_go c_M_remove K k 72 lv st σ c z = k 72 (.getfield 7, 3, 0, []) lv st σ c z := rfl
theorem go_M_remove_75 : g_go c_M_remove K k 75 lv st σ c z = k 75 (.iload 5, 2, 0, []) lv st σ c z := rfl
theorem go_M_remove_77 : g_go c_M_remove K k 77 lv st σ c z = k 77 (.iaload, 1, 0, []) lv st σ c z := rfl
theorem go_M_remove_78 : g_go c_M_remove K k 78 lv st σ c z = k 78 (.iload 4, 2, 0, []) lv st σ c z := rfl
theorem go_M_remove_80 : g_go c_M_remove K k 80 lv st σ c z = k 80 (.if_icmp .ne 7, 3, 0, [(0, 87)]) lv st σ c z := rfl
theorem go_M_remove_83 : g_go c_M_remove K k 83 lv st σ c z = k 83 (.iconst 0, 1, 0, []) lv st σ c z := rfl
theorem go_M_remove_84 : g_go c_M_remove K k 84 lv st σ c z = k 84 (.goto 10, 3, 0, [(0, 94)]) lv st σ c z := rfl
theorem go_M_remove_87 : g_go c_M_remove K k 87 lv st σ c z = k 87 (.aload_n 0, 1, 0, []) lv st σ c z := rfl
theorem go_M_remove_88 : g_go c_M_remove K k 88 lv st σ c z = k 88 (.getfield 7, 3, 0, []) lv st σ c z := rfl
theorem go_M_remove_91 : g_go c_M_remove K k 91 lv st σ c z = k 91 (.iload 5, 2, 0, []) lv st σ c z := rfl
theorem go_M_remove_93 : g_go c_M_remove K k 93 lv st σ c z = k 93 (.iaload, 1, 0, []) lv st σ c z := rfl
theorem go_M_remove_94 : g_go c_M_remove K k 94 lv st σ c z = k 94 (.iastore, 1, 0, []) lv st σ c z := rfl
theorem go_M_remove_95 : g_go c_M_remove K k 95 lv st σ c z = k 95 (.iinc 5 1, 3, 1, []) lv st σ c z := rfl
theorem go_M_remove_98 : g_go c_M_remove K k 98 lv st σ c z = k 98 (.goto (-42), 3, 0, [(0, 56)]) lv st σ c z := rfl
theorem go_M_remove_101 : g_go c_M_remove K k 101 lv st σ c z = k 101 (.iconst 1, 1, 1, []) lv st σ c z := rfl
theorem go_M_remove_102 : g_go c_M_remove K k 102 lv st σ c z = k 102 (.ireturn, 1, 0, []) lv st σ c z := rfl
theorem go_M_guard_0 : g_go c_M_guard K k 0 lv st σ c z = k 0 (.aload_n 0, 1, 0, []) lv st σ c z := rfl
theorem at_M_guard_0 : g_at c_M_guard k 0 lv st σ c z = k 0 (.aload_n 0, 1, 0, []) lv st σ c z := rfl
theorem go_M_guard_1 : g_go c_M_guard K k 1 lv st σ c z = k 1 (.iconst 0, 1, 0, []) lv st σ c z := rfl
theorem go_M_guard_2 : g_go c_M_guard K k 2 lv st σ c z = k 2 (.putfield 67, 3, 0, []) lv st σ c z := rfl
theorem go_M_guard_5 : g_go c_M_guard K k 5 lv st σ c z = k 5 (.aload_n 0, 1, 0, []) lv st σ c z := rfl
theorem go_M_guard_6 : g_go c_M_guard K k 6 lv st σ c z = k 6 (.iload_n 1, 1, 0, []) lv st σ c z := rfl
theorem go_M_guard_7 : g_go c_M_guard K k 7 lv st σ c z = k 7 (.invokevirtual 90, 3, 0, []) lv st σ c z := rfl
theorem go_M_guard_10 : g_go c_M_guard K k 10 lv st σ c z = k 10 (.ifCond .ne 6, 3, 0, [(0, 16)]) lv st σ c z := rfl
theorem go_M_guard_13 : g_go c_M_guard K k 13 lv st σ c z = k 13 (.bipush (-2), 2, (-2), []) lv st σ c z := rfl
theorem go_M_guard_15 : g_go c_M_guard K k 15 lv st σ c z = k 15 (.ireturn, 1, 0, []) lv st σ c z := rfl
theorem go_M_guard_16 : g_go c_M_guard K k 16 lv st σ c z = k 16 (.aload_n 0, 1, 0, []) lv st σ c z := rfl
theorem go_M_guard_17 : g_go c_M_guard K k 17 lv st σ c z = k 17 (.getfield 32, 3, 0, []) lv st σ c z := rfl
theorem go_M_guard_20 : g_go c_M_guard K k 20 lv st σ c z = k 20 (.iload_n 1, 1, 0, []) lv st σ c z := rfl
theorem go_M_guard_21 : g_go c_M_guard K k 21 lv st σ c z = k 21 (.lload_n 2, 1, 0, []) lv st σ c z := rfl
theorem go_M_guard_22 : g_go c_M_guard K k 22 lv st σ c z = k 22 (.lastore, 1, 0, []) lv st σ c z := rfl
theorem go_M_guard_23 : g_go c_M_guard K k 23 lv st σ c z = k 23 (.iconst 1, 1, 1, []) lv st σ c z := rfl
theorem go_M_guard_24 : g_go c_M_guard K k 24 lv st σ c z = k 24 (.ireturn, 1, 0, []) lv st σ c z := rfl
theorem go_M_rename_0 : g_go c_M_rename K k 0 lv st σ c z = k 0 (.aload_n 0, 1, 0, []) lv st σ c z := rfl
theorem at_M_rename_0 : g_at c_M_rename k 0 lv st σ c z = k 0 (.aload_n 0, 1, 0, []) lv st σ c z := rfl
theorem go_M_rename_1 : g_go c_M_rename K k 1 lv st σ c z = k 1 (.iconst 0, 1, 0, []) lv st σ c z := rfl
theorem go_M_rename_2 : g_go c_M_rename K k 2 lv st σ c z = k 2 (.putfield 67, 3, 0, []) lv st σ c z := rfl
theorem go_M_rename_5 : g_go c_M_rename K k 5 lv st σ c z = k 5 (.aload_n 0, 1, 0, []) lv st σ c z := rfl
theorem go_M_rename_6 : g_go c_M_rename K k 6 lv st σ c z = k 6 (.iload_n 1, 1, 0, []) lv st σ c z := rfl
theorem go_M_rename_7 : g_go c_M_rename K k 7 lv st σ c z = k 7 (.invokevirtual 77, 3, 0, []) lv st σ c z := rfl
theorem go_M_rename_10 : g_go c_M_rename K k 10 lv st σ c z = k 10 (.istore_n 3, 1, 0, []) lv st σ c z := rfl
theorem go_M_rename_11 : g_go c_M_rename K k 11 lv st σ c z = k 11 (.iload_n 3, 1, 0, []) lv st σ c z := rfl
theorem go_M_rename_12 : g_go c_M_rename K k 12 lv st σ c z = k 12 (.ifCond .ne 5, 3, 0, [(0, 17)]) lv st σ c z := rfl
theorem go_M_rename_15 : g_go c_M_rename K k 15 lv st σ c z = k 15 (.iconst 0, 1, 0, []) lv st σ c z := rfl
theorem go_M_rename_16 : g_go c_M_rename K k 16 lv st σ c z = k 16 (.ireturn, 1, 0, []) lv st σ c z := rfl
theorem go_M_rename_17 : g_go c_M_rename K k 17 lv st σ c z = k 17 (.iload_n 2, 1, 0, []) lv st σ c z := rfl
theorem go_M_rename_18 : g_go c_M_rename K k 18 lv st σ c z = k 18 (.invokestatic 73, 3, 0, []) lv st σ c z := rfl
theorem go_M_rename_21 : g_go c_M_rename K k 21 lv st σ c z = k 21 (.ifCond .ne 6, 3, 0, [(0, 27)]) lv st σ c z := rfl
theorem go_M_rename_24 : g_go c_M_rename K k 24 lv st σ c z = k 24 (.bipush (-4), 2, (-4), []) lv st σ c z := rfl
theorem go_M_rename_26 : g_go c_M_rename K k 26 lv st σ c z = k 26 (.ireturn, 1, 0, []) lv st σ c z := rfl
theorem go_M_rename_27 : g_go c_M_rename K k 27 lv st σ c z = k 27 (.aload_n 0, 1, 0, []) lv st σ c z := rfl
theorem go_M_rename_28 : g_go c_M_rename K k 28 lv st σ c z = k 28 (.iload_n 2, 1, 0, []) lv st σ c z := rfl
theorem go_M_rename_29 : g_go c_M_rename K k 29 lv st σ c z = k 29 (.invokevirtual 77, 3, 0, []) lv st σ c z := rfl
theorem go_M_rename_32 : g_go c_M_rename K k 32 lv st σ c z = k 32 (.ifCond .eq 6, 3, 0, [(0, 38)]) lv st σ c z := rfl
theorem go_M_rename_35 : g_go c_M_rename K k 35 lv st σ c z = k 35 (.bipush (-3), 2, (-3), []) lv st σ c z := rfl
theorem go_M_rename_37 : g_go c_M_rename K k 37 lv st σ c z = k 37 (.ireturn, 1, 0, []) lv st σ c z := rfl
theorem go_M_rename_38 : g_go c_M_rename K k 38 lv st σ c z = k 38 (.aload_n 0, 1, 0, []) lv st σ c z := rfl
theorem go_M_rename_39 : g_go c_M_rename K k 39 lv st σ c z = k 39 (.iload_n 1, 1, 0, []) lv st σ c z := rfl
theorem go_M_rename_40 : g_go c_M_rename K k 40 lv st σ c z = k 40 (.invokevirtual 103, 3, 0, []) lv st σ c z := rfl
theorem go_M_rename_43 : g_go c_M_rename K k 43 lv st σ c z = k 43 (.ifCond .ne 11, 3, 0, [(0, 54)]) lv st σ c z := rfl
theorem go_M_rename_46 : g_go c_M_rename K k 46 lv st σ c z = k 46 (.aload_n 0, 1, 0, []) lv st σ c z := rfl
theorem go_M_rename_47 : g_go c_M_rename K k 47 lv st σ c z = k 47 (.iload_n 2, 1, 0, []) lv st σ c z := rfl
theorem go_M_rename_48 : g_go c_M_rename K k 48 lv st σ c z = k 48 (.invokevirtual 103, 3, 0, []) lv st σ c z := rfl
theorem go_M_rename_51 : g_go c_M_rename K k 51 lv st σ c z = k 51 (.ifCond .eq 6, 3, 0, [(0, 57)]) lv st σ c z := rfl
theorem go_M_rename_54 : g_go c_M_rename K k 54 lv st σ c z = k 54 (.bipush (-5), 2, (-5), []) lv st σ c z := rfl
theorem go_M_rename_56 : g_go c_M_rename K k 56 lv st σ c z = k 56 (.ireturn, 1, 0, []) lv st σ c z := rfl
theorem go_M_rename_57 : g_go c_M_rename K k 57 lv st σ c z = k 57 (.aload_n 0, 1, 0, []) lv st σ c z := rfl
theorem go_M_rename_58 : g_go c_M_rename K k 58 lv st σ c z = k 58 (.getfield 17, 3, 0, []) lv st σ c z := rfl
theorem go_M_rename_61 : g_go c_M_rename K k 61 lv st σ c z = k 61 (.iload_n 3, 1, 0, []) lv st σ c z := rfl
theorem go_M_rename_62 : g_go c_M_rename K k 62 lv st σ c z = k 62 (.iload_n 2, 1, 0, []) lv st σ c z := rfl
theorem go_M_rename_63 : g_go c_M_rename K k 63 lv st σ c z = k 63 (.iastore, 1, 0, []) lv st σ c z := rfl
theorem go_M_rename_64 : g_go c_M_rename K k 64 lv st σ c z = k 64 (.iconst 1, 1, 1, []) lv st σ c z := rfl
theorem go_M_rename_65 : g_go c_M_rename K k 65 lv st σ c z = k 65 (.ireturn, 1, 0, []) lv st σ c z := rfl
theorem go_M_can_0 : g_go c_M_can K k 0 lv st σ c z = k 0 (.iconst 1, 1, 1, []) lv st σ c z := rfl
theorem at_M_can_0 : g_at c_M_can k 0 lv st σ c z = k 0 (.iconst 1, 1, 1, []) lv st σ c z := rfl
theorem go_M_can_1 : g_go c_M_can K k 1 lv st σ c z = k 1 (.istore_n 3, 1, 0, []) lv st σ c z := rfl
theorem go_M_can_2 : g_go c_M_can K k 2 lv st σ c z = k 2 (.iconst 0, 1, 0, []) lv st σ c z := rfl
theorem go_M_can_3 : g_go c_M_can K k 3 lv st σ c z = k 3 (.istore 4, 2, 0, []) lv st σ c z := rfl
theorem go_M_can_5 : g_go c_M_can K k 5 lv st σ c z = K 5 (lv.take 5) st σ c z := rfl
theorem at_M_can_5 : g_at c_M_can k 5 lv st σ c z = k 5 (.iload 4, 2, 0, []) lv st σ c z := rfl
theorem go_M_can_7 : g_go c_M_can K k 7 lv st σ c z = k 7 (.aload_n 0, 1, 0, []) lv st σ c z := rfl
theorem go_M_can_8 : g_go c_M_can K k 8 lv st σ c z = k 8 (.getfield 100, 3, 0, []) lv st σ c z := rfl
theorem go_M_can_11 : g_go c_M_can K k 11 lv st σ c z = k 11 (.if_icmp .ge 54, 3, 0, [(0, 65)]) lv st σ c z := rfl
theorem go_M_can_14 : g_go c_M_can K k 14 lv st σ c z = k 14 (.iload_n 3, 1, 0, []) lv st σ c z := rfl
theorem go_M_can_15 : g_go c_M_can K k 15 lv st σ c z = k 15 (.ifCond .eq 42, 3, 0, [(0, 57)]) lv st σ c z := rfl
theorem go_M_can_18 : g_go c_M_can K k 18 lv st σ c z = k 18 (.aload_n 0, 1, 0, []) lv st σ c z := rfl
theorem go_M_can_19 : g_go c_M_can K k 19 lv st σ c z = k 19 (.getfield 51, 3, 0, []) lv st σ c z := rfl
theorem go_M_can_22 : g_go c_M_can K k 22 lv st σ c z = k 22 (.iload 4, 2, 0, []) lv st σ c z := rfl
theorem go_M_can_24 : g_go c_M_can K k 24 lv st σ c z = k 24 (.iaload, 1, 0, []) lv st σ c z := rfl
theorem go_M_can_25 : g_go c_M_can K k 25 lv st σ c z = k 25 (.iload_n 1, 1, 0, []) lv st σ c z := rfl
theorem go_M_can_26 : g_go c_M_can K k 26 lv st σ c z = k 26 (.if_icmp .ne 27, 3, 0, [(0, 53)]) lv st σ c z := rfl
theorem go_M_can_29 : g_go c_M_can K k 29 lv st σ c z = k 29 (.aload_n 0, 1, 0, []) lv st σ c z := rfl
theorem go_M_can_30 : g_go c_M_can K k 30 lv st σ c z = k 30 (.getfield 60, 3, 0, []) lv st σ c z := rfl
theorem go_M_can_33 : g_go c_M_can K k 33 lv st σ c z = k 33 (.iload 4, 2, 0, []) lv st σ c z := rfl
theorem go_M_can_35 : g_go c_M_can K k 35 lv st σ c z = k 35 (.baload, 1, 0, []) lv st σ c z := rfl
theorem go_M_can_36 : g_go c_M_can K k 36 lv st σ c z = k 36 (.ifCond .ne 17, 3, 0, [(0, 53)]) lv st σ c z := rfl
theorem go_M_can_39 : g_go c_M_can K k 39 lv st σ c z = k 39 (.iload_n 2, 1, 0, []) lv st σ c z := rfl
theorem go_M_can_40 : g_go c_M_can K k 40 lv st σ c z = k 40 (.ifCond .ne 17, 3, 0, [(0, 57)]) lv st σ c z := rfl
theorem go_M_can_43 : g_go c_M_can K k 43 lv st σ c z = k 43 (.aload_n 0, 1, 0, []) lv st σ c z := rfl
theorem go_M_can_44 : g_go c_M_can K k 44 lv st σ c z = k 44 (.getfield 57, 3, 0, []) lv st σ c z := rfl
theorem go_M_can_47 : g_go c_M_can K k 47 lv st σ c z = k 47 (.iload 4, 2, 0, []) lv st σ c z := rfl
theorem go_M_can_49 : g_go c_M_can K k 49 lv st σ c z = k 49 (.baload, 1, 0, []) lv st σ c z := rfl
theorem go_M_can_50 : g_go c_M_can K k 50 lv st σ c z = k 50 (.ifCond .ne 7, 3, 0, [(0, 57)]) lv st σ c z := rfl
theorem go_M_can_53 : g_go c_M_can K k 53 lv st σ c z = k 53 (.iconst 1, 1, 1, []) lv st σ c z := rfl
theorem go_M_can_54 : g_go c_M_can K k 54 lv st σ c z = k 54 (.goto 4, 3, 0, [(0, 58)]) lv st σ c z := rfl
theorem go_M_can_57 : g_go c_M_can K k 57 lv st σ c z = k 57 (.iconst 0, 1, 0, []) lv st σ c z := rfl
theorem go_M_can_58 : g_go c_M_can K k 58 lv st σ c z = k 58 (.istore_n 3, 1, 0, []) lv st σ c z := rfl
theorem go_M_can_59 : g_go c_M_can K k 59 lv st σ c z = k 59 (.iinc 4 1, 3, 1, []) lv st σ c z := rfl
theorem go_M_can_62 : g_go c_M_can K k 62 lv st σ c z = k 62 (.goto (-57), 3, 0, [(0, 5)]) lv st σ c z := rfl
theorem go_M_can_65 : g_go c_M_can K k 65 lv st σ c z = k 65 (.iload_n 3, 1, 0, []) lv st σ c z := rfl
theorem go_M_can_66 : g_go c_M_can K k 66 lv st σ c z = k 66 (.ireturn, 1, 0, []) lv st σ c z := rfl
theorem go_M_isAwaited_0 : g_go c_M_isAwaited K k 0 lv st σ c z = k 0 (.iconst 0, 1, 0, []) lv st σ c z := rfl
theorem at_M_isAwaited_0 : g_at c_M_isAwaited k 0 lv st σ c z = k 0 (.iconst 0, 1, 0, []) lv st σ c z := rfl
theorem go_M_isAwaited_1 : g_go c_M_isAwaited K k 1 lv st σ c z = k 1 (.istore_n 2, 1, 0, []) lv st σ c z := rfl
theorem go_M_isAwaited_2 : g_go c_M_isAwaited K k 2 lv st σ c z = k 2 (.iconst 0, 1, 0, []) lv st σ c z := rfl
theorem go_M_isAwaited_3 : g_go c_M_isAwaited K k 3 lv st σ c z = k 3 (.istore_n 3, 1, 0, []) lv st σ c z := rfl
theorem go_M_isAwaited_4 : g_go c_M_isAwaited K k 4 lv st σ c z = K 4 (lv.take 4) st σ c z := rfl
theorem at_M_isAwaited_4 : g_at c_M_isAwaited k 4 lv st σ c z = k 4 (.iload_n 3, 1, 0, []) lv st σ c z := rfl
theorem go_M_isAwaited_5 : g_go c_M_isAwaited K k 5 lv st σ c z = k 5 (.aload_n 0, 1, 0, []) lv st σ c z := rfl
theorem go_M_isAwaited_6 : g_go c_M_isAwaited K k 6 lv st σ c z = k 6 (.getfield 100, 3, 0, []) lv st σ c z := rfl
theorem go_M_isAwaited_9 : g_go c_M_isAwaited K k 9 lv st σ c z = k 9 (.if_icmp .ge 38, 3, 0, [(0, 47)]) lv st σ c z := rfl
theorem go_M_isAwaited_12 : g_go c_M_isAwaited K k 12 lv st σ c z = k 12 (.iload_n 2, 1, 0, []) lv st σ c z := rfl
theorem go_M_isAwaited_13 : g_go c_M_isAwaited K k 13 lv st σ c z = k 13 (.ifCond .ne 22, 3, 0, [(0, 35)]) lv st σ c z := rfl
theorem go_M_isAwaited_16 : g_go c_M_isAwaited K k 16 lv st σ c z = k 16 (.aload_n 0, 1, 0, []) lv st σ c z := rfl
theorem go_M_isAwaited_17 : g_go c_M_isAwaited K k 17 lv st σ c z = k 17 (.getfield 51, 3, 0, []) lv st σ c z := rfl
theorem go_M_isAwaited_20 : g_go c_M_isAwaited K k 20 lv st σ c z = k 20 (.iload_n 3, 1, 0, []) lv st σ c z := rfl
theorem go_M_isAwaited_21 : g_go c_M_isAwaited K k 21 lv st σ c z = k 21 (.iaload, 1, 0, []) lv st σ c z := rfl
theorem go_M_isAwaited_22 : g_go c_M_isAwaited K k 22 lv st σ c z = k 22 (.iload_n 1, 1, 0, []) lv st σ c z := rfl
theorem go_M_isAwaited_23 : g_go c_M_isAwaited K k 23 lv st σ c z = k 23 (.if_icmp .ne 16, 3, 0, [(0, 39)]) lv st σ c z := rfl
theorem go_M_isAwaited_26 : g_go c_M_isAwaited K k 26 lv st σ c z = k 26 (.aload_n 0, 1, 0, []) lv st σ c z := rfl
theorem go_M_isAwaited_27 : g_go c_M_isAwaited K k 27 lv st σ c z = k 27 (.getfield 60, 3, 0, []) lv st σ c z := rfl
theorem go_M_isAwaited_30 : g_go c_M_isAwaited K k 30 lv st σ c z = k 30 (.iload_n 3, 1, 0, []) lv st σ c z := rfl
theorem go_M_isAwaited_31 : g_go c_M_isAwaited K k 31 lv st σ c z = k 31 (.baload, 1, 0, []) lv st σ c z := rfl
theorem go_M_isAwaited_32 : g_go c_M_isAwaited K k 32 lv st σ c z = k 32 (.ifCond .eq 7, 3, 0, [(0, 39)]) lv st σ c z := rfl
theorem go_M_isAwaited_35 : g_go c_M_isAwaited K k 35 lv st σ c z = k 35 (.iconst 1, 1, 1, []) lv st σ c z := rfl
theorem go_M_isAwaited_36 : g_go c_M_isAwaited K k 36 lv st σ c z = k 36 (.goto 4, 3, 0, [(0, 40)]) lv st σ c z := rfl
theorem go_M_isAwaited_39 : g_go c_M_isAwaited K k 39 lv st σ c z = k 39 (.iconst 0, 1, 0, []) lv st σ c z := rfl
theorem go_M_isAwaited_40 : g_go c_M_isAwaited K k 40 lv st σ c z = k 40 (.istore_n 2, 1, 0, []) lv st σ c z := rfl
theorem go_M_isAwaited_41 : g_go c_M_isAwaited K k 41 lv st σ c z = k 41 (.iinc 3 1, 3, 1, []) lv st σ c z := rfl
theorem go_M_isAwaited_44 : g_go c_M_isAwaited K k 44 lv st σ c z = k 44 (.goto (-40), 3, 0, [(0, 4)]) lv st σ c z := rfl
theorem go_M_isAwaited_47 : g_go c_M_isAwaited K k 47 lv st σ c z = k 47 (.iload_n 2, 1, 0, []) lv st σ c z := rfl
theorem go_M_isAwaited_48 : g_go c_M_isAwaited K k 48 lv st σ c z = k 48 (.ireturn, 1, 0, []) lv st σ c z := rfl
theorem go_M_enqueue_0 : g_go c_M_enqueue K k 0 lv st σ c z = k 0 (.aload_n 0, 1, 0, []) lv st σ c z := rfl
theorem at_M_enqueue_0 : g_at c_M_enqueue k 0 lv st σ c z = k 0 (.aload_n 0, 1, 0, []) lv st σ c z := rfl
theorem go_M_enqueue_1 : g_go c_M_enqueue K k 1 lv st σ c z = k 1 (.iconst 0, 1, 0, []) lv st σ c z := rfl
theorem go_M_enqueue_2 : g_go c_M_enqueue K k 2 lv st σ c z = k 2 (.putfield 67, 3, 0, []) lv st σ c z := rfl
theorem go_M_enqueue_5 : g_go c_M_enqueue K k 5 lv st σ c z = k 5 (.iload_n 1, 1, 0, []) lv st σ c z := rfl
theorem go_M_enqueue_6 : g_go c_M_enqueue K k 6 lv st σ c z = k 6 (.iconst 1, 1, 1, []) lv st σ c z := rfl
theorem go_M_enqueue_7 : g_go c_M_enqueue K k 7 lv st σ c z = k 7 (.if_icmp .lt 16, 3, 0, [(0, 23)]) lv st σ c z := rfl
theorem go_M_enqueue_10 : g_go c_M_enqueue K k 10 lv st σ c z = k 10 (.iload_n 1, 1, 0, []) lv st σ c z := rfl
theorem go_M_enqueue_11 : g_go c_M_enqueue K k 11 lv st σ c z = k 11 (.bipush 20, 2, 20, []) lv st σ c z := rfl
theorem go_M_enqueue_13 : g_go c_M_enqueue K k 13 lv st σ c z = k 13 (.if_icmp .gt 10, 3, 0, [(0, 23)]) lv st σ c z := rfl
theorem go_M_enqueue_16 : g_go c_M_enqueue K k 16 lv st σ c z = k 16 (.iload_n 2, 1, 0, []) lv st σ c z := rfl
theorem go_M_enqueue_17 : g_go c_M_enqueue K k 17 lv st σ c z = k 17 (.invokestatic 73, 3, 0, []) lv st σ c z := rfl
theorem go_M_enqueue_20 : g_go c_M_enqueue K k 20 lv st σ c z = k 20 (.ifCond .ne 6, 3, 0, [(0, 26)]) lv st σ c z := rfl
theorem go_M_enqueue_23 : g_go c_M_enqueue K k 23 lv st σ c z = k 23 (.bipush (-4), 2, (-4), []) lv st σ c z := rfl
theorem go_M_enqueue_25 : g_go c_M_enqueue K k 25 lv st σ c z = k 25 (.ireturn, 1, 0, []) lv st σ c z := rfl
theorem go_M_enqueue_26 : g_go c_M_enqueue K k 26 lv st σ c z = k 26 (.iconst 0, 1, 0, []) lv st σ c z := rfl
theorem go_M_enqueue_27 : g_go c_M_enqueue K k 27 lv st σ c z = k 27 (.istore 4, 2, 0, []) lv st σ c z := rfl
theorem go_M_enqueue_29 : g_go c_M_enqueue K k 29 lv st σ c z = K 29 (lv.take 5) st σ c z := rfl
theorem at_M_enqueue_29 : g_at c_M_enqueue k 29 lv st σ c z = k 29 (.iload 4, 2, 0, []) lv st σ c z := rfl
theorem go_M_enqueue_31 : g_go c_M_enqueue K k 31 lv st σ c z = k 31 (.aload_n 0, 1, 0, []) lv st σ c z := rfl
theorem go_M_enqueue_32 : g_go c_M_enqueue K k 32 lv st σ c z = k 32 (.getfield 100, 3, 0, []) lv st σ c z := rfl
theorem go_M_enqueue_35 : g_go c_M_enqueue K k 35 lv st σ c z = k 35 (.if_icmp .ge 34, 3, 0, [(0, 69)]) lv st σ c z := rfl
theorem go_M_enqueue_38 : g_go c_M_enqueue K k 38 lv st σ c z = k 38 (.aload_n 0, 1, 0, []) lv st σ c z := rfl
theorem go_M_enqueue_39 : g_go c_M_enqueue K k 39 lv st σ c z = k 39 (.getfield 51, 3, 0, []) lv st σ c z := rfl
theorem go_M_enqueue_42 : g_go c_M_enqueue K k 42 lv st σ c z = k 42 (.iload 4, 2, 0, []) lv st σ c z := rfl
theorem go_M_enqueue_44 : g_go c_M_enqueue K k 44 lv st σ c z = k 44 (.iaload, 1, 0, []) lv st σ c z := rfl
theorem go_M_enqueue_45 : g_go c_M_enqueue K k 45 lv st σ c z = k 45 (.iload_n 2, 1, 0, []) lv st σ c z := rfl
theorem go_M_enqueue_46 : g_go c_M_enqueue K k 46 lv st σ c z = k 46 (.if_icmp .ne 17, 3, 0, [(0, 63)]) lv st σ c z := rfl
theorem go_M_enqueue_49 : g_go c_M_enqueue K k 49 lv st σ c z = k 49 (.aload_n 0, 1, 0, []) lv st σ c z := rfl
theorem go_M_enqueue_50 : g_go c_M_enqueue K k 50 lv st σ c z = k 50 (.getfield 54, 3, 0, []) lv st σ c z := rfl
theorem go_M_enqueue_53 : g_go c_M_enqueue K k 53 lv st σ c z = k 53 (.iload 4, 2, 0, []) lv st σ c z := rfl
theorem go_M_enqueue_55 : g_go c_M_enqueue K k 55 lv st σ c z = k 55 (.iaload, 1, 0, []) lv st σ c z := rfl
theorem go_M_enqueue_56 : g_go c_M_enqueue K k 56 lv st σ c z = k 56 (.iload_n 1, 1, 0, []) lv st σ c z := rfl
theorem go_M_enqueue_57 : g_go c_M_enqueue K k 57 lv st σ c z = k 57 (.if_icmp .ne 6, 3, 0, [(0, 63)]) lv st σ c z := rfl
theorem go_M_enqueue_60 : g_go c_M_enqueue K k 60 lv st σ c z = k 60 (.bipush (-5), 2, (-5), []) lv st σ c z := rfl
theorem go_M_enqueue_62 : g_go c_M_enqueue K k 62 lv st σ c z = k 62 (.ireturn, 1, 0, []) lv st σ c z := rfl
theorem go_M_enqueue_63 : g_go c_M_enqueue K k 63 lv st σ c z = k 63 (.iinc 4 1, 3, 1, []) lv st σ c z := rfl
theorem go_M_enqueue_66 : g_go c_M_enqueue K k 66 lv st σ c z = k 66 (.goto (-37), 3, 0, [(0, 29)]) lv st σ c z := rfl
theorem go_M_enqueue_69 : g_go c_M_enqueue K k 69 lv st σ c z = k 69 (.aload_n 0, 1, 0, []) lv st σ c z := rfl
theorem go_M_enqueue_70 : g_go c_M_enqueue K k 70 lv st σ c z = k 70 (.iload_n 2, 1, 0, []) lv st σ c z := rfl
theorem go_M_enqueue_71 : g_go c_M_enqueue K k 71 lv st σ c z = k 71 (.invokevirtual 106, 3, 0, []) lv st σ c z := rfl
theorem go_M_enqueue_74 : g_go c_M_enqueue K k 74 lv st σ c z = k 74 (.ifCond .ne 12, 3, 0, [(0, 86)]) lv st σ c z := rfl
theorem go_M_enqueue_77 : g_go c_M_enqueue K k 77 lv st σ c z = k 77 (.aload_n 0, 1, 0, []) lv st σ c z := rfl
theorem go_M_enqueue_78 : g_go c_M_enqueue K k 78 lv st σ c z = k 78 (.iload_n 2, 1, 0, []) lv st σ c z := rfl
theorem go_M_enqueue_79 : g_go c_M_enqueue K k 79 lv st σ c z = k 79 (.iload_n 3, 1, 0, []) lv st σ c z := rfl
theorem go_M_enqueue_80 : g_go c_M_enqueue K k 80 lv st σ c z = k 80 (.invokevirtual 109, 3, 0, []) lv st σ c z := rfl
theorem go_M_enqueue_83 : g_go c_M_enqueue K k 83 lv st σ c z = k 83 (.ifCond .ne 7, 3, 0, [(0, 90)]) lv st σ c z := rfl
theorem go_M_enqueue_86 : g_go c_M_enqueue K k 86 lv st σ c z = k 86 (.iconst 1, 1, 1, []) lv st σ c z := rfl
theorem go_M_enqueue_87 : g_go c_M_enqueue K k 87 lv st σ c z = k 87 (.goto 4, 3, 0, [(0, 91)]) lv st σ c z := rfl
theorem go_M_enqueue_90 : g_go c_M_enqueue K k 90 lv st σ c z = k 90 (.iconst 0, 1, 0, []) lv st σ c z := rfl
theorem go_M_enqueue_91 : g_go c_M_enqueue K k 91 lv st σ c z = k 91 (.istore 4, 2, 0, []) lv st σ c z := rfl
theorem go_M_enqueue_93 : g_go c_M_enqueue K k 93 lv st σ c z = k 93 (.aload_n 0, 1, 0, []) lv st σ c z := rfl
theorem go_M_enqueue_94 : g_go c_M_enqueue K k 94 lv st σ c z = k 94 (.getfield 51, 3, 0, []) lv st σ c z := rfl
theorem go_M_enqueue_97 : g_go c_M_enqueue K k 97 lv st σ c z = k 97 (.aload_n 0, 1, 0, []) lv st σ c z := rfl
theorem go_M_enqueue_98 : g_go c_M_enqueue K k 98 lv st σ c z = k 98 (.getfield 100, 3, 0, []) lv st σ c z := rfl
theorem go_M_enqueue_101 : g_go c_M_enqueue K k 101 lv st σ c z = k 101 (.iload_n 2, 1, 0, []) lv st σ c z := rfl
theorem go_M_enqueue_102 : g_go c_M_enqueue K k 102 lv st σ c z = k 102 (.iastore, 1, 0, []) lv st σ c z := rfl
theorem go_M_enqueue_103 : g_go c_M_enqueue K k 103 lv st σ c z = k 103 (.aload_n 0, 1, 0, []) lv st σ c z := rfl
theorem go_M_enqueue_104 : g_go c_M_enqueue K k 104 lv st σ c z = k 104 (.getfield 54, 3, 0, []) lv st σ c z := rfl
theorem go_M_enqueue_107 : g_go c_M_enqueue K k 107 lv st σ c z = k 107 (.aload_n 0, 1, 0, []) lv st σ c z := rfl
theorem go_M_enqueue_108 : g_go c_M_enqueue K k 108 lv st σ c z = k 108 (.getfield 100, 3, 0, []) lv st σ c z := rfl
theorem go_M_enqueue_111 : g_go c_M_enqueue K k 111 lv st σ c z = k 111 (.iload_n 1, 1, 0, []) lv st σ c z := rfl
theorem go_M_enqueue_112 : g_go c_M_enqueue K k 112 lv st σ c z = k 112 (.iastore, 1, 0, []) lv st σ c z := rfl
theorem go_M_enqueue_113 : g_go c_M_enqueue K k 113 lv st σ c z = k 113 (.aload_n 0, 1, 0, []) lv st σ c z := rfl
theorem go_M_enqueue_114 : g_go c_M_enqueue K k 114 lv st σ c z = k 114 (.getfield 57, 3, 0, []) lv st σ c z := rfl
theorem go_M_enqueue_117 : g_go c_M_enqueue K k 117 lv st σ c z = k 117 (.aload_n 0, 1, 0, []) lv st σ c z := rfl
theorem go_M_enqueue_118 : g_go c_M_enqueue K k 118 lv st σ c z = k 118 (.getfield 100, 3, 0, []) lv st σ c z := rfl
theorem go_M_enqueue_121 : g_go c_M_enqueue K k 121 lv st σ c z = k 121 (.iload_n 3, 1, 0, []) lv st σ c z := rfl
theorem go_M_enqueue_122 : g_go c_M_enqueue K k 122 lv st σ c z = k 122 (.bastore, 1, 0, []) lv st σ c z := rfl
theorem go_M_enqueue_123 : g_go c_M_enqueue K k 123 lv st σ c z = k 123 (.aload_n 0, 1, 0, []) lv st σ c z := rfl
theorem go_M_enqueue_124 : g_go c_M_enqueue K k 124 lv st σ c z = k 124 (.getfield 60, 3, 0, []) lv st σ c z := rfl
theorem go_M_enqueue_127 : g_go c_M_enqueue K k 127 lv st σ c z = k 127 (.aload_n 0, 1, 0, []) lv st σ c z := rfl
theorem go_M_enqueue_128 : g_go c_M_enqueue K k 128 lv st σ c z = k 128 (.getfield 100, 3, 0, []) lv st σ c z := rfl
theorem go_M_enqueue_131 : g_go c_M_enqueue K k 131 lv st σ c z = k 131 (.iload 4, 2, 0, []) lv st σ c z := rfl
theorem go_M_enqueue_133 : g_go c_M_enqueue K k 133 lv st σ c z = k 133 (.bastore, 1, 0, []) lv st σ c z := rfl
theorem go_M_enqueue_134 : g_go c_M_enqueue K k 134 lv st σ c z = k 134 (.aload_n 0, 1, 0, []) lv st σ c z := rfl
theorem go_M_enqueue_135 : g_go c_M_enqueue K k 135 lv st σ c z = k 135 (.dup, 1, 0, []) lv st σ c z := rfl
theorem go_M_enqueue_136 : g_go c_M_enqueue K k 136 lv st σ c z = k 136 (.getfield 100, 3, 0, []) lv st σ c z := rfl
theorem go_M_enqueue_139 : g_go c_M_enqueue K k 139 lv st σ c z = k 139 (.iconst 1, 1, 1, []) lv st σ c z := rfl
theorem go_M_enqueue_140 : g_go c_M_enqueue K k 140 lv st σ c z = k 140 (.iadd, 1, 0, []) lv st σ c z := rfl
theorem go_M_enqueue_141 : g_go c_M_enqueue K k 141 lv st σ c z = k 141 (.putfield 100, 3, 0, []) lv st σ c z := rfl
theorem go_M_enqueue_144 : g_go c_M_enqueue K k 144 lv st σ c z = k 144 (.iload 4, 2, 0, []) lv st σ c z := rfl
theorem go_M_enqueue_146 : g_go c_M_enqueue K k 146 lv st σ c z = k 146 (.ifCond .eq 7, 3, 0, [(0, 153)]) lv st σ c z := rfl
theorem go_M_enqueue_149 : g_go c_M_enqueue K k 149 lv st σ c z = k 149 (.iconst 0, 1, 0, []) lv st σ c z := rfl
theorem go_M_enqueue_150 : g_go c_M_enqueue K k 150 lv st σ c z = k 150 (.goto 4, 3, 0, [(0, 154)]) lv st σ c z := rfl
theorem go_M_enqueue_153 : g_go c_M_enqueue K k 153 lv st σ c z = k 153 (.iconst 1, 1, 1, []) lv st σ c z := rfl
theorem go_M_enqueue_154 : g_go c_M_enqueue K k 154 lv st σ c z = k 154 (.ireturn, 1, 0, []) lv st σ c z := rfl
theorem go_M_grant_0 : g_go c_M_grant K k 0 lv st σ c z = k 0 (.iconst 0, 1, 0, []) lv st σ c z := rfl
theorem at_M_grant_0 : g_at c_M_grant k 0 lv st σ c z = k 0 (.iconst 0, 1, 0, []) lv st σ c z := rfl
theorem go_M_grant_1 : g_go c_M_grant K k 1 lv st σ c z = k 1 (.istore_n 2, 1, 0, []) lv st σ c z := rfl
theorem go_M_grant_2 : g_go c_M_grant K k 2 lv st σ c z = K 2 (lv.take 3) st σ c z := rfl
theorem at_M_grant_2 : g_at c_M_grant k 2 lv st σ c z = k 2 (.iload_n 2, 1, 0, []) lv st σ c z := rfl
theorem go_M_grant_3 : g_go c_M_grant K k 3 lv st σ c z = k 3 (.aload_n 0, 1, 0, []) lv st σ c z := rfl
theorem go_M_grant_4 : g_go c_M_grant K k 4 lv st σ c z = k 4 (.getfield 100, 3, 0, []) lv st σ c z := rfl
theorem go_M_grant_7 : g_go c_M_grant K k 7 lv st σ c z = k 7 (.if_icmp .ge 53, 3, 0, [(0, 60)]) lv st σ c z := rfl
theorem go_M_grant_10 : g_go c_M_grant K k 10 lv st σ c z = k 10 (.aload_n 0, 1, 0, []) lv st σ c z := rfl
theorem go_M_grant_11 : g_go c_M_grant K k 11 lv st σ c z = k 11 (.getfield 51, 3, 0, []) lv st σ c z := rfl
theorem go_M_grant_14 : g_go c_M_grant K k 14 lv st σ c z = k 14 (.iload_n 2, 1, 0, []) lv st σ c z := rfl
theorem go_M_grant_15 : g_go c_M_grant K k 15 lv st σ c z = k 15 (.iaload, 1, 0, []) lv st σ c z := rfl
theorem go_M_grant_16 : g_go c_M_grant K k 16 lv st σ c z = k 16 (.iload_n 1, 1, 0, []) lv st σ c z := rfl
theorem go_M_grant_17 : g_go c_M_grant K k 17 lv st σ c z = k 17 (.if_icmp .ne 37, 3, 0, [(0, 54)]) lv st σ c z := rfl
theorem go_M_grant_20 : g_go c_M_grant K k 20 lv st σ c z = k 20 (.aload_n 0, 1, 0, []) lv st σ c z := rfl
theorem go_M_grant_21 : g_go c_M_grant K k 21 lv st σ c z = k 21 (.getfield 60, 3, 0, []) lv st σ c z := rfl
theorem go_M_grant_24 : g_go c_M_grant K k 24 lv st σ c z = k 24 (.iload_n 2, 1, 0, []) lv st σ c z := rfl
theorem go_M_grant_25 : g_go c_M_grant K k 25 lv st σ c z = k 25 (.baload, 1, 0, []) lv st σ c z := rfl
theorem go_M_grant_26 : g_go c_M_grant K k 26 lv st σ c z = k 26 (.ifCond .ne 6, 3, 0, [(0, 32)]) lv st σ c z := rfl
theorem go_M_grant_29 : g_go c_M_grant K k 29 lv st σ c z = k 29 (.goto 25, 3, 0, [(0, 54)]) lv st σ c z := rfl
theorem go_M_grant_32 : g_go c_M_grant K k 32 lv st σ c z = k 32 (.aload_n 0, 1, 0, []) lv st σ c z := rfl
theorem go_M_grant_33 : g_go c_M_grant K k 33 lv st σ c z = k 33 (.iload_n 1, 1, 0, []) lv st σ c z := rfl
theorem go_M_grant_34 : g_go c_M_grant K k 34 lv st σ c z = k 34 (.aload_n 0, 1, 0, []) lv st σ c z := rfl
theorem go_M_grant_35 : g_go c_M_grant K k 35 lv st σ c z = k 35 (.getfield 57, 3, 0, []) lv st σ c z := rfl
theorem go_M_grant_38 : g_go c_M_grant K k 38 lv st σ c z = k 38 (.iload_n 2, 1, 0, []) lv st σ c z := rfl
theorem go_M_grant_39 : g_go c_M_grant K k 39 lv st σ c z = k 39 (.baload, 1, 0, []) lv st σ c z := rfl
theorem go_M_grant_40 : g_go c_M_grant K k 40 lv st σ c z = k 40 (.invokevirtual 109, 3, 0, []) lv st σ c z := rfl
theorem go_M_grant_43 : g_go c_M_grant K k 43 lv st σ c z = k 43 (.ifCond .ne 4, 3, 0, [(0, 47)]) lv st σ c z := rfl
theorem go_M_grant_46 : g_go c_M_grant K k 46 lv st σ c z = k 46 (.return_, 1, 0, []) lv st σ c z := rfl
theorem go_M_grant_47 : g_go c_M_grant K k 47 lv st σ c z = k 47 (.aload_n 0, 1, 0, []) lv st σ c z := rfl
theorem go_M_grant_48 : g_go c_M_grant K k 48 lv st σ c z = k 48 (.getfield 60, 3, 0, []) lv st σ c z := rfl
theorem go_M_grant_51 : g_go c_M_grant K k 51 lv st σ c z = k 51 (.iload_n 2, 1, 0, []) lv st σ c z := rfl
theorem go_M_grant_52 : g_go c_M_grant K k 52 lv st σ c z = k 52 (.iconst 0, 1, 0, []) lv st σ c z := rfl
theorem go_M_grant_53 : g_go c_M_grant K k 53 lv st σ c z = k 53 (.bastore, 1, 0, []) lv st σ c z := rfl
theorem go_M_grant_54 : g_go c_M_grant K k 54 lv st σ c z = k 54 (.iinc 2 1, 3, 1, []) lv st σ c z := rfl
theorem go_M_grant_57 : g_go c_M_grant K k 57 lv st σ c z = k 57 (.goto (-55), 3, 0, [(0, 2)]) lv st σ c z := rfl
theorem go_M_grant_60 : g_go c_M_grant K k 60 lv st σ c z = k 60 (.return_, 1, 0, []) lv st σ c z := rfl
theorem go_M_free_0 : g_go c_M_free K k 0 lv st σ c z = k 0 (.aload_n 0, 1, 0, []) lv st σ c z := rfl
theorem at_M_free_0 : g_at c_M_free k 0 lv st σ c z = k 0 (.aload_n 0, 1, 0, []) lv st σ c z := rfl
theorem go_M_free_1 : g_go c_M_free K k 1 lv st σ c z = k 1 (.iconst 0, 1, 0, []) lv st σ c z := rfl
theorem go_M_free_2 : g_go c_M_free K k 2 lv st σ c z = k 2 (.putfield 67, 3, 0, []) lv st σ c z := rfl
theorem go_M_free_5 : g_go c_M_free K k 5 lv st σ c z = k 5 (.iload_n 1, 1, 0, []) lv st σ c z := rfl
theorem go_M_free_6 : g_go c_M_free K k 6 lv st σ c z = k 6 (.iconst 1, 1, 1, []) lv st σ c z := rfl
theorem go_M_free_7 : g_go c_M_free K k 7 lv st σ c z = k 7 (.if_icmp .lt 9, 3, 0, [(0, 16)]) lv st σ c z := rfl
theorem go_M_free_10 : g_go c_M_free K k 10 lv st σ c z = k 10 (.iload_n 1, 1, 0, []) lv st σ c z := rfl
theorem go_M_free_11 : g_go c_M_free K k 11 lv st σ c z = k 11 (.bipush 20, 2, 20, []) lv st σ c z := rfl
theorem go_M_free_13 : g_go c_M_free K k 13 lv st σ c z = k 13 (.if_icmp .le 6, 3, 0, [(0, 19)]) lv st σ c z := rfl
theorem go_M_free_16 : g_go c_M_free K k 16 lv st σ c z = k 16 (.bipush (-4), 2, (-4), []) lv st σ c z := rfl
theorem go_M_free_18 : g_go c_M_free K k 18 lv st σ c z = k 18 (.ireturn, 1, 0, []) lv st σ c z := rfl
theorem go_M_free_19 : g_go c_M_free K k 19 lv st σ c z = k 19 (.iconst 0, 1, 0, []) lv st σ c z := rfl
theorem go_M_free_20 : g_go c_M_free K k 20 lv st σ c z = k 20 (.istore_n 2, 1, 0, []) lv st σ c z := rfl
theorem go_M_free_21 : g_go c_M_free K k 21 lv st σ c z = k 21 (.iconst 0, 1, 0, []) lv st σ c z := rfl
theorem go_M_free_22 : g_go c_M_free K k 22 lv st σ c z = k 22 (.istore_n 3, 1, 0, []) lv st σ c z := rfl
theorem go_M_free_23 : g_go c_M_free K k 23 lv st σ c z = k 23 (.iconst 0, 1, 0, []) lv st σ c z := rfl
theorem go_M_free_24 : g_go c_M_free K k 24 lv st σ c z = k 24 (.istore 4, 2, 0, []) lv st σ c z := rfl
theorem go_M_free_26 : g_go c_M_free K k 26 lv st σ c z = K 26 (lv.take 5) st σ c z := rfl
theorem at_M_free_26 : g_at c_M_free k 26 lv st σ c z = k 26 (.iload 4, 2, 0, []) lv st σ c z := rfl
theorem go_M_free_28 : g_go c_M_free K k 28 lv st σ c z = k 28 (.aload_n 0, 1, 0, []) lv st σ c z := rfl
theorem go_M_free_29 : g_go c_M_free K k 29 lv st σ c z = k 29 (.getfield 100, 3, 0, []) lv st σ c z := rfl
theorem go_M_free_32 : g_go c_M_free K k 32 lv st σ c z = k 32 (.if_icmp .ge 107, 3, 0, [(0, 139)]) lv st σ c z := rfl
theorem go_M_free_35 : g_go c_M_free K k 35 lv st σ c z = k 35 (.iload_n 2, 1, 0, []) lv st σ c z := rfl
theorem go_M_free_36 : g_go c_M_free K k 36 lv st σ c z = k 36 (.aload_n 0, 1, 0, []) lv st σ c z := rfl
theorem go_M_free_37 : g_go c_M_free K k 37 lv st σ c z = k 37 (.getfield 54, 3, 0, []) lv st σ c z := rfl
theorem go_M_free_40 : g_go c_M_free K k 40 lv st σ c z = k 40 (.iload 4, 2, 0, []) lv st σ c z := rfl
theorem go_M_free_42 : g_go c_M_free K k 42 lv st σ c z = k 42 (.iaload, 1, 0, []) lv st σ c z := rfl
theorem go_M_free_43 : g_go c_M_free K k 43 lv st σ c z = k 43 (.iload_n 1, 1, 0, []) lv st σ c z := rfl
theorem go_M_free_44 : g_go c_M_free K k 44 lv st σ c z = k 44 (.if_icmp .ne 17, 3, 0, [(0, 61)]) lv st σ c z := rfl
theorem go_M_free_47 : g_go c_M_free K k 47 lv st σ c z = k 47 (.aload_n 0, 1, 0, []) lv st σ c z := rfl
theorem go_M_free_48 : g_go c_M_free K k 48 lv st σ c z = k 48 (.getfield 60, 3, 0, []) lv st σ c z := rfl
theorem go_M_free_51 : g_go c_M_free K k 51 lv st σ c z = k 51 (.iload 4, 2, 0, []) lv st σ c z := rfl
theorem go_M_free_53 : g_go c_M_free K k 53 lv st σ c z = k 53 (.baload, 1, 0, []) lv st σ c z := rfl
theorem go_M_free_54 : g_go c_M_free K k 54 lv st σ c z = k 54 (.ifCond .ne 7, 3, 0, [(0, 61)]) lv st σ c z := rfl
theorem go_M_free_57 : g_go c_M_free K k 57 lv st σ c z = k 57 (.iconst 1, 1, 1, []) lv st σ c z := rfl
theorem go_M_free_58 : g_go c_M_free K k 58 lv st σ c z = k 58 (.goto 4, 3, 0, [(0, 62)]) lv st σ c z := rfl
theorem go_M_free_61 : g_go c_M_free K k 61 lv st σ c z = k 61 (.iconst 0, 1, 0, []) lv st σ c z := rfl
theorem go_M_free_62 : g_go c_M_free K k 62 lv st σ c z = k 62 (.iadd, 1, 0, []) lv st σ c z := rfl
theorem go_M_free_63 : g_go c_M_free K k 63 lv st σ c z = k 63 (.istore_n 2, 1, 0, []) lv st σ c z := rfl
theorem go_M_free_64 : g_go c_M_free K k 64 lv st σ c z = k 64 (.aload_n 0, 1, 0, []) lv st σ c z := rfl
theorem go_M_free_65 : g_go c_M_free K k 65 lv st σ c z = k 65 (.getfield 54, 3, 0, []) lv st σ c z := rfl
theorem go_M_free_68 : g_go c_M_free K k 68 lv st σ c z = k 68 (.iload 4, 2, 0, []) lv st σ c z := rfl
theorem go_M_free_70 : g_go c_M_free K k 70 lv st σ c z = k 70 (.iaload, 1, 0, []) lv st σ c z := rfl
theorem go_M_free_71 : g_go c_M_free K k 71 lv st σ c z = k 71 (.iload_n 1, 1, 0, []) lv st σ c z := rfl
theorem go_M_free_72 : g_go c_M_free K k 72 lv st σ c z = k 72 (.if_icmp .ne 6, 3, 0, [(0, 78)]) lv st σ c z := rfl
theorem go_M_free_75 : g_go c_M_free K k 75 lv st σ c z = k 75 (.goto 58, 3, 0, [(0, 133)]) lv st σ c z := rfl
theorem go_M_free_78 : g_go c_M_free K k 78 lv st σ c z = k 78 (.aload_n 0, 1, 0, []) lv st σ c z := rfl
theorem go_M_free_79 : g_go c_M_free K k 79 lv st σ c z = k 79 (.getfield 51, 3, 0, []) lv st σ c z := rfl
theorem go_M_free_82 : g_go c_M_free K k 82 lv st σ c z = k 82 (.iload_n 3, 1, 0, []) lv st σ c z := rfl
theorem go_M_free_83 : g_go c_M_free K k 83 lv st σ c z = k 83 (.aload_n 0, 1, 0, []) lv st σ c z := rfl
theorem go_M_free_84 : g_go c_M_free K k 84 lv st σ c z = k 84 (.getfield 51, 3, 0, []) lv st σ c z := rfl
theorem go_M_free_87 : g_go c_M_free K k 87 lv st σ c z = k 87 (.iload 4, 2, 0, []) lv st σ c z := rfl
theorem go_M_free_89 : g_go c_M_free K k 89 lv st σ c z = k 89 (.iaload, 1, 0, []) lv st σ c z := rfl
theorem go_M_free_90 : g_go c_M_free K k 90 lv st σ c z = k 90 (.iastore, 1, 0, []) lv st σ c z := rfl
theorem go_M_free_91 : g_go c_M_free K k 91 lv st σ c z = k 91 (.aload_n 0, 1, 0, []) lv st σ c z := rfl
theorem go_M_free_92 : g_go c_M_free K k 92 lv st σ c z = k 92 (.getfield 54, 3, 0, []) lv st σ c z := rfl
theorem go_M_free_95 : g_go c_M_free K k 95 lv st σ c z = k 95 (.iload_n 3, 1, 0, []) lv st σ c z := rfl
theorem go_M_free_96 : g_go c_M_free K k 96 lv st σ c z = k 96 (.aload_n 0, 1, 0, []) lv st σ c z := rfl
theorem go_M_free_97 : g_go c_M_free K k 97 lv st σ c z = k 97 (.getfield 54, 3, 0, []) lv st σ c z := rfl
theorem go_M_free_100 : g_go c_M_free K k 100 lv st σ c z = k 100 (.iload 4, 2, 0, []) lv st σ c z := rfl
theorem go_M_free_102 : g_go c_M_free K k 102 lv st σ c z = k 102 (.iaload, 1, 0, []) lv st σ c z := rfl
theorem go_M_free_103 : g_go c_M_free K k 103 lv st σ c z = k 103 (.iastore, 1, 0, []) lv st σ c z := rfl
theorem go_M_free_104 : g_go c_M_free K k 104 lv st σ c z = k 104 (.aload_n 0, 1, 0, []) lv st σ c z := rfl
theorem go_M_free_105 : g_go c_M_free K k 105 lv st σ c z = k 105 (.getfield 57, 3, 0, []) lv st σ c z := rfl
theorem go_M_free_108 : g_go c_M_free K k 108 lv st σ c z = k 108 (.iload_n 3, 1, 0, []) lv st σ c z := rfl
theorem go_M_free_109 : g_go c_M_free K k 109 lv st σ c z = k 109 (.aload_n 0, 1, 0, []) lv st σ c z := rfl
theorem go_M_free_110 : g_go c_M_free K k 110 lv st σ c z = k 110 (.getfield 57, 3, 0, []) lv st σ c z := rfl
theorem go_M_free_113 : g_go c_M_free K k 113 lv st σ c z = k 113 (.iload 4, 2, 0, []) lv st σ c z := rfl
theorem go_M_free_115 : g_go c_M_free K k 115 lv st σ c z = k 115 (.baload, 1, 0, []) lv st σ c z := rfl
theorem go_M_free_116 : g_go c_M_free K k 116 lv st σ c z = k 116 (.bastore, 1, 0, []) lv st σ c z := rfl
theorem go_M_free_117 : g_go c_M_free K k 117 lv st σ c z = k 117 (.aload_n 0, 1, 0, []) lv st σ c z := rfl
theorem go_M_free_118 : g_go c_M_free K k 118 lv st σ c z = k 118 (.getfield 60, 3, 0, []) lv st σ c z := rfl
theorem go_M_free_121 : g_go c_M_free K k 121 lv st σ c z = k 121 (.iload_n 3, 1, 0, []) lv st σ c z := rfl
theorem go_M_free_122 : g_go c_M_free K k 122 lv st σ c z = k 122 (.aload_n 0, 1, 0, []) lv st σ c z := rfl
theorem go_M_free_123 : g_go c_M_free K k 123 lv st σ c z = k 123 (.getfield 60, 3, 0, []) lv st σ c z := rfl
theorem go_M_free_126 : g_go c_M_free K k 126 lv st σ c z = k 126 (.iload 4, 2, 0, []) lv st σ c z := rfl
theorem go_M_free_128 : g_go c_M_free K k 128 lv st σ c z = k 128 (.baload, 1, 0, []) lv st σ c z := rfl
theorem go_M_free_129 : g_go c_M_free K k 129 lv st σ c z = k 129 (.bastore, 1, 0, []) lv st σ c z := rfl
theorem go_M_free_130 : g_go c_M_free K k 130 lv st σ c z = k 130 (.iinc 3 1, 3, 1, []) lv st σ c z := rfl
theorem go_M_free_133 : g_go c_M_free K k 133 lv st σ c z = k 133 (.iinc 4 1, 3, 1, []) lv st σ c z := rfl
theorem go_M_free_136 : g_go c_M_free K k 136 lv st σ c z = k 136 (.goto (-110), 3, 0, [(0, 26)]) lv st σ c z := rfl
theorem go_M_free_139 : g_go c_M_free K k 139 lv st σ c z = k 139 (.aload_n 0, 1, 0, []) lv st σ c z := rfl
theorem go_M_free_140 : g_go c_M_free K k 140 lv st σ c z = k 140 (.iload_n 3, 1, 0, []) lv st σ c z := rfl
theorem go_M_free_141 : g_go c_M_free K k 141 lv st σ c z = k 141 (.putfield 100, 3, 0, []) lv st σ c z := rfl
theorem go_M_free_144 : g_go c_M_free K k 144 lv st σ c z = k 144 (.iconst 0, 1, 0, []) lv st σ c z := rfl
theorem go_M_free_145 : g_go c_M_free K k 145 lv st σ c z = k 145 (.istore 4, 2, 0, []) lv st σ c z := rfl
theorem go_M_free_147 : g_go c_M_free K k 147 lv st σ c z = K 147 (lv.take 5) st σ c z := rfl
theorem at_M_free_147 : g_at c_M_free k 147 lv st σ c z = k 147 (.iload 4, 2, 0, []) lv st σ c z := rfl
theorem go_M_free_149 : g_go c_M_free K k 149 lv st σ c z = k 149 (.bipush 100, 2, 100, []) lv st σ c z := rfl
theorem go_M_free_151 : g_go c_M_free K k 151 lv st σ c z = k 151 (.if_icmp .ge 15, 3, 0, [(0, 166)]) lv st σ c z := rfl
theorem go_M_free_154 : g_go c_M_free K k 154 lv st σ c z = k 154 (.aload_n 0, 1, 0, []) lv st σ c z := rfl
theorem go_M_free_155 : g_go c_M_free K k 155 lv st σ c z = k 155 (.iload 4, 2, 0, []) lv st σ c z := rfl
theorem go_M_free_157 : g_go c_M_free K k 157 lv st σ c z = k 157 (.invokevirtual 113, 3, 0, []) lv st σ c z := rfl
theorem go_M_free_160 : g_go c_M_free K k 160 lv st σ c z = k 160 (.iinc 4 1, 3, 1, []) lv st σ c z := rfl
theorem go_M_free_163 : g_go c_M_free K k 163 lv st σ c z = k 163 (.goto (-16), 3, 0, [(0, 147)]) lv st σ c z := rfl
theorem go_M_free_166 : g_go c_M_free K k 166 lv st σ c z = k 166 (.iload_n 2, 1, 0, []) lv st σ c z := rfl
theorem go_M_free_167 : g_go c_M_free K k 167 lv st σ c z = k 167 (.ireturn, 1, 0, []) lv st σ c z := rfl
theorem go_M_attribute_0 : g_go c_M_attribute K k 0 lv st σ c z = k 0 (.aload_n 0, 1, 0, []) lv st σ c z := rfl
theorem at_M_attribute_0 : g_at c_M_attribute k 0 lv st σ c z = k 0 (.aload_n 0, 1, 0, []) lv st σ c z := rfl
theorem go_M_attribute_1 : g_go c_M_attribute K k 1 lv st σ c z = k 1 (.iconst 0, 1, 0, []) lv st σ c z := rfl
theorem go_M_attribute_2 : g_go c_M_attribute K k 2 lv st σ c z = k 2 (.putfield 67, 3, 0, []) lv st σ c z := rfl
theorem go_M_attribute_5 : g_go c_M_attribute K k 5 lv st σ c z = k 5 (.aload_n 0, 1, 0, []) lv st σ c z := rfl
theorem go_M_attribute_6 : g_go c_M_attribute K k 6 lv st σ c z = k 6 (.iload_n 1, 1, 0, []) lv st σ c z := rfl
theorem go_M_attribute_7 : g_go c_M_attribute K k 7 lv st σ c z = k 7 (.invokevirtual 90, 3, 0, []) lv st σ c z := rfl
theorem go_M_attribute_10 : g_go c_M_attribute K k 10 lv st σ c z = k 10 (.ifCond .ne 6, 3, 0, [(0, 16)]) lv st σ c z := rfl
theorem go_M_attribute_13 : g_go c_M_attribute K k 13 lv st σ c z = k 13 (.bipush (-2), 2, (-2), []) lv st σ c z := rfl
theorem go_M_attribute_15 : g_go c_M_attribute K k 15 lv st σ c z = k 15 (.ireturn, 1, 0, []) lv st σ c z := rfl
theorem go_M_attribute_16 : g_go c_M_attribute K k 16 lv st σ c z = k 16 (.iload_n 2, 1, 0, []) lv st σ c z := rfl
theorem go_M_attribute_17 : g_go c_M_attribute K k 17 lv st σ c z = k 17 (.ifCond .lt 18, 3, 0, [(0, 35)]) lv st σ c z := rfl
theorem go_M_attribute_20 : g_go c_M_attribute K k 20 lv st σ c z = k 20 (.iload_n 2, 1, 0, []) lv st σ c z := rfl
theorem go_M_attribute_21 : g_go c_M_attribute K k 21 lv st σ c z = k 21 (.iconst 2, 1, 2, []) lv st σ c z := rfl
theorem go_M_attribute_22 : g_go c_M_attribute K k 22 lv st σ c z = k 22 (.if_icmp .gt 13, 3, 0, [(0, 35)]) lv st σ c z := rfl
theorem go_M_attribute_25 : g_go c_M_attribute K k 25 lv st σ c z = k 25 (.iload_n 3, 1, 0, []) lv st σ c z := rfl
theorem go_M_attribute_26 : g_go c_M_attribute K k 26 lv st σ c z = k 26 (.ifCond .lt 9, 3, 0, [(0, 35)]) lv st σ c z := rfl
theorem go_M_attribute_29 : g_go c_M_attribute K k 29 lv st σ c z = k 29 (.iload_n 3, 1, 0, []) lv st σ c z := rfl
theorem go_M_attribute_30 : g_go c_M_attribute K k 30 lv st σ c z = k 30 (.bipush 9, 2, 9, []) lv st σ c z := rfl
theorem go_M_attribute_32 : g_go c_M_attribute K k 32 lv st σ c z = k 32 (.if_icmp .le 6, 3, 0, [(0, 38)]) lv st σ c z := rfl
theorem go_M_attribute_35 : g_go c_M_attribute K k 35 lv st σ c z = k 35 (.bipush (-4), 2, (-4), []) lv st σ c z := rfl
theorem go_M_attribute_37 : g_go c_M_attribute K k 37 lv st σ c z = k 37 (.ireturn, 1, 0, []) lv st σ c z := rfl
theorem go_M_attribute_38 : g_go c_M_attribute K k 38 lv st σ c z = k 38 (.aload_n 0, 1, 0, []) lv st σ c z := rfl
theorem go_M_attribute_39 : g_go c_M_attribute K k 39 lv st σ c z = k 39 (.getfield 45, 3, 0, []) lv st σ c z := rfl
theorem go_M_attribute_42 : g_go c_M_attribute K k 42 lv st σ c z = k 42 (.bipush 30, 2, 30, []) lv st σ c z := rfl
theorem go_M_attribute_44 : g_go c_M_attribute K k 44 lv st σ c z = k 44 (.iload_n 1, 1, 0, []) lv st σ c z := rfl
theorem go_M_attribute_45 : g_go c_M_attribute K k 45 lv st σ c z = k 45 (.imul, 1, 0, []) lv st σ c z := rfl
theorem go_M_attribute_46 : g_go c_M_attribute K k 46 lv st σ c z = k 46 (.bipush 10, 2, 10, []) lv st σ c z := rfl
theorem go_M_attribute_48 : g_go c_M_attribute K k 48 lv st σ c z = k 48 (.iload_n 2, 1, 0, []) lv st σ c z := rfl
theorem go_M_attribute_49 : g_go c_M_attribute K k 49 lv st σ c z = k 49 (.imul, 1, 0, []) lv st σ c z := rfl
theorem go_M_attribute_50 : g_go c_M_attribute K k 50 lv st σ c z = k 50 (.iadd, 1, 0, []) lv st σ c z := rfl
theorem go_M_attribute_51 : g_go c_M_attribute K k 51 lv st σ c z = k 51 (.iload_n 3, 1, 0, []) lv st σ c z := rfl
theorem go_M_attribute_52 : g_go c_M_attribute K k 52 lv st σ c z = k 52 (.iadd, 1, 0, []) lv st σ c z := rfl
theorem go_M_attribute_53 : g_go c_M_attribute K k 53 lv st σ c z = k 53 (.iload 4, 2, 0, []) lv st σ c z := rfl
theorem go_M_attribute_55 : g_go c_M_attribute K k 55 lv st σ c z = k 55 (.iastore, 1, 0, []) lv st σ c z := rfl
theorem go_M_attribute_56 : g_go c_M_attribute K k 56 lv st σ c z = k 56 (.aload_n 0, 1, 0, []) lv st σ c z := rfl
theorem go_M_attribute_57 : g_go c_M_attribute K k 57 lv st σ c z = k 57 (.getfield 48, 3, 0, []) lv st σ c z := rfl
theorem go_M_attribute_60 : g_go c_M_attribute K k 60 lv st σ c z = k 60 (.bipush 30, 2, 30, []) lv st σ c z := rfl
theorem go_M_attribute_62 : g_go c_M_attribute K k 62 lv st σ c z = k 62 (.iload_n 1, 1, 0, []) lv st σ c z := rfl
theorem go_M_attribute_63 : g_go c_M_attribute K k 63 lv st σ c z = k 63 (.imul, 1, 0, []) lv st σ c z := rfl
theorem go_M_attribute_64 : g_go c_M_attribute K k 64 lv st σ c z = k 64 (.bipush 10, 2, 10, []) lv st σ c z := rfl
theorem go_M_attribute_66 : g_go c_M_attribute K k 66 lv st σ c z = k 66 (.iload_n 2, 1, 0, []) lv st σ c z := rfl
theorem go_M_attribute_67 : g_go c_M_attribute K k 67 lv st σ c z = k 67 (.imul, 1, 0, []) lv st σ c z := rfl
theorem go_M_attribute_68 : g_go c_M_attribute K k 68 lv st σ c z = k 68 (.iadd, 1, 0, []) lv st σ c z := rfl
theorem go_M_attribute_69 : g_go c_M_attribute K k 69 lv st σ c z = k 69 (.iload_n 3, 1, 0, []) lv st σ c z := rfl
theorem go_M_attribute_70 : g_go c_M_attribute K k 70 lv st σ c z = k 70 (.iadd, 1, 0, []) lv st σ c z := rfl
theorem go_M_attribute_71 : g_go c_M_attribute K k 71 lv st σ c z = k 71 (.iconst 1, 1, 1, []) lv st σ c z := rfl
theorem go_M_attribute_72 : g_go c_M_attribute K k 72 lv st σ c z = k 72 (.bastore, 1, 0, []) lv st σ c z := rfl
theorem go_M_attribute_73 : g_go c_M_attribute K k 73 lv st σ c z = k 73 (.iconst 1, 1, 1, []) lv st σ c z := rfl
theorem go_M_attribute_74 : g_go c_M_attribute K k 74 lv st σ c z = k 74 (.ireturn, 1, 0, []) lv st σ c z := rfl
theorem go_M_merged_0 : g_go c_M_merged K k 0 lv st σ c z = k 0 (.aload_n 0, 1, 0, []) lv st σ c z := rfl
theorem at_M_merged_0 : g_at c_M_merged k 0 lv st σ c z = k 0 (.aload_n 0, 1, 0, []) lv st σ c z := rfl
theorem go_M_merged_1 : g_go c_M_merged K k 1 lv st σ c z = k 1 (.iconst 0, 1, 0, []) lv st σ c z := rfl
theorem go_M_merged_2 : g_go c_M_merged K k 2 lv st σ c z = k 2 (.putfield 67, 3, 0, []) lv st σ c z := rfl
theorem go_M_merged_5 : g_go c_M_merged K k 5 lv st σ c z = k 5 (.aload_n 0, 1, 0, []) lv st σ c z := rfl
theorem go_M_merged_6 : g_go c_M_merged K k 6 lv st σ c z = k 6 (.iload_n 1, 1, 0, []) lv st σ c z := rfl
theorem go_M_merged_7 : g_go c_M_merged K k 7 lv st σ c z = k 7 (.invokevirtual 90, 3, 0, []) lv st σ c z := rfl
theorem go_M_merged_10 : g_go c_M_merged K k 10 lv st σ c z = k 10 (.ifCond .eq 13, 3, 0, [(0, 23)]) lv st σ c z := rfl
theorem go_M_merged_13 : g_go c_M_merged K k 13 lv st σ c z = k 13 (.iload_n 2, 1, 0, []) lv st σ c z := rfl
theorem go_M_merged_14 : g_go c_M_merged K k 14 lv st σ c z = k 14 (.ifCond .lt 9, 3, 0, [(0, 23)]) lv st σ c z := rfl
theorem go_M_merged_17 : g_go c_M_merged K k 17 lv st σ c z = k 17 (.iload_n 2, 1, 0, []) lv st σ c z := rfl
theorem go_M_merged_18 : g_go c_M_merged K k 18 lv st σ c z = k 18 (.bipush 9, 2, 9, []) lv st σ c z := rfl
theorem go_M_merged_20 : g_go c_M_merged K k 20 lv st σ c z = k 20 (.if_icmp .le 5, 3, 0, [(0, 25)]) lv st σ c z := rfl
theorem go_M_merged_23 : g_go c_M_merged K k 23 lv st σ c z = k 23 (.iconst (-1), 1, (-1), []) lv st σ c z := rfl
theorem go_M_merged_24 : g_go c_M_merged K k 24 lv st σ c z = k 24 (.ireturn, 1, 0, []) lv st σ c z := rfl
theorem go_M_merged_25 : g_go c_M_merged K k 25 lv st σ c z = k 25 (.bipush 30, 2, 30, []) lv st σ c z := rfl
theorem go_M_merged_27 : g_go c_M_merged K k 27 lv st σ c z = k 27 (.iload_n 1, 1, 0, []) lv st σ c z := rfl
theorem go_M_merged_28 : g_go c_M_merged K k 28 lv st σ c z = k 28 (.imul, 1, 0, []) lv st σ c z := rfl
theorem go_M_merged_29 : g_go c_M_merged K k 29 lv st σ c z = k 29 (.iload_n 2, 1, 0, []) lv st σ c z := rfl
theorem go_M_merged_30 : g_go c_M_merged K k 30 lv st σ c z = k 30 (.iadd, 1, 0, []) lv st σ c z := rfl
theorem go_M_merged_31 : g_go c_M_merged K k 31 lv st σ c z = k 31 (.istore_n 3, 1, 0, []) lv st σ c z := rfl
theorem go_M_merged_32 : g_go c_M_merged K k 32 lv st σ c z = k 32 (.aload_n 0, 1, 0, []) lv st σ c z := rfl
theorem go_M_merged_33 : g_go c_M_merged K k 33 lv st σ c z = k 33 (.getfield 48, 3, 0, []) lv st σ c z := rfl
theorem go_M_merged_36 : g_go c_M_merged K k 36 lv st σ c z = k 36 (.iload_n 3, 1, 0, []) lv st σ c z := rfl
theorem go_M_merged_37 : g_go c_M_merged K k 37 lv st σ c z = k 37 (.baload, 1, 0, []) lv st σ c z := rfl
theorem go_M_merged_38 : g_go c_M_merged K k 38 lv st σ c z = k 38 (.ifCond .eq 12, 3, 0, [(0, 50)]) lv st σ c z := rfl
theorem go_M_merged_41 : g_go c_M_merged K k 41 lv st σ c z = k 41 (.aload_n 0, 1, 0, []) lv st σ c z := rfl
theorem go_M_merged_42 : g_go c_M_merged K k 42 lv st σ c z = k 42 (.getfield 45, 3, 0, []) lv st σ c z := rfl
theorem go_M_merged_45 : g_go c_M_merged K k 45 lv st σ c z = k 45 (.iload_n 3, 1, 0, []) lv st σ c z := rfl
theorem go_M_merged_46 : g_go c_M_merged K k 46 lv st σ c z = k 46 (.iaload, 1, 0, []) lv st σ c z := rfl
theorem go_M_merged_47 : g_go c_M_merged K k 47 lv st σ c z = k 47 (.goto 52, 3, 0, [(0, 99)]) lv st σ c z := rfl
theorem go_M_merged_50 : g_go c_M_merged K k 50 lv st σ c z = k 50 (.aload_n 0, 1, 0, []) lv st σ c z := rfl
theorem go_M_merged_51 : g_go c_M_merged K k 51 lv st σ c z = k 51 (.getfield 48, 3, 0, []) lv st σ c z := rfl
theorem go_M_merged_54 : g_go c_M_merged K k 54 lv st σ c z = k 54 (.iload_n 3, 1, 0, []) lv st σ c z := rfl
theorem go_M_merged_55 : g_go c_M_merged K k 55 lv st σ c z = k 55 (.bipush 10, 2, 10, []) lv st σ c z := rfl
theorem go_M_merged_57 : g_go c_M_merged K k 57 lv st σ c z = k 57 (.iadd, 1, 0, []) lv st σ c z := rfl
theorem go_M_merged_58 : g_go c_M_merged K k 58 lv st σ c z = k 58 (.baload, 1, 0, []) lv st σ c z := rfl
theorem go_M_merged_59 : g_go c_M_merged K k 59 lv st σ c z = k 59 (.ifCond .eq 15, 3, 0, [(0, 74)]) lv st σ c z := rfl
theorem go_M_merged_62 : g_go c_M_merged K k 62 lv st σ c z = k 62 (.aload_n 0, 1, 0, []) lv st σ c z := rfl
theorem go_M_merged_63 : g_go c_M_merged K k 63 lv st σ c z = k 63 (.getfield 45, 3, 0, []) lv st σ c z := rfl
theorem go_M_merged_66 : g_go c_M_merged K k 66 lv st σ c z = k 66 (.iload_n 3, 1, 0, []) lv st σ c z := rfl
theorem go_M_merged_67 : g_go c_M_merged K k 67 lv st σ c z = k 67 (.bipush 10, 2, 10, []) lv st σ c z := rfl
theorem go_M_merged_69 : g_go c_M_merged K k 69 lv st σ c z = k 69 (.iadd, 1, 0, []) lv st σ c z := rfl
theorem go_M_merged_70 : g_go c_M_merged K k 70 lv st σ c z = k 70 (.iaload, 1, 0, []) lv st σ c z := rfl
theorem go_M_merged_71 : g_go c_M_merged K k 71 lv st σ c z = k 71 (.goto 28, 3, 0, [(0, 99)]) lv st σ c z := rfl
theorem go_M_merged_74 : g_go c_M_merged K k 74 lv st σ c z = k 74 (.aload_n 0, 1, 0, []) lv st σ c z := rfl
theorem go_M_merged_75 : g_go c_M_merged K k 75 lv st σ c z = k 75 (.getfield 48, 3, 0, []) lv st σ c z := rfl
theorem go_M_merged_78 : g_go c_M_merged K k 78 lv st σ c z = k 78 (.iload_n 3, 1, 0, []) lv st σ c z := rfl
theorem go_M_merged_79 : g_go c_M_merged K k 79 lv st σ c z = k 79 (.bipush 20, 2, 20, []) lv st σ c z := rfl
theorem go_M_merged_81 : g_go c_M_merged K k 81 lv st σ c z = k 81 (.iadd, 1, 0, []) lv st σ c z := rfl
theorem go_M_merged_82 : g_go c_M_merged K k 82 lv st σ c z = k 82 (.baload, 1, 0, []) lv st σ c z := rfl
theorem go_M_merged_83 : g_go c_M_merged K k 83 lv st σ c z = k 83 (.ifCond .eq 15, 3, 0, [(0, 98)]) lv st σ c z := rfl
theorem go_M_merged_86 : g_go c_M_merged K k 86 lv st σ c z = k 86 (.aload_n 0, 1, 0, []) lv st σ c z := rfl
theorem go_M_merged_87 : g_go c_M_merged K k 87 lv st σ c z = k 87 (.getfield 45, 3, 0, []) lv st σ c z := rfl
theorem go_M_merged_90 : g_go c_M_merged K k 90 lv st σ c z = k 90 (.iload_n 3, 1, 0, []) lv st σ c z := rfl
theorem go_M_merged_91 : g_go c_M_merged K k 91 lv st σ c z = k 91 (.bipush 20, 2, 20, []) lv st σ c z := rfl
theorem go_M_merged_93 : g_go c_M_merged K k 93 lv st σ c z = k 93 (.iadd, 1, 0, []) lv st σ c z := rfl
theorem go_M_merged_94 : g_go c_M_merged K k 94 lv st σ c z = k 94 (.iaload, 1, 0, []) lv st σ c z := rfl
theorem go_M_merged_95 : g_go c_M_merged K k 95 lv st σ c z = k 95 (.goto 4, 3, 0, [(0, 99)]) lv st σ c z := rfl
theorem go_M_merged_98 : g_go c_M_merged K k 98 lv st σ c z = k 98 (.iconst (-1), 1, (-1), []) lv st σ c z := rfl
theorem go_M_merged_99 : g_go c_M_merged K k 99 lv st σ c z = k 99 (.ireturn, 1, 0, []) lv st σ c z := rfl
theorem go_M_extent_0 : g_go c_M_extent K k 0 lv st σ c z = k 0 (.aload_n 0, 1, 0, []) lv st σ c z := rfl
theorem at_M_extent_0 : g_at c_M_extent k 0 lv st σ c z = k 0 (.aload_n 0, 1, 0, []) lv st σ c z := rfl
theorem go_M_extent_1 : g_go c_M_extent K k 1 lv st σ c z = k 1 (.iconst 0, 1, 0, []) lv st σ c z := rfl
theorem go_M_extent_2 : g_go c_M_extent K k 2 lv st σ c z = k 2 (.putfield 67, 3, 0, []) lv st σ c z := rfl
theorem go_M_extent_5 : g_go c_M_extent K k 5 lv st σ c z = k 5 (.aload_n 0, 1, 0, []) lv st σ c z := rfl
theorem go_M_extent_6 : g_go c_M_extent K k 6 lv st σ c z = k 6 (.iload_n 1, 1, 0, []) lv st σ c z := rfl
theorem go_M_extent_7 : g_go c_M_extent K k 7 lv st σ c z = k 7 (.invokevirtual 90, 3, 0, []) lv st σ c z := rfl
theorem go_M_extent_10 : g_go c_M_extent K k 10 lv st σ c z = k 10 (.ifCond .eq 44, 3, 0, [(0, 54)]) lv st σ c z := rfl
theorem go_M_extent_13 : g_go c_M_extent K k 13 lv st σ c z = k 13 (.iload_n 2, 1, 0, []) lv st σ c z := rfl
theorem go_M_extent_14 : g_go c_M_extent K k 14 lv st σ c z = k 14 (.ifCond .lt 40, 3, 0, [(0, 54)]) lv st σ c z := rfl
theorem go_M_extent_17 : g_go c_M_extent K k 17 lv st σ c z = k 17 (.iload_n 2, 1, 0, []) lv st σ c z := rfl
theorem go_M_extent_18 : g_go c_M_extent K k 18 lv st σ c z = k 18 (.aload_n 0, 1, 0, []) lv st σ c z := rfl
theorem go_M_extent_19 : g_go c_M_extent K k 19 lv st σ c z = k 19 (.getfield 26, 3, 0, []) lv st σ c z := rfl
theorem go_M_extent_22 : g_go c_M_extent K k 22 lv st σ c z = k 22 (.iload_n 1, 1, 0, []) lv st σ c z := rfl
theorem go_M_extent_23 : g_go c_M_extent K k 23 lv st σ c z = k 23 (.iaload, 1, 0, []) lv st σ c z := rfl
theorem go_M_extent_24 : g_go c_M_extent K k 24 lv st σ c z = k 24 (.if_icmp .ge 30, 3, 0, [(0, 54)]) lv st σ c z := rfl
theorem go_M_extent_27 : g_go c_M_extent K k 27 lv st σ c z = k 27 (.iload_n 3, 1, 0, []) lv st σ c z := rfl
theorem go_M_extent_28 : g_go c_M_extent K k 28 lv st σ c z = k 28 (.ifCond .eq 8, 3, 0, [(0, 36)]) lv st σ c z := rfl
theorem go_M_extent_31 : g_go c_M_extent K k 31 lv st σ c z = k 31 (.iload_n 3, 1, 0, []) lv st σ c z := rfl
theorem go_M_extent_32 : g_go c_M_extent K k 32 lv st σ c z = k 32 (.iconst 1, 1, 1, []) lv st σ c z := rfl
theorem go_M_extent_33 : g_go c_M_extent K k 33 lv st σ c z = k 33 (.if_icmp .ne 21, 3, 0, [(0, 54)]) lv st σ c z := rfl
theorem go_M_extent_36 : g_go c_M_extent K k 36 lv st σ c z = k 36 (.aload_n 0, 1, 0, []) lv st σ c z := rfl
theorem go_M_extent_37 : g_go c_M_extent K k 37 lv st σ c z = k 37 (.getfield 29, 3, 0, []) lv st σ c z := rfl
theorem go_M_extent_40 : g_go c_M_extent K k 40 lv st σ c z = k 40 (.bipush 32, 2, 32, []) lv st σ c z := rfl
theorem go_M_extent_42 : g_go c_M_extent K k 42 lv st σ c z = k 42 (.iload_n 1, 1, 0, []) lv st σ c z := rfl
theorem go_M_extent_43 : g_go c_M_extent K k 43 lv st σ c z = k 43 (.imul, 1, 0, []) lv st σ c z := rfl
theorem go_M_extent_44 : g_go c_M_extent K k 44 lv st σ c z = k 44 (.iconst 2, 1, 2, []) lv st σ c z := rfl
theorem go_M_extent_45 : g_go c_M_extent K k 45 lv st σ c z = k 45 (.iload_n 2, 1, 0, []) lv st σ c z := rfl
theorem go_M_extent_46 : g_go c_M_extent K k 46 lv st σ c z = k 46 (.imul, 1, 0, []) lv st σ c z := rfl
theorem go_M_extent_47 : g_go c_M_extent K k 47 lv st σ c z = k 47 (.iadd, 1, 0, []) lv st σ c z := rfl
theorem go_M_extent_48 : g_go c_M_extent K k 48 lv st σ c z = k 48 (.iload_n 3, 1, 0, []) lv st σ c z := rfl
theorem go_M_extent_49 : g_go c_M_extent K k 49 lv st σ c z = k 49 (.iadd, 1, 0, []) lv st σ c z := rfl
theorem go_M_extent_50 : g_go c_M_extent K k 50 lv st σ c z = k 50 (.iaload, 1, 0, []) lv st σ c z := rfl
theorem go_M_extent_51 : g_go c_M_extent K k 51 lv st σ c z = k 51 (.goto 4, 3, 0, [(0, 55)]) lv st σ c z := rfl
theorem go_M_extent_54 : g_go c_M_extent K k 54 lv st σ c z = k 54 (.iconst (-1), 1, (-1), []) lv st σ c z := rfl
theorem go_M_extent_55 : g_go c_M_extent K k 55 lv st σ c z = k 55 (.ireturn, 1, 0, []) lv st σ c z := rfl
theorem go_M_space_0 : g_go c_M_space K k 0 lv st σ c z = k 0 (.aload_n 0, 1, 0, []) lv st σ c z := rfl
theorem at_M_space_0 : g_at c_M_space k 0 lv st σ c z = k 0 (.aload_n 0, 1, 0, []) lv st σ c z := rfl
theorem go_M_space_1 : g_go c_M_space K k 1 lv st σ c z = k 1 (.iconst 0, 1, 0, []) lv st σ c z := rfl
theorem go_M_space_2 : g_go c_M_space K k 2 lv st σ c z = k 2 (.putfield 67, 3, 0, []) lv st σ c z := rfl
theorem go_M_space_5 : g_go c_M_space K k 5 lv st σ c z = k 5 (.iconst 0, 1, 0, []) lv st σ c z := rfl
theorem go_M_space_6 : g_go c_M_space K k 6 lv st σ c z = k 6 (.istore_n 2, 1, 0, []) lv st σ c z := rfl
theorem go_M_space_7 : g_go c_M_space K k 7 lv st σ c z = k 7 (.iconst 0, 1, 0, []) lv st σ c z := rfl
theorem go_M_space_8 : g_go c_M_space K k 8 lv st σ c z = k 8 (.istore_n 3, 1, 0, []) lv st σ c z := rfl
theorem go_M_space_9 : g_go c_M_space K k 9 lv st σ c z = k 9 (.iconst 0, 1, 0, []) lv st σ c z := rfl
theorem go_M_space_10 : g_go c_M_space K k 10 lv st σ c z = k 10 (.istore 4, 2, 0, []) lv st σ c z := rfl
theorem go_M_space_12 : g_go c_M_space K k 12 lv st σ c z = k 12 (.iconst 0, 1, 0, []) lv st σ c z := rfl
theorem go_M_space_13 : g_go c_M_space K k 13 lv st σ c z = k 13 (.istore 5, 2, 0, []) lv st σ c z := rfl
theorem go_M_space_15 : g_go c_M_space K k 15 lv st σ c z = K 15 (lv.take 6) st σ c z := rfl
theorem at_M_space_15 : g_at c_M_space k 15 lv st σ c z = k 15 (.iload 5, 2, 0, []) lv st σ c z := rfl
theorem go_M_space_17 : g_go c_M_space K k 17 lv st σ c z = k 17 (.aload_n 0, 1, 0, []) lv st σ c z := rfl
theorem go_M_space_18 : g_go c_M_space K k 18 lv st σ c z = k 18 (.getfield 63, 3, 0, []) lv st σ c z := rfl
theorem go_M_space_21 : g_go c_M_space K k 21 lv st σ c z = k 21 (.if_icmp .ge 59, 3, 0, [(0, 80)]) lv st σ c z := rfl
theorem go_M_space_24 : g_go c_M_space K k 24 lv st σ c z = k 24 (.iload_n 2, 1, 0, []) lv st σ c z := rfl
theorem go_M_space_25 : g_go c_M_space K k 25 lv st σ c z = k 25 (.aload_n 0, 1, 0, []) lv st σ c z := rfl
theorem go_M_space_26 : g_go c_M_space K k 26 lv st σ c z = k 26 (.getfield 7, 3, 0, []) lv st σ c z := rfl
theorem go_M_space_29 : g_go c_M_space K k 29 lv st σ c z = k 29 (.iload 5, 2, 0, []) lv st σ c z := rfl
theorem go_M_space_31 : g_go c_M_space K k 31 lv st σ c z = k 31 (.iaload, 1, 0, []) lv st σ c z := rfl
theorem go_M_space_32 : g_go c_M_space K k 32 lv st σ c z = k 32 (.ifCond .ne 7, 3, 0, [(0, 39)]) lv st σ c z := rfl
theorem go_M_space_35 : g_go c_M_space K k 35 lv st σ c z = k 35 (.iconst 1, 1, 1, []) lv st σ c z := rfl
theorem go_M_space_36 : g_go c_M_space K k 36 lv st σ c z = k 36 (.goto 4, 3, 0, [(0, 40)]) lv st σ c z := rfl
theorem go_M_space_39 : g_go c_M_space K k 39 lv st σ c z = k 39 (.iconst 0, 1, 0, []) lv st σ c z := rfl
theorem go_M_space_40 : g_go c_M_space K k 40 lv st σ c z = k 40 (.iadd, 1, 0, []) lv st σ c z := rfl
theorem go_M_space_41 : g_go c_M_space K k 41 lv st σ c z = k 41 (.istore_n 2, 1, 0, []) lv st σ c z := rfl
theorem go_M_space_42 : g_go c_M_space K k 42 lv st σ c z = k 42 (.aload_n 0, 1, 0, []) lv st σ c z := rfl
theorem go_M_space_43 : g_go c_M_space K k 43 lv st σ c z = k 43 (.getfield 7, 3, 0, []) lv st σ c z := rfl
theorem go_M_space_46 : g_go c_M_space K k 46 lv st σ c z = k 46 (.iload 5, 2, 0, []) lv st σ c z := rfl
theorem go_M_space_48 : g_go c_M_space K k 48 lv st σ c z = k 48 (.iaload, 1, 0, []) lv st σ c z := rfl
theorem go_M_space_49 : g_go c_M_space K k 49 lv st σ c z = k 49 (.ifCond .ne 9, 3, 0, [(0, 58)]) lv st σ c z := rfl
theorem go_M_space_52 : g_go c_M_space K k 52 lv st σ c z = k 52 (.iload_n 3, 1, 0, []) lv st σ c z := rfl
theorem go_M_space_53 : g_go c_M_space K k 53 lv st σ c z = k 53 (.iconst 1, 1, 1, []) lv st σ c z := rfl
theorem go_M_space_54 : g_go c_M_space K k 54 lv st σ c z = k 54 (.iadd, 1, 0, []) lv st σ c z := rfl
theorem go_M_space_55 : g_go c_M_space K k 55 lv st σ c z = k 55 (.goto 4, 3, 0, [(0, 59)]) lv st σ c z := rfl
theorem go_M_space_58 : g_go c_M_space K k 58 lv st σ c z = k 58 (.iconst 0, 1, 0, []) lv st σ c z := rfl
theorem go_M_space_59 : g_go c_M_space K k 59 lv st σ c z = k 59 (.istore_n 3, 1, 0, []) lv st σ c z := rfl
theorem go_M_space_60 : g_go c_M_space K k 60 lv st σ c z = k 60 (.iload_n 3, 1, 0, []) lv st σ c z := rfl
theorem go_M_space_61 : g_go c_M_space K k 61 lv st σ c z = k 61 (.iload 4, 2, 0, []) lv st σ c z := rfl
theorem go_M_space_63 : g_go c_M_space K k 63 lv st σ c z = k 63 (.if_icmp .le 7, 3, 0, [(0, 70)]) lv st σ c z := rfl
theorem go_M_space_66 : g_go c_M_space K k 66 lv st σ c z = k 66 (.iload_n 3, 1, 0, []) lv st σ c z := rfl
theorem go_M_space_67 : g_go c_M_space K k 67 lv st σ c z = k 67 (.goto 5, 3, 0, [(0, 72)]) lv st σ c z := rfl
theorem go_M_space_70 : g_go c_M_space K k 70 lv st σ c z = k 70 (.iload 4, 2, 0, []) lv st σ c z := rfl
theorem go_M_space_72 : g_go c_M_space K k 72 lv st σ c z = k 72 (.istore 4, 2, 0, []) lv st σ c z := rfl
theorem go_M_space_74 : g_go c_M_space K k 74 lv st σ c z = k 74 (.iinc 5 1, 3, 1, []) lv st σ c z := rfl
theorem go_M_space_77 : g_go c_M_space K k 77 lv st σ c z = k 77 (.goto (-62), 3, 0, [(0, 15)]) lv st σ c z := rfl
theorem go_M_space_80 : g_go c_M_space K k 80 lv st σ c z = k 80 (.iconst 0, 1, 0, []) lv st σ c z := rfl
theorem go_M_space_81 : g_go c_M_space K k 81 lv st σ c z = k 81 (.istore 5, 2, 0, []) lv st σ c z := rfl
theorem go_M_space_83 : g_go c_M_space K k 83 lv st σ c z = k 83 (.iconst 0, 1, 0, []) lv st σ c z := rfl
theorem go_M_space_84 : g_go c_M_space K k 84 lv st σ c z = k 84 (.istore 6, 2, 0, []) lv st σ c z := rfl
theorem go_M_space_86 : g_go c_M_space K k 86 lv st σ c z = k 86 (.iconst 1, 1, 1, []) lv st σ c z := rfl
theorem go_M_space_87 : g_go c_M_space K k 87 lv st σ c z = k 87 (.istore 7, 2, 0, []) lv st σ c z := rfl
theorem go_M_space_89 : g_go c_M_space K k 89 lv st σ c z = K 89 (lv.take 8) st σ c z := rfl
theorem at_M_space_89 : g_at c_M_space k 89 lv st σ c z = k 89 (.iload 7, 2, 0, []) lv st σ c z := rfl
theorem go_M_space_91 : g_go c_M_space K k 91 lv st σ c z = k 91 (.aload_n 0, 1, 0, []) lv st σ c z := rfl
theorem go_M_space_92 : g_go c_M_space K k 92 lv st σ c z = k 92 (.getfield 70, 3, 0, []) lv st σ c z := rfl
theorem go_M_space_95 : g_go c_M_space K k 95 lv st σ c z = k 95 (.if_icmp .gt 55, 3, 0, [(0, 150)]) lv st σ c z := rfl
theorem go_M_space_98 : g_go c_M_space K k 98 lv st σ c z = k 98 (.iload 5, 2, 0, []) lv st σ c z := rfl
theorem go_M_space_100 : g_go c_M_space K k 100 lv st σ c z = k 100 (.aload_n 0, 1, 0, []) lv st σ c z := rfl
theorem go_M_space_101 : g_go c_M_space K k 101 lv st σ c z = k 101 (.getfield 13, 3, 0, []) lv st σ c z := rfl
theorem go_M_space_104 : g_go c_M_space K k 104 lv st σ c z = k 104 (.iload 7, 2, 0, []) lv st σ c z := rfl
theorem go_M_space_106 : g_go c_M_space K k 106 lv st σ c z = k 106 (.baload, 1, 0, []) lv st σ c z := rfl
theorem go_M_space_107 : g_go c_M_space K k 107 lv st σ c z = k 107 (.ifCond .eq 7, 3, 0, [(0, 114)]) lv st σ c z := rfl
theorem go_M_space_110 : g_go c_M_space K k 110 lv st σ c z = k 110 (.iconst 0, 1, 0, []) lv st σ c z := rfl
theorem go_M_space_111 : g_go c_M_space K k 111 lv st σ c z = k 111 (.goto 4, 3, 0, [(0, 115)]) lv st σ c z := rfl
theorem go_M_space_114 : g_go c_M_space K k 114 lv st σ c z = k 114 (.iconst 1, 1, 1, []) lv st σ c z := rfl
theorem go_M_space_115 : g_go c_M_space K k 115 lv st σ c z = k 115 (.iadd, 1, 0, []) lv st σ c z := rfl
theorem go_M_space_116 : g_go c_M_space K k 116 lv st σ c z = k 116 (.istore 5, 2, 0, []) lv st σ c z := rfl
theorem go_M_space_118 : g_go c_M_space K k 118 lv st σ c z = k 118 (.iload 6, 2, 0, []) lv st σ c z := rfl
theorem go_M_space_120 : g_go c_M_space K k 120 lv st σ c z = k 120 (.aload_n 0, 1, 0, []) lv st σ c z := rfl
theorem go_M_space_121 : g_go c_M_space K k 121 lv st σ c z = k 121 (.getfield 13, 3, 0, []) lv st σ c z := rfl
theorem go_M_space_124 : g_go c_M_space K k 124 lv st σ c z = k 124 (.iload 7, 2, 0, []) lv st σ c z := rfl
theorem go_M_space_126 : g_go c_M_space K k 126 lv st σ c z = k 126 (.baload, 1, 0, []) lv st σ c z := rfl
theorem go_M_space_127 : g_go c_M_space K k 127 lv st σ c z = k 127 (.ifCond .eq 7, 3, 0, [(0, 134)]) lv st σ c z := rfl
theorem go_M_space_130 : g_go c_M_space K k 130 lv st σ c z = k 130 (.iconst 0, 1, 0, []) lv st σ c z := rfl
theorem go_M_space_131 : g_go c_M_space K k 131 lv st σ c z = k 131 (.goto 10, 3, 0, [(0, 141)]) lv st σ c z := rfl
theorem go_M_space_134 : g_go c_M_space K k 134 lv st σ c z = k 134 (.aload_n 0, 1, 0, []) lv st σ c z := rfl
theorem go_M_space_135 : g_go c_M_space K k 135 lv st σ c z = k 135 (.getfield 26, 3, 0, []) lv st σ c z := rfl
theorem go_M_space_138 : g_go c_M_space K k 138 lv st σ c z = k 138 (.iload 7, 2, 0, []) lv st σ c z := rfl
theorem go_M_space_140 : g_go c_M_space K k 140 lv st σ c z = k 140 (.iaload, 1, 0, []) lv st σ c z := rfl
theorem go_M_space_141 : g_go c_M_space K k 141 lv st σ c z = k 141 (.iadd, 1, 0, []) lv st σ c z := rfl
theorem go_M_space_142 : g_go c_M_space K k 142 lv st σ c z = k 142 (.istore 6, 2, 0, []) lv st σ c z := rfl
theorem go_M_space_144 : g_go c_M_space K k 144 lv st σ c z = k 144 (.iinc 7 1, 3, 1, []) lv st σ c z := rfl
theorem go_M_space_147 : g_go c_M_space K k 147 lv st σ c z = k 147 (.goto (-58), 3, 0, [(0, 89)]) lv st σ c z := rfl
theorem go_M_space_150 : g_go c_M_space K k 150 lv st σ c z = k 150 (.iconst 0, 1, 0, []) lv st σ c z := rfl
theorem go_M_space_151 : g_go c_M_space K k 151 lv st σ c z = k 151 (.istore 7, 2, 0, []) lv st σ c z := rfl
theorem go_M_space_153 : g_go c_M_space K k 153 lv st σ c z = k 153 (.iconst 0, 1, 0, []) lv st σ c z := rfl
theorem go_M_space_154 : g_go c_M_space K k 154 lv st σ c z = k 154 (.istore 8, 2, 0, []) lv st σ c z := rfl
theorem go_M_space_156 : g_go c_M_space K k 156 lv st σ c z = K 156 (lv.take 9) st σ c z := rfl
theorem at_M_space_156 : g_at c_M_space k 156 lv st σ c z = k 156 (.iload 8, 2, 0, []) lv st σ c z := rfl
theorem go_M_space_158 : g_go c_M_space K k 158 lv st σ c z = k 158 (.aload_n 0, 1, 0, []) lv st σ c z := rfl
theorem go_M_space_159 : g_go c_M_space K k 159 lv st σ c z = k 159 (.getfield 100, 3, 0, []) lv st σ c z := rfl
theorem go_M_space_162 : g_go c_M_space K k 162 lv st σ c z = k 162 (.if_icmp .ge 29, 3, 0, [(0, 191)]) lv st σ c z := rfl
theorem go_M_space_165 : g_go c_M_space K k 165 lv st σ c z = k 165 (.iload 7, 2, 0, []) lv st σ c z := rfl
theorem go_M_space_167 : g_go c_M_space K k 167 lv st σ c z = k 167 (.aload_n 0, 1, 0, []) lv st σ c z := rfl
theorem go_M_space_168 : g_go c_M_space K k 168 lv st σ c z = k 168 (.getfield 60, 3, 0, []) lv st σ c z := rfl
theorem go_M_space_171 : g_go c_M_space K k 171 lv st σ c z = k 171 (.iload 8, 2, 0, []) lv st σ c z := rfl
theorem go_M_space_173 : g_go c_M_space K k 173 lv st σ c z = k 173 (.baload, 1, 0, []) lv st σ c z := rfl
theorem go_M_space_174 : g_go c_M_space K k 174 lv st σ c z = k 174 (.ifCond .eq 7, 3, 0, [(0, 181)]) lv st σ c z := rfl
theorem go_M_space_177 : g_go c_M_space K k 177 lv st σ c z = k 177 (.iconst 1, 1, 1, []) lv st σ c z := rfl
theorem go_M_space_178 : g_go c_M_space K k 178 lv st σ c z = k 178 (.goto 4, 3, 0, [(0, 182)]) lv st σ c z := rfl
theorem go_M_space_181 : g_go c_M_space K k 181 lv st σ c z = k 181 (.iconst 0, 1, 0, []) lv st σ c z := rfl
theorem go_M_space_182 : g_go c_M_space K k 182 lv st σ c z = k 182 (.iadd, 1, 0, []) lv st σ c z := rfl
theorem go_M_space_183 : g_go c_M_space K k 183 lv st σ c z = k 183 (.istore 7, 2, 0, []) lv st σ c z := rfl
theorem go_M_space_185 : g_go c_M_space K k 185 lv st σ c z = k 185 (.iinc 8 1, 3, 1, []) lv st σ c z := rfl
theorem go_M_space_188 : g_go c_M_space K k 188 lv st σ c z = k 188 (.goto (-32), 3, 0, [(0, 156)]) lv st σ c z := rfl
theorem go_M_space_191 : g_go c_M_space K k 191 lv st σ c z = k 191 (.iload_n 1, 1, 0, []) lv st σ c z := rfl
theorem go_M_space_192 : g_go c_M_space K k 192 lv st σ c z = k 192 (.tableswitch 62 0 5 #[40, 42, 45, 48, 51, 59], 40, 0, [(0, 232), (1, 234), (2, 237), (3, 240), (4, 243), (5, 251), (0, 254)]) lv st σ c z := rfl
theorem go_M_space_232 : g_go c_M_space K k 232 lv st σ c z = k 232 (.iload_n 2, 1, 0, []) lv st σ c z := rfl
theorem go_M_space_233 : g_go c_M_space K k 233 lv st σ c z = k 233 (.ireturn, 1, 0, []) lv st σ c z := rfl
theorem go_M_space_234 : g_go c_M_space K k 234 lv st σ c z = k 234 (.iload 4, 2, 0, []) lv st σ c z := rfl
theorem go_M_space_236 : g_go c_M_space K k 236 lv st σ c z = k 236 (.ireturn, 1, 0, []) lv st σ c z := rfl
theorem go_M_space_237 : g_go c_M_space K k 237 lv st σ c z = k 237 (.iload 5, 2, 0, []) lv st σ c z := rfl
theorem go_M_space_239 : g_go c_M_space K k 239 lv st σ c z = k 239 (.ireturn, 1, 0, []) lv st σ c z := rfl
theorem go_M_space_240 : g_go c_M_space K k 240 lv st σ c z = k 240 (.iload 6, 2, 0, []) lv st σ c z := rfl
theorem go_M_space_242 : g_go c_M_space K k 242 lv st σ c z = k 242 (.ireturn, 1, 0, []) lv st σ c z := rfl
theorem go_M_space_243 : g_go c_M_space K k 243 lv st σ c z = k 243 (.aload_n 0, 1, 0, []) lv st σ c z := rfl
theorem go_M_space_244 : g_go c_M_space K k 244 lv st σ c z = k 244 (.getfield 100, 3, 0, []) lv st σ c z := rfl
theorem go_M_space_247 : g_go c_M_space K k 247 lv st σ c z = k 247 (.iload 7, 2, 0, []) lv st σ c z := rfl
theorem go_M_space_249 : g_go c_M_space K k 249 lv st σ c z = k 249 (.isub, 1, 0, []) lv st σ c z := rfl
theorem go_M_space_250 : g_go c_M_space K k 250 lv st σ c z = k 250 (.ireturn, 1, 0, []) lv st σ c z := rfl
theorem go_M_space_251 : g_go c_M_space K k 251 lv st σ c z = k 251 (.iload 7, 2, 0, []) lv st σ c z := rfl
theorem go_M_space_253 : g_go c_M_space K k 253 lv st σ c z = k 253 (.ireturn, 1, 0, []) lv st σ c z := rfl
theorem go_M_space_254 : g_go c_M_space K k 254 lv st σ c z = k 254 (.iconst (-1), 1, (-1), []) lv st σ c z := rfl
theorem go_M_space_255 : g_go c_M_space K k 255 lv st σ c z = k 255 (.ireturn, 1, 0, []) lv st σ c z := rfl
end GO
