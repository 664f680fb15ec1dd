section GO
variable {K : gK} {k : gC} {lv : gL} {st : List Value} {σ : gS} {c z : Nat} 
theorem go_W_cell_0 : g_go c_W_cell K k 0 lv st σ c z = k 0 (.iload_n 1, 1, 0, []) lv st σ c z := rfl
theorem at_W_cell_0 : g_at c_W_cell k 0 lv st σ c z = k 0 (.iload_n 1, 1, 0, []) lv st σ c z := rfl
theorem go_W_cell_1 : g_go c_W_cell K k 1 lv st σ c z = k 1 (.aload_n 0, 1, 0, []) lv st σ c z := rfl
theorem go_W_cell_2 : g_go c_W_cell K k 2 lv st σ c z = k 2 (.arraylength, 1, 0, []) lv st σ c z := rfl
theorem go_W_cell_3 : g_go c_W_cell K k 3 lv st σ c z = k 3 (.if_icmp .ge 9, 3, 0, [(0, 12)]) lv st σ c z := rfl
theorem go_W_cell_6 : g_go c_W_cell K k 6 lv st σ c z = k 6 (.aload_n 0, 1, 0, []) lv st σ c z := rfl
theorem go_W_cell_7 : g_go c_W_cell K k 7 lv st σ c z = k 7 (.iload_n 1, 1, 0, []) lv st σ c z := rfl
theorem go_W_cell_8 : g_go c_W_cell K k 8 lv st σ c z = k 8 (.iaload, 1, 0, []) lv st σ c z := rfl
theorem go_W_cell_9 : g_go c_W_cell K k 9 lv st σ c z = k 9 (.goto 4, 3, 0, [(0, 13)]) lv st σ c z := rfl
theorem go_W_cell_12 : g_go c_W_cell K k 12 lv st σ c z = k 12 (.iconst 0, 1, 0, []) lv st σ c z := rfl
theorem go_W_cell_13 : g_go c_W_cell K k 13 lv st σ c z = k 13 (.ireturn, 1, 0, []) lv st σ c z := rfl
set_option maxRecDepth 20000 in
theorem go_W_law_0 : g_go c_W_law K k 0 lv st σ c z = k 0 (.new 7, 3, 0, []) lv st σ c z := rfl
set_option maxRecDepth 20000 in
theorem at_W_law_0 : g_at c_W_law k 0 lv st σ c z = k 0 (.new 7, 3, 0, []) lv st σ c z := rfl
set_option maxRecDepth 20000 in
theorem go_W_law_3 : g_go c_W_law K k 3 lv st σ c z = k 3 (.dup, 1, 0, []) lv st σ c z := rfl
set_option maxRecDepth 20000 in
theorem go_W_law_4 : g_go c_W_law K k 4 lv st σ c z = k 4 (.aload_n 0, 1, 0, []) lv st σ c z := rfl
set_option maxRecDepth 20000 in
theorem go_W_law_5 : g_go c_W_law K k 5 lv st σ c z = k 5 (.iconst 0, 1, 0, []) lv st σ c z := rfl
set_option maxRecDepth 20000 in
theorem go_W_law_6 : g_go c_W_law K k 6 lv st σ c z = k 6 (.invokestatic 9, 3, 0, []) lv st σ c z := rfl
set_option maxRecDepth 20000 in
theorem go_W_law_9 : g_go c_W_law K k 9 lv st σ c z = k 9 (.invokespecial 15, 3, 0, []) lv st σ c z := rfl
set_option maxRecDepth 20000 in
theorem go_W_law_12 : g_go c_W_law K k 12 lv st σ c z = k 12 (.astore_n 1, 1, 0, []) lv st σ c z := rfl
set_option maxRecDepth 20000 in
theorem go_W_law_13 : g_go c_W_law K k 13 lv st σ c z = k 13 (.new 18, 3, 0, []) lv st σ c z := rfl
set_option maxRecDepth 20000 in
theorem go_W_law_16 : g_go c_W_law K k 16 lv st σ c z = k 16 (.dup, 1, 0, []) lv st σ c z := rfl
set_option maxRecDepth 20000 in
theorem go_W_law_17 : g_go c_W_law K k 17 lv st σ c z = k 17 (.aload_n 0, 1, 0, []) lv st σ c z := rfl
set_option maxRecDepth 20000 in
theorem go_W_law_18 : g_go c_W_law K k 18 lv st σ c z = k 18 (.iconst 0, 1, 0, []) lv st σ c z := rfl
set_option maxRecDepth 20000 in
theorem go_W_law_19 : g_go c_W_law K k 19 lv st σ c z = k 19 (.invokestatic 9, 3, 0, []) lv st σ c z := rfl
set_option maxRecDepth 20000 in
theorem go_W_law_22 : g_go c_W_law K k 22 lv st σ c z = k 22 (.invokespecial 20, 3, 0, []) lv st σ c z := rfl
set_option maxRecDepth 20000 in
theorem go_W_law_25 : g_go c_W_law K k 25 lv st σ c z = k 25 (.astore_n 2, 1, 0, []) lv st σ c z := rfl
set_option maxRecDepth 20000 in
theorem go_W_law_26 : g_go c_W_law K k 26 lv st σ c z = k 26 (.iconst 1, 1, 1, []) lv st σ c z := rfl
set_option maxRecDepth 20000 in
theorem go_W_law_27 : g_go c_W_law K k 27 lv st σ c z = k 27 (.istore_n 3, 1, 0, []) lv st σ c z := rfl
set_option maxRecDepth 20000 in
theorem go_W_law_28 : g_go c_W_law K k 28 lv st σ c z = K 28 (lv.take 4) st σ c z := rfl
set_option maxRecDepth 20000 in
theorem at_W_law_28 : g_at c_W_law k 28 lv st σ c z = k 28 (.iload_n 3, 1, 0, []) lv st σ c z := rfl
set_option maxRecDepth 20000 in
theorem go_W_law_29 : g_go c_W_law K k 29 lv st σ c z = k 29 (.aload_n 0, 1, 0, []) lv st σ c z := rfl
set_option maxRecDepth 20000 in
theorem go_W_law_30 : g_go c_W_law K k 30 lv st σ c z = k 30 (.arraylength, 1, 0, []) lv st σ c z := rfl
set_option maxRecDepth 20000 in
theorem go_W_law_31 : g_go c_W_law K k 31 lv st σ c z = k 31 (.iconst 5, 1, 5, []) lv st σ c z := rfl
set_option maxRecDepth 20000 in
theorem go_W_law_32 : g_go c_W_law K k 32 lv st σ c z = k 32 (.isub, 1, 0, []) lv st σ c z := rfl
set_option maxRecDepth 20000 in
theorem go_W_law_33 : g_go c_W_law K k 33 lv st σ c z = k 33 (.if_icmp .gt 697, 3, 0, [(0, 730)]) lv st σ c z := rfl
set_option maxRecDepth 20000 in
theorem go_W_law_36 : g_go c_W_law K k 36 lv st σ c z = k 36 (.aload_n 0, 1, 0, []) lv st σ c z := rfl
set_option maxRecDepth 20000 in
theorem go_W_law_37 : g_go c_W_law K k 37 lv st σ c z = k 37 (.iload_n 3, 1, 0, []) lv st σ c z := rfl
set_option maxRecDepth 20000 in
theorem go_W_law_38 : g_go c_W_law K k 38 lv st σ c z = k 38 (.iaload, 1, 0, []) lv st σ c z := rfl
set_option maxRecDepth 20000 in
theorem go_W_law_39 : g_go c_W_law K k 39 lv st σ c z = k 39 (.bipush 15, 2, 15, []) lv st σ c z := rfl
set_option maxRecDepth 20000 in
theorem go_W_law_41 : g_go c_W_law K k 41 lv st σ c z = k 41 (.iand, 1, 0, []) lv st σ c z := rfl
set_option maxRecDepth 20000 in
theorem go_W_law_42 : g_go c_W_law K k 42 lv st σ c z = k 42 (.tableswitch 682 0 15 #[78, 121, 144, 167, 210, 243, 306, 369, 402, 455, 488, 547, 570, 593, 616, 639], 78, 0, [(0, 120), (1, 163), (2, 186), (3, 209), (4, 252), (5, 285), (6, 348), (7, 411), (8, 444), (9, 497), (10, 530), (11, 589), (12, 612), (13, 635), (14, 658), (15, 681), (0, 724)]) lv st σ c z := rfl
set_option maxRecDepth 20000 in
theorem go_W_law_120 : g_go c_W_law K k 120 lv st σ c z = k 120 (.aload_n 1, 1, 0, []) lv st σ c z := rfl
set_option maxRecDepth 20000 in
theorem go_W_law_121 : g_go c_W_law K k 121 lv st σ c z = k 121 (.aload_n 0, 1, 0, []) lv st σ c z := rfl
set_option maxRecDepth 20000 in
theorem go_W_law_122 : g_go c_W_law K k 122 lv st σ c z = k 122 (.iload_n 3, 1, 0, []) lv st σ c z := rfl
set_option maxRecDepth 20000 in
theorem go_W_law_123 : g_go c_W_law K k 123 lv st σ c z = k 123 (.iconst 1, 1, 1, []) lv st σ c z := rfl
set_option maxRecDepth 20000 in
theorem go_W_law_124 : g_go c_W_law K k 124 lv st σ c z = k 124 (.iadd, 1, 0, []) lv st σ c z := rfl
set_option maxRecDepth 20000 in
theorem go_W_law_125 : g_go c_W_law K k 125 lv st σ c z = k 125 (.iaload, 1, 0, []) lv st σ c z := rfl
set_option maxRecDepth 20000 in
theorem go_W_law_126 : g_go c_W_law K k 126 lv st σ c z = k 126 (.aload_n 0, 1, 0, []) lv st σ c z := rfl
set_option maxRecDepth 20000 in
theorem go_W_law_127 : g_go c_W_law K k 127 lv st σ c z = k 127 (.iload_n 3, 1, 0, []) lv st σ c z := rfl
set_option maxRecDepth 20000 in
theorem go_W_law_128 : g_go c_W_law K k 128 lv st σ c z = k 128 (.iconst 2, 1, 2, []) lv st σ c z := rfl
set_option maxRecDepth 20000 in
theorem go_W_law_129 : g_go c_W_law K k 129 lv st σ c z = k 129 (.iadd, 1, 0, []) lv st σ c z := rfl
set_option maxRecDepth 20000 in
theorem go_W_law_130 : g_go c_W_law K k 130 lv st σ c z = k 130 (.iaload, 1, 0, []) lv st σ c z := rfl
set_option maxRecDepth 20000 in
theorem go_W_law_131 : g_go c_W_law K k 131 lv st σ c z = k 131 (.aload_n 0, 1, 0, []) lv st σ c z := rfl
set_option maxRecDepth 20000 in
theorem go_W_law_132 : g_go c_W_law K k 132 lv st σ c z = k 132 (.iload_n 3, 1, 0, []) lv st σ c z := rfl
set_option maxRecDepth 20000 in
theorem go_W_law_133 : g_go c_W_law K k 133 lv st σ c z = k 133 (.iconst 3, 1, 3, []) lv st σ c z := rfl
set_option maxRecDepth 20000 in
theorem go_W_law_134 : g_go c_W_law K k 134 lv st σ c z = k 134 (.iadd, 1, 0, []) lv st σ c z := rfl
set_option maxRecDepth 20000 in
theorem go_W_law_135 : g_go c_W_law K k 135 lv st σ c z = k 135 (.iaload, 1, 0, []) lv st σ c z := rfl
set_option maxRecDepth 20000 in
theorem go_W_law_136 : g_go c_W_law K k 136 lv st σ c z = k 136 (.invokevirtual 21, 3, 0, []) lv st σ c z := rfl
set_option maxRecDepth 20000 in
theorem go_W_law_139 : g_go c_W_law K k 139 lv st σ c z = k 139 (.aload_n 2, 1, 0, []) lv st σ c z := rfl
set_option maxRecDepth 20000 in
theorem go_W_law_140 : g_go c_W_law K k 140 lv st σ c z = k 140 (.aload_n 0, 1, 0, []) lv st σ c z := rfl
set_option maxRecDepth 20000 in
theorem go_W_law_141 : g_go c_W_law K k 141 lv st σ c z = k 141 (.iload_n 3, 1, 0, []) lv st σ c z := rfl
set_option maxRecDepth 20000 in
theorem go_W_law_142 : g_go c_W_law K k 142 lv st σ c z = k 142 (.iconst 1, 1, 1, []) lv st σ c z := rfl
set_option maxRecDepth 20000 in
theorem go_W_law_143 : g_go c_W_law K k 143 lv st σ c z = k 143 (.iadd, 1, 0, []) lv st σ c z := rfl
set_option maxRecDepth 20000 in
theorem go_W_law_144 : g_go c_W_law K k 144 lv st σ c z = k 144 (.iaload, 1, 0, []) lv st σ c z := rfl
set_option maxRecDepth 20000 in
theorem go_W_law_145 : g_go c_W_law K k 145 lv st σ c z = k 145 (.aload_n 0, 1, 0, []) lv st σ c z := rfl
set_option maxRecDepth 20000 in
theorem go_W_law_146 : g_go c_W_law K k 146 lv st σ c z = k 146 (.iload_n 3, 1, 0, []) lv st σ c z := rfl
set_option maxRecDepth 20000 in
theorem go_W_law_147 : g_go c_W_law K k 147 lv st σ c z = k 147 (.iconst 2, 1, 2, []) lv st σ c z := rfl
set_option maxRecDepth 20000 in
theorem go_W_law_148 : g_go c_W_law K k 148 lv st σ c z = k 148 (.iadd, 1, 0, []) lv st σ c z := rfl
set_option maxRecDepth 20000 in
theorem go_W_law_149 : g_go c_W_law K k 149 lv st σ c z = k 149 (.iaload, 1, 0, []) lv st σ c z := rfl
set_option maxRecDepth 20000 in
theorem go_W_law_150 : g_go c_W_law K k 150 lv st σ c z = k 150 (.aload_n 0, 1, 0, []) lv st σ c z := rfl
set_option maxRecDepth 20000 in
theorem go_W_law_151 : g_go c_W_law K k 151 lv st σ c z = k 151 (.iload_n 3, 1, 0, []) lv st σ c z := rfl
set_option maxRecDepth 20000 in
theorem go_W_law_152 : g_go c_W_law K k 152 lv st σ c z = k 152 (.iconst 3, 1, 3, []) lv st σ c z := rfl
set_option maxRecDepth 20000 in
theorem go_W_law_153 : g_go c_W_law K k 153 lv st σ c z = k 153 (.iadd, 1, 0, []) lv st σ c z := rfl
set_option maxRecDepth 20000 in
theorem go_W_law_154 : g_go c_W_law K k 154 lv st σ c z = k 154 (.iaload, 1, 0, []) lv st σ c z := rfl
set_option maxRecDepth 20000 in
theorem go_W_law_155 : g_go c_W_law K k 155 lv st σ c z = k 155 (.invokevirtual 25, 3, 0, []) lv st σ c z := rfl
set_option maxRecDepth 20000 in
theorem go_W_law_158 : g_go c_W_law K k 158 lv st σ c z = k 158 (.if_icmp .eq 566, 3, 0, [(0, 724)]) lv st σ c z := rfl
set_option maxRecDepth 20000 in
theorem go_W_law_161 : g_go c_W_law K k 161 lv st σ c z = k 161 (.iconst 0, 1, 0, []) lv st σ c z := rfl
set_option maxRecDepth 20000 in
theorem go_W_law_162 : g_go c_W_law K k 162 lv st σ c z = k 162 (.ireturn, 1, 0, []) lv st σ c z := rfl
set_option maxRecDepth 20000 in
theorem go_W_law_163 : g_go c_W_law K k 163 lv st σ c z = k 163 (.aload_n 1, 1, 0, []) lv st σ c z := rfl
set_option maxRecDepth 20000 in
theorem go_W_law_164 : g_go c_W_law K k 164 lv st σ c z = k 164 (.aload_n 0, 1, 0, []) lv st σ c z := rfl
set_option maxRecDepth 20000 in
theorem go_W_law_165 : g_go c_W_law K k 165 lv st σ c z = k 165 (.iload_n 3, 1, 0, []) lv st σ c z := rfl
set_option maxRecDepth 20000 in
theorem go_W_law_166 : g_go c_W_law K k 166 lv st σ c z = k 166 (.iconst 1, 1, 1, []) lv st σ c z := rfl
set_option maxRecDepth 20000 in
theorem go_W_law_167 : g_go c_W_law K k 167 lv st σ c z = k 167 (.iadd, 1, 0, []) lv st σ c z := rfl
set_option maxRecDepth 20000 in
theorem go_W_law_168 : g_go c_W_law K k 168 lv st σ c z = k 168 (.iaload, 1, 0, []) lv st σ c z := rfl
set_option maxRecDepth 20000 in
theorem go_W_law_169 : g_go c_W_law K k 169 lv st σ c z = k 169 (.invokevirtual 26, 3, 0, []) lv st σ c z := rfl
set_option maxRecDepth 20000 in
theorem go_W_law_172 : g_go c_W_law K k 172 lv st σ c z = k 172 (.aload_n 2, 1, 0, []) lv st σ c z := rfl
set_option maxRecDepth 20000 in
theorem go_W_law_173 : g_go c_W_law K k 173 lv st σ c z = k 173 (.aload_n 0, 1, 0, []) lv st σ c z := rfl
set_option maxRecDepth 20000 in
theorem go_W_law_174 : g_go c_W_law K k 174 lv st σ c z = k 174 (.iload_n 3, 1, 0, []) lv st σ c z := rfl
set_option maxRecDepth 20000 in
theorem go_W_law_175 : g_go c_W_law K k 175 lv st σ c z = k 175 (.iconst 1, 1, 1, []) lv st σ c z := rfl
set_option maxRecDepth 20000 in
theorem go_W_law_176 : g_go c_W_law K k 176 lv st σ c z = k 176 (.iadd, 1, 0, []) lv st σ c z := rfl
set_option maxRecDepth 20000 in
theorem go_W_law_177 : g_go c_W_law K k 177 lv st σ c z = k 177 (.iaload, 1, 0, []) lv st σ c z := rfl
set_option maxRecDepth 20000 in
theorem go_W_law_178 : g_go c_W_law K k 178 lv st σ c z = k 178 (.invokevirtual 30, 3, 0, []) lv st σ c z := rfl
set_option maxRecDepth 20000 in
theorem go_W_law_181 : g_go c_W_law K k 181 lv st σ c z = k 181 (.if_icmp .eq 543, 3, 0, [(0, 724)]) lv st σ c z := rfl
set_option maxRecDepth 20000 in
theorem go_W_law_184 : g_go c_W_law K k 184 lv st σ c z = k 184 (.iconst 0, 1, 0, []) lv st σ c z := rfl
set_option maxRecDepth 20000 in
theorem go_W_law_185 : g_go c_W_law K k 185 lv st σ c z = k 185 (.ireturn, 1, 0, []) lv st σ c z := rfl
set_option maxRecDepth 20000 in
theorem go_W_law_186 : g_go c_W_law K k 186 lv st σ c z = k 186 (.aload_n 1, 1, 0, []) lv st σ c z := rfl
set_option maxRecDepth 20000 in
theorem go_W_law_187 : g_go c_W_law K k 187 lv st σ c z = k 187 (.aload_n 0, 1, 0, []) lv st σ c z := rfl
set_option maxRecDepth 20000 in
theorem go_W_law_188 : g_go c_W_law K k 188 lv st σ c z = k 188 (.iload_n 3, 1, 0, []) lv st σ c z := rfl
set_option maxRecDepth 20000 in
theorem go_W_law_189 : g_go c_W_law K k 189 lv st σ c z = k 189 (.iconst 1, 1, 1, []) lv st σ c z := rfl
set_option maxRecDepth 20000 in
theorem go_W_law_190 : g_go c_W_law K k 190 lv st σ c z = k 190 (.iadd, 1, 0, []) lv st σ c z := rfl
set_option maxRecDepth 20000 in
theorem go_W_law_191 : g_go c_W_law K k 191 lv st σ c z = k 191 (.iaload, 1, 0, []) lv st σ c z := rfl
set_option maxRecDepth 20000 in
theorem go_W_law_192 : g_go c_W_law K k 192 lv st σ c z = k 192 (.invokevirtual 31, 3, 0, []) lv st σ c z := rfl
set_option maxRecDepth 20000 in
theorem go_W_law_195 : g_go c_W_law K k 195 lv st σ c z = k 195 (.aload_n 2, 1, 0, []) lv st σ c z := rfl
set_option maxRecDepth 20000 in
theorem go_W_law_196 : g_go c_W_law K k 196 lv st σ c z = k 196 (.aload_n 0, 1, 0, []) lv st σ c z := rfl
set_option maxRecDepth 20000 in
theorem go_W_law_197 : g_go c_W_law K k 197 lv st σ c z = k 197 (.iload_n 3, 1, 0, []) lv st σ c z := rfl
set_option maxRecDepth 20000 in
theorem go_W_law_198 : g_go c_W_law K k 198 lv st σ c z = k 198 (.iconst 1, 1, 1, []) lv st σ c z := rfl
set_option maxRecDepth 20000 in
theorem go_W_law_199 : g_go c_W_law K k 199 lv st σ c z = k 199 (.iadd, 1, 0, []) lv st σ c z := rfl
set_option maxRecDepth 20000 in
theorem go_W_law_200 : g_go c_W_law K k 200 lv st σ c z = k 200 (.iaload, 1, 0, []) lv st σ c z := rfl
set_option maxRecDepth 20000 in
theorem go_W_law_201 : g_go c_W_law K k 201 lv st σ c z = k 201 (.invokevirtual 34, 3, 0, []) lv st σ c z := rfl
set_option maxRecDepth 20000 in
theorem go_W_law_204 : g_go c_W_law K k 204 lv st σ c z = k 204 (.if_icmp .eq 520, 3, 0, [(0, 724)]) lv st σ c z := rfl
set_option maxRecDepth 20000 in
theorem go_W_law_207 : g_go c_W_law K k 207 lv st σ c z = k 207 (.iconst 0, 1, 0, []) lv st σ c z := rfl
set_option maxRecDepth 20000 in
theorem go_W_law_208 : g_go c_W_law K k 208 lv st σ c z = k 208 (.ireturn, 1, 0, []) lv st σ c z := rfl
set_option maxRecDepth 20000 in
theorem go_W_law_209 : g_go c_W_law K k 209 lv st σ c z = k 209 (.aload_n 1, 1, 0, []) lv st σ c z := rfl
set_option maxRecDepth 20000 in
theorem go_W_law_210 : g_go c_W_law K k 210 lv st σ c z = k 210 (.aload_n 0, 1, 0, []) lv st σ c z := rfl
set_option maxRecDepth 20000 in
theorem go_W_law_211 : g_go c_W_law K k 211 lv st σ c z = k 211 (.iload_n 3, 1, 0, []) lv st σ c z := rfl
set_option maxRecDepth 20000 in
theorem go_W_law_212 : g_go c_W_law K k 212 lv st σ c z = k 212 (.iconst 1, 1, 1, []) lv st σ c z := rfl
set_option maxRecDepth 20000 in
theorem go_W_law_213 : g_go c_W_law K k 213 lv st σ c z = k 213 (.iadd, 1, 0, []) lv st σ c z := rfl
set_option maxRecDepth 20000 in
theorem go_W_law_214 : g_go c_W_law K k 214 lv st σ c z = k 214 (.iaload, 1, 0, []) lv st σ c z := rfl
set_option maxRecDepth 20000 in
theorem go_W_law_215 : g_go c_W_law K k 215 lv st σ c z = k 215 (.aload_n 0, 1, 0, []) lv st σ c z := rfl
set_option maxRecDepth 20000 in
theorem go_W_law_216 : g_go c_W_law K k 216 lv st σ c z = k 216 (.iload_n 3, 1, 0, []) lv st σ c z := rfl
set_option maxRecDepth 20000 in
theorem go_W_law_217 : g_go c_W_law K k 217 lv st σ c z = k 217 (.iconst 2, 1, 2, []) lv st σ c z := rfl
set_option maxRecDepth 20000 in
theorem go_W_law_218 : g_go c_W_law K k 218 lv st σ c z = k 218 (.iadd, 1, 0, []) lv st σ c z := rfl
set_option maxRecDepth 20000 in
theorem go_W_law_219 : g_go c_W_law K k 219 lv st σ c z = k 219 (.iaload, 1, 0, []) lv st σ c z := rfl
set_option maxRecDepth 20000 in
theorem go_W_law_220 : g_go c_W_law K k 220 lv st σ c z = k 220 (.aload_n 0, 1, 0, []) lv st σ c z := rfl
set_option maxRecDepth 20000 in
theorem go_W_law_221 : g_go c_W_law K k 221 lv st σ c z = k 221 (.iload_n 3, 1, 0, []) lv st σ c z := rfl
set_option maxRecDepth 20000 in
theorem go_W_law_222 : g_go c_W_law K k 222 lv st σ c z = k 222 (.iconst 3, 1, 3, []) lv st σ c z := rfl
set_option maxRecDepth 20000 in
theorem go_W_law_223 : g_go c_W_law K k 223 lv st σ c z = k 223 (.iadd, 1, 0, []) lv st σ c z := rfl
set_option maxRecDepth 20000 in
theorem go_W_law_224 : g_go c_W_law K k 224 lv st σ c z = k 224 (.iaload, 1, 0, []) lv st σ c z := rfl
set_option maxRecDepth 20000 in
theorem go_W_law_225 : g_go c_W_law K k 225 lv st σ c z = k 225 (.invokevirtual 35, 3, 0, []) lv st σ c z := rfl
set_option maxRecDepth 20000 in
theorem go_W_law_228 : g_go c_W_law K k 228 lv st σ c z = k 228 (.aload_n 2, 1, 0, []) lv st σ c z := rfl
set_option maxRecDepth 20000 in
theorem go_W_law_229 : g_go c_W_law K k 229 lv st σ c z = k 229 (.aload_n 0, 1, 0, []) lv st σ c z := rfl
set_option maxRecDepth 20000 in
theorem go_W_law_230 : g_go c_W_law K k 230 lv st σ c z = k 230 (.iload_n 3, 1, 0, []) lv st σ c z := rfl
set_option maxRecDepth 20000 in
theorem go_W_law_231 : g_go c_W_law K k 231 lv st σ c z = k 231 (.iconst 1, 1, 1, []) lv st σ c z := rfl
set_option maxRecDepth 20000 in
theorem go_W_law_232 : g_go c_W_law K k 232 lv st σ c z = k 232 (.iadd, 1, 0, []) lv st σ c z := rfl
set_option maxRecDepth 20000 in
theorem go_W_law_233 : g_go c_W_law K k 233 lv st σ c z = k 233 (.iaload, 1, 0, []) lv st σ c z := rfl
set_option maxRecDepth 20000 in
theorem go_W_law_234 : g_go c_W_law K k 234 lv st σ c z = k 234 (.aload_n 0, 1, 0, []) lv st σ c z := rfl
set_option maxRecDepth 20000 in
theorem go_W_law_235 : g_go c_W_law K k 235 lv st σ c z = k 235 (.iload_n 3, 1, 0, []) lv st σ c z := rfl
set_option maxRecDepth 20000 in
theorem go_W_law_236 : g_go c_W_law K k 236 lv st σ c z = k 236 (.iconst 2, 1, 2, []) lv st σ c z := rfl
set_option maxRecDepth 20000 in
theorem go_W_law_237 : g_go c_W_law K k 237 lv st σ c z = k 237 (.iadd, 1, 0, []) lv st σ c z := rfl
set_option maxRecDepth 20000 in
theorem go_W_law_238 : g_go c_W_law K k 238 lv st σ c z = k 238 (.iaload, 1, 0, []) lv st σ c z := rfl
set_option maxRecDepth 20000 in
theorem go_W_law_239 : g_go c_W_law K k 239 lv st σ c z = k 239 (.aload_n 0, 1, 0, []) lv st σ c z := rfl
set_option maxRecDepth 20000 in
theorem go_W_law_240 : g_go c_W_law K k 240 lv st σ c z = k 240 (.iload_n 3, 1, 0, []) lv st σ c z := rfl
set_option maxRecDepth 20000 in
theorem go_W_law_241 : g_go c_W_law K k 241 lv st σ c z = k 241 (.iconst 3, 1, 3, []) lv st σ c z := rfl
set_option maxRecDepth 20000 in
theorem go_W_law_242 : g_go c_W_law K k 242 lv st σ c z = k 242 (.iadd, 1, 0, []) lv st σ c z := rfl
set_option maxRecDepth 20000 in
theorem go_W_law_243 : g_go c_W_law K k 243 lv st σ c z = k 243 (.iaload, 1, 0, []) lv st σ c z := rfl
set_option maxRecDepth 20000 in
theorem go_W_law_244 : g_go c_W_law K k 244 lv st σ c z = k 244 (.invokevirtual 38, 3, 0, []) lv st σ c z := rfl
set_option maxRecDepth 20000 in
theorem go_W_law_247 : g_go c_W_law K k 247 lv st σ c z = k 247 (.if_icmp .eq 477, 3, 0, [(0, 724)]) lv st σ c z := rfl
set_option maxRecDepth 20000 in
theorem go_W_law_250 : g_go c_W_law K k 250 lv st σ c z = k 250 (.iconst 0, 1, 0, []) lv st σ c z := rfl
set_option maxRecDepth 20000 in
theorem go_W_law_251 : g_go c_W_law K k 251 lv st σ c z = k 251 (.ireturn, 1, 0, []) lv st σ c z := rfl
set_option maxRecDepth 20000 in
theorem go_W_law_252 : g_go c_W_law K k 252 lv st σ c z = k 252 (.aload_n 1, 1, 0, []) lv st σ c z := rfl
set_option maxRecDepth 20000 in
theorem go_W_law_253 : g_go c_W_law K k 253 lv st σ c z = k 253 (.aload_n 0, 1, 0, []) lv st σ c z := rfl
set_option maxRecDepth 20000 in
theorem go_W_law_254 : g_go c_W_law K k 254 lv st σ c z = k 254 (.iload_n 3, 1, 0, []) lv st σ c z := rfl
set_option maxRecDepth 20000 in
theorem go_W_law_255 : g_go c_W_law K k 255 lv st σ c z = k 255 (.iconst 1, 1, 1, []) lv st σ c z := rfl
set_option maxRecDepth 20000 in
theorem go_W_law_256 : g_go c_W_law K k 256 lv st σ c z = k 256 (.iadd, 1, 0, []) lv st σ c z := rfl
set_option maxRecDepth 20000 in
theorem go_W_law_257 : g_go c_W_law K k 257 lv st σ c z = k 257 (.iaload, 1, 0, []) lv st σ c z := rfl
set_option maxRecDepth 20000 in
theorem go_W_law_258 : g_go c_W_law K k 258 lv st σ c z = k 258 (.aload_n 0, 1, 0, []) lv st σ c z := rfl
set_option maxRecDepth 20000 in
theorem go_W_law_259 : g_go c_W_law K k 259 lv st σ c z = k 259 (.iload_n 3, 1, 0, []) lv st σ c z := rfl
set_option maxRecDepth 20000 in
theorem go_W_law_260 : g_go c_W_law K k 260 lv st σ c z = k 260 (.iconst 2, 1, 2, []) lv st σ c z := rfl
set_option maxRecDepth 20000 in
theorem go_W_law_261 : g_go c_W_law K k 261 lv st σ c z = k 261 (.iadd, 1, 0, []) lv st σ c z := rfl
set_option maxRecDepth 20000 in
theorem go_W_law_262 : g_go c_W_law K k 262 lv st σ c z = k 262 (.iaload, 1, 0, []) lv st σ c z := rfl
set_option maxRecDepth 20000 in
theorem go_W_law_263 : g_go c_W_law K k 263 lv st σ c z = k 263 (.invokevirtual 39, 3, 0, []) lv st σ c z := rfl
set_option maxRecDepth 20000 in
theorem go_W_law_266 : g_go c_W_law K k 266 lv st σ c z = k 266 (.aload_n 2, 1, 0, []) lv st σ c z := rfl
set_option maxRecDepth 20000 in
theorem go_W_law_267 : g_go c_W_law K k 267 lv st σ c z = k 267 (.aload_n 0, 1, 0, []) lv st σ c z := rfl
set_option maxRecDepth 20000 in
theorem go_W_law_268 : g_go c_W_law K k 268 lv st σ c z = k 268 (.iload_n 3, 1, 0, []) lv st σ c z := rfl
set_option maxRecDepth 20000 in
theorem go_W_law_269 : g_go c_W_law K k 269 lv st σ c z = k 269 (.iconst 1, 1, 1, []) lv st σ c z := rfl
set_option maxRecDepth 20000 in
theorem go_W_law_270 : g_go c_W_law K k 270 lv st σ c z = k 270 (.iadd, 1, 0, []) lv st σ c z := rfl
set_option maxRecDepth 20000 in
theorem go_W_law_271 : g_go c_W_law K k 271 lv st σ c z = k 271 (.iaload, 1, 0, []) lv st σ c z := rfl
set_option maxRecDepth 20000 in
theorem go_W_law_272 : g_go c_W_law K k 272 lv st σ c z = k 272 (.aload_n 0, 1, 0, []) lv st σ c z := rfl
set_option maxRecDepth 20000 in
theorem go_W_law_273 : g_go c_W_law K k 273 lv st σ c z = k 273 (.iload_n 3, 1, 0, []) lv st σ c z := rfl
set_option maxRecDepth 20000 in
theorem go_W_law_274 : g_go c_W_law K k 274 lv st σ c z = k 274 (.iconst 2, 1, 2, []) lv st σ c z := rfl
set_option maxRecDepth 20000 in
theorem go_W_law_275 : g_go c_W_law K k 275 lv st σ c z = k 275 (.iadd, 1, 0, []) lv st σ c z := rfl
set_option maxRecDepth 20000 in
theorem go_W_law_276 : g_go c_W_law K k 276 lv st σ c z = k 276 (.iaload, 1, 0, []) lv st σ c z := rfl
set_option maxRecDepth 20000 in
theorem go_W_law_277 : g_go c_W_law K k 277 lv st σ c z = k 277 (.invokevirtual 43, 3, 0, []) lv st σ c z := rfl
set_option maxRecDepth 20000 in
theorem go_W_law_280 : g_go c_W_law K k 280 lv st σ c z = k 280 (.if_icmp .eq 444, 3, 0, [(0, 724)]) lv st σ c z := rfl
set_option maxRecDepth 20000 in
theorem go_W_law_283 : g_go c_W_law K k 283 lv st σ c z = k 283 (.iconst 0, 1, 0, []) lv st σ c z := rfl
set_option maxRecDepth 20000 in
theorem go_W_law_284 : g_go c_W_law K k 284 lv st σ c z = k 284 (.ireturn, 1, 0, []) lv st σ c z := rfl
set_option maxRecDepth 20000 in
theorem go_W_law_285 : g_go c_W_law K k 285 lv st σ c z = k 285 (.aload_n 1, 1, 0, []) lv st σ c z := rfl
set_option maxRecDepth 20000 in
theorem go_W_law_286 : g_go c_W_law K k 286 lv st σ c z = k 286 (.aload_n 0, 1, 0, []) lv st σ c z := rfl
set_option maxRecDepth 20000 in
theorem go_W_law_287 : g_go c_W_law K k 287 lv st σ c z = k 287 (.iload_n 3, 1, 0, []) lv st σ c z := rfl
set_option maxRecDepth 20000 in
theorem go_W_law_288 : g_go c_W_law K k 288 lv st σ c z = k 288 (.iconst 1, 1, 1, []) lv st σ c z := rfl
set_option maxRecDepth 20000 in
theorem go_W_law_289 : g_go c_W_law K k 289 lv st σ c z = k 289 (.iadd, 1, 0, []) lv st σ c z := rfl
set_option maxRecDepth 20000 in
theorem go_W_law_290 : g_go c_W_law K k 290 lv st σ c z = k 290 (.iaload, 1, 0, []) lv st σ c z := rfl
set_option maxRecDepth 20000 in
theorem go_W_law_291 : g_go c_W_law K k 291 lv st σ c z = k 291 (.aload_n 0, 1, 0, []) lv st σ c z := rfl
set_option maxRecDepth 20000 in
theorem go_W_law_292 : g_go c_W_law K k 292 lv st σ c z = k 292 (.iload_n 3, 1, 0, []) lv st σ c z := rfl
set_option maxRecDepth 20000 in
theorem go_W_law_293 : g_go c_W_law K k 293 lv st σ c z = k 293 (.iconst 2, 1, 2, []) lv st σ c z := rfl
set_option maxRecDepth 20000 in
theorem go_W_law_294 : g_go c_W_law K k 294 lv st σ c z = k 294 (.iadd, 1, 0, []) lv st σ c z := rfl
set_option maxRecDepth 20000 in
theorem go_W_law_295 : g_go c_W_law K k 295 lv st σ c z = k 295 (.iaload, 1, 0, []) lv st σ c z := rfl
set_option maxRecDepth 20000 in
theorem go_W_law_296 : g_go c_W_law K k 296 lv st σ c z = k 296 (.i2l, 1, 0, []) lv st σ c z := rfl
set_option maxRecDepth 20000 in
theorem go_W_law_297 : g_go c_W_law K k 297 lv st σ c z = k 297 (.bipush 32, 2, 32, []) lv st σ c z := rfl
set_option maxRecDepth 20000 in
theorem go_W_law_299 : g_go c_W_law K k 299 lv st σ c z = k 299 (.lshl, 1, 0, []) lv st σ c z := rfl
set_option maxRecDepth 20000 in
theorem go_W_law_300 : g_go c_W_law K k 300 lv st σ c z = k 300 (.aload_n 0, 1, 0, []) lv st σ c z := rfl
set_option maxRecDepth 20000 in
theorem go_W_law_301 : g_go c_W_law K k 301 lv st σ c z = k 301 (.iload_n 3, 1, 0, []) lv st σ c z := rfl
set_option maxRecDepth 20000 in
theorem go_W_law_302 : g_go c_W_law K k 302 lv st σ c z = k 302 (.iconst 3, 1, 3, []) lv st σ c z := rfl
set_option maxRecDepth 20000 in
theorem go_W_law_303 : g_go c_W_law K k 303 lv st σ c z = k 303 (.iadd, 1, 0, []) lv st σ c z := rfl
set_option maxRecDepth 20000 in
theorem go_W_law_304 : g_go c_W_law K k 304 lv st σ c z = k 304 (.iaload, 1, 0, []) lv st σ c z := rfl
set_option maxRecDepth 20000 in
theorem go_W_law_305 : g_go c_W_law K k 305 lv st σ c z = k 305 (.i2l, 1, 0, []) lv st σ c z := rfl
set_option maxRecDepth 20000 in
theorem go_W_law_306 : g_go c_W_law K k 306 lv st σ c z = k 306 (.ldc2_w 44, 3, 0, []) lv st σ c z := rfl
set_option maxRecDepth 20000 in
theorem go_W_law_309 : g_go c_W_law K k 309 lv st σ c z = k 309 (.land, 1, 0, []) lv st σ c z := rfl
set_option maxRecDepth 20000 in
theorem go_W_law_310 : g_go c_W_law K k 310 lv st σ c z = k 310 (.lor, 1, 0, []) lv st σ c z := rfl
set_option maxRecDepth 20000 in
theorem go_W_law_311 : g_go c_W_law K k 311 lv st σ c z = k 311 (.invokevirtual 46, 3, 0, []) lv st σ c z := rfl
set_option maxRecDepth 20000 in
theorem go_W_law_314 : g_go c_W_law K k 314 lv st σ c z = k 314 (.aload_n 2, 1, 0, []) lv st σ c z := rfl
set_option maxRecDepth 20000 in
theorem go_W_law_315 : g_go c_W_law K k 315 lv st σ c z = k 315 (.aload_n 0, 1, 0, []) lv st σ c z := rfl
set_option maxRecDepth 20000 in
theorem go_W_law_316 : g_go c_W_law K k 316 lv st σ c z = k 316 (.iload_n 3, 1, 0, []) lv st σ c z := rfl
set_option maxRecDepth 20000 in
theorem go_W_law_317 : g_go c_W_law K k 317 lv st σ c z = k 317 (.iconst 1, 1, 1, []) lv st σ c z := rfl
set_option maxRecDepth 20000 in
theorem go_W_law_318 : g_go c_W_law K k 318 lv st σ c z = k 318 (.iadd, 1, 0, []) lv st σ c z := rfl
set_option maxRecDepth 20000 in
theorem go_W_law_319 : g_go c_W_law K k 319 lv st σ c z = k 319 (.iaload, 1, 0, []) lv st σ c z := rfl
set_option maxRecDepth 20000 in
theorem go_W_law_320 : g_go c_W_law K k 320 lv st σ c z = k 320 (.aload_n 0, 1, 0, []) lv st σ c z := rfl
set_option maxRecDepth 20000 in
theorem go_W_law_321 : g_go c_W_law K k 321 lv st σ c z = k 321 (.iload_n 3, 1, 0, []) lv st σ c z := rfl
set_option maxRecDepth 20000 in
theorem go_W_law_322 : g_go c_W_law K k 322 lv st σ c z = k 322 (.iconst 2, 1, 2, []) lv st σ c z := rfl
set_option maxRecDepth 20000 in
theorem go_W_law_323 : g_go c_W_law K k 323 lv st σ c z = k 323 (.iadd, 1, 0, []) lv st σ c z := rfl
set_option maxRecDepth 20000 in
theorem go_W_law_324 : g_go c_W_law K k 324 lv st σ c z = k 324 (.iaload, 1, 0, []) lv st σ c z := rfl
set_option maxRecDepth 20000 in
theorem go_W_law_325 : g_go c_W_law K k 325 lv st σ c z = k 325 (.i2l, 1, 0, []) lv st σ c z := rfl
set_option maxRecDepth 20000 in
theorem go_W_law_326 : g_go c_W_law K k 326 lv st σ c z = k 326 (.bipush 32, 2, 32, []) lv st σ c z := rfl
set_option maxRecDepth 20000 in
theorem go_W_law_328 : g_go c_W_law K k 328 lv st σ c z = k 328 (.lshl, 1, 0, []) lv st σ c z := rfl
set_option maxRecDepth 20000 in
theorem go_W_law_329 : g_go c_W_law K k 329 lv st σ c z = k 329 (.aload_n 0, 1, 0, []) lv st σ c z := rfl
set_option maxRecDepth 20000 in
theorem go_W_law_330 : g_go c_W_law K k 330 lv st σ c z = k 330 (.iload_n 3, 1, 0, []) lv st σ c z := rfl
set_option maxRecDepth 20000 in
theorem go_W_law_331 : g_go c_W_law K k 331 lv st σ c z = k 331 (.iconst 3, 1, 3, []) lv st σ c z := rfl
set_option maxRecDepth 20000 in
theorem go_W_law_332 : g_go c_W_law K k 332 lv st σ c z = k 332 (.iadd, 1, 0, []) lv st σ c z := rfl
set_option maxRecDepth 20000 in
theorem go_W_law_333 : g_go c_W_law K k 333 lv st σ c z = k 333 (.iaload, 1, 0, []) lv st σ c z := rfl
set_option maxRecDepth 20000 in
theorem go_W_law_334 : g_go c_W_law K k 334 lv st σ c z = k 334 (.i2l, 1, 0, []) lv st σ c z := rfl
set_option maxRecDepth 20000 in
theorem go_W_law_335 : g_go c_W_law K k 335 lv st σ c z = k 335 (.ldc2_w 44, 3, 0, []) lv st σ c z := rfl
set_option maxRecDepth 20000 in
theorem go_W_law_338 : g_go c_W_law K k 338 lv st σ c z = k 338 (.land, 1, 0, []) lv st σ c z := rfl
set_option maxRecDepth 20000 in
theorem go_W_law_339 : g_go c_W_law K k 339 lv st σ c z = k 339 (.lor, 1, 0, []) lv st σ c z := rfl
set_option maxRecDepth 20000 in
theorem go_W_law_340 : g_go c_W_law K k 340 lv st σ c z = k 340 (.invokevirtual 50, 3, 0, []) lv st σ c z := rfl
set_option maxRecDepth 20000 in
theorem go_W_law_343 : g_go c_W_law K k 343 lv st σ c z = k 343 (.if_icmp .eq 381, 3, 0, [(0, 724)]) lv st σ c z := rfl
set_option maxRecDepth 20000 in
theorem go_W_law_346 : g_go c_W_law K k 346 lv st σ c z = k 346 (.iconst 0, 1, 0, []) lv st σ c z := rfl
set_option maxRecDepth 20000 in
theorem go_W_law_347 : g_go c_W_law K k 347 lv st σ c z = k 347 (.ireturn, 1, 0, []) lv st σ c z := rfl
set_option maxRecDepth 20000 in
theorem go_W_law_348 : g_go c_W_law K k 348 lv st σ c z = k 348 (.aload_n 1, 1, 0, []) lv st σ c z := rfl
set_option maxRecDepth 20000 in
theorem go_W_law_349 : g_go c_W_law K k 349 lv st σ c z = k 349 (.aload_n 0, 1, 0, []) lv st σ c z := rfl
set_option maxRecDepth 20000 in
theorem go_W_law_350 : g_go c_W_law K k 350 lv st σ c z = k 350 (.iload_n 3, 1, 0, []) lv st σ c z := rfl
set_option maxRecDepth 20000 in
theorem go_W_law_351 : g_go c_W_law K k 351 lv st σ c z = k 351 (.iconst 1, 1, 1, []) lv st σ c z := rfl
set_option maxRecDepth 20000 in
theorem go_W_law_352 : g_go c_W_law K k 352 lv st σ c z = k 352 (.iadd, 1, 0, []) lv st σ c z := rfl
set_option maxRecDepth 20000 in
theorem go_W_law_353 : g_go c_W_law K k 353 lv st σ c z = k 353 (.iaload, 1, 0, []) lv st σ c z := rfl
set_option maxRecDepth 20000 in
theorem go_W_law_354 : g_go c_W_law K k 354 lv st σ c z = k 354 (.aload_n 0, 1, 0, []) lv st σ c z := rfl
set_option maxRecDepth 20000 in
theorem go_W_law_355 : g_go c_W_law K k 355 lv st σ c z = k 355 (.iload_n 3, 1, 0, []) lv st σ c z := rfl
set_option maxRecDepth 20000 in
theorem go_W_law_356 : g_go c_W_law K k 356 lv st σ c z = k 356 (.iconst 2, 1, 2, []) lv st σ c z := rfl
set_option maxRecDepth 20000 in
theorem go_W_law_357 : g_go c_W_law K k 357 lv st σ c z = k 357 (.iadd, 1, 0, []) lv st σ c z := rfl
set_option maxRecDepth 20000 in
theorem go_W_law_358 : g_go c_W_law K k 358 lv st σ c z = k 358 (.iaload, 1, 0, []) lv st σ c z := rfl
set_option maxRecDepth 20000 in
theorem go_W_law_359 : g_go c_W_law K k 359 lv st σ c z = k 359 (.i2l, 1, 0, []) lv st σ c z := rfl
set_option maxRecDepth 20000 in
theorem go_W_law_360 : g_go c_W_law K k 360 lv st σ c z = k 360 (.bipush 32, 2, 32, []) lv st σ c z := rfl
set_option maxRecDepth 20000 in
theorem go_W_law_362 : g_go c_W_law K k 362 lv st σ c z = k 362 (.lshl, 1, 0, []) lv st σ c z := rfl
set_option maxRecDepth 20000 in
theorem go_W_law_363 : g_go c_W_law K k 363 lv st σ c z = k 363 (.aload_n 0, 1, 0, []) lv st σ c z := rfl
set_option maxRecDepth 20000 in
theorem go_W_law_364 : g_go c_W_law K k 364 lv st σ c z = k 364 (.iload_n 3, 1, 0, []) lv st σ c z := rfl
set_option maxRecDepth 20000 in
theorem go_W_law_365 : g_go c_W_law K k 365 lv st σ c z = k 365 (.iconst 3, 1, 3, []) lv st σ c z := rfl
set_option maxRecDepth 20000 in
theorem go_W_law_366 : g_go c_W_law K k 366 lv st σ c z = k 366 (.iadd, 1, 0, []) lv st σ c z := rfl
set_option maxRecDepth 20000 in
theorem go_W_law_367 : g_go c_W_law K k 367 lv st σ c z = k 367 (.iaload, 1, 0, []) lv st σ c z := rfl
set_option maxRecDepth 20000 in
theorem go_W_law_368 : g_go c_W_law K k 368 lv st σ c z = k 368 (.i2l, 1, 0, []) lv st σ c z := rfl
set_option maxRecDepth 20000 in
theorem go_W_law_369 : g_go c_W_law K k 369 lv st σ c z = k 369 (.ldc2_w 44, 3, 0, []) lv st σ c z := rfl
set_option maxRecDepth 20000 in
theorem go_W_law_372 : g_go c_W_law K k 372 lv st σ c z = k 372 (.land, 1, 0, []) lv st σ c z := rfl
set_option maxRecDepth 20000 in
theorem go_W_law_373 : g_go c_W_law K k 373 lv st σ c z = k 373 (.lor, 1, 0, []) lv st σ c z := rfl
set_option maxRecDepth 20000 in
theorem go_W_law_374 : g_go c_W_law K k 374 lv st σ c z = k 374 (.invokevirtual 51, 3, 0, []) lv st σ c z := rfl
set_option maxRecDepth 20000 in
theorem go_W_law_377 : g_go c_W_law K k 377 lv st σ c z = k 377 (.aload_n 2, 1, 0, []) lv st σ c z := rfl
set_option maxRecDepth 20000 in
theorem go_W_law_378 : g_go c_W_law K k 378 lv st σ c z = k 378 (.aload_n 0, 1, 0, []) lv st σ c z := rfl
set_option maxRecDepth 20000 in
theorem go_W_law_379 : g_go c_W_law K k 379 lv st σ c z = k 379 (.iload_n 3, 1, 0, []) lv st σ c z := rfl
set_option maxRecDepth 20000 in
theorem go_W_law_380 : g_go c_W_law K k 380 lv st σ c z = k 380 (.iconst 1, 1, 1, []) lv st σ c z := rfl
set_option maxRecDepth 20000 in
theorem go_W_law_381 : g_go c_W_law K k 381 lv st σ c z = k 381 (.iadd, 1, 0, []) lv st σ c z := rfl
set_option maxRecDepth 20000 in
theorem go_W_law_382 : g_go c_W_law K k 382 lv st σ c z = k 382 (.iaload, 1, 0, []) lv st σ c z := rfl
set_option maxRecDepth 20000 in
theorem go_W_law_383 : g_go c_W_law K k 383 lv st σ c z = k 383 (.aload_n 0, 1, 0, []) lv st σ c z := rfl
set_option maxRecDepth 20000 in
theorem go_W_law_384 : g_go c_W_law K k 384 lv st σ c z = k 384 (.iload_n 3, 1, 0, []) lv st σ c z := rfl
set_option maxRecDepth 20000 in
theorem go_W_law_385 : g_go c_W_law K k 385 lv st σ c z = k 385 (.iconst 2, 1, 2, []) lv st σ c z := rfl
set_option maxRecDepth 20000 in
theorem go_W_law_386 : g_go c_W_law K k 386 lv st σ c z = k 386 (.iadd, 1, 0, []) lv st σ c z := rfl
set_option maxRecDepth 20000 in
theorem go_W_law_387 : g_go c_W_law K k 387 lv st σ c z = k 387 (.iaload, 1, 0, []) lv st σ c z := rfl
set_option maxRecDepth 20000 in
theorem go_W_law_388 : g_go c_W_law K k 388 lv st σ c z = k 388 (.i2l, 1, 0, []) lv st σ c z := rfl
set_option maxRecDepth 20000 in
theorem go_W_law_389 : g_go c_W_law K k 389 lv st σ c z = k 389 (.bipush 32, 2, 32, []) lv st σ c z := rfl
set_option maxRecDepth 20000 in
theorem go_W_law_391 : g_go c_W_law K k 391 lv st σ c z = k 391 (.lshl, 1, 0, []) lv st σ c z := rfl
set_option maxRecDepth 20000 in
theorem go_W_law_392 : g_go c_W_law K k 392 lv st σ c z = k 392 (.aload_n 0, 1, 0, []) lv st σ c z := rfl
set_option maxRecDepth 20000 in
theorem go_W_law_393 : g_go c_W_law K k 393 lv st σ c z = k 393 (.iload_n 3, 1, 0, []) lv st σ c z := rfl
set_option maxRecDepth 20000 in
theorem go_W_law_394 : g_go c_W_law K k 394 lv st σ c z = k 394 (.iconst 3, 1, 3, []) lv st σ c z := rfl
set_option maxRecDepth 20000 in
theorem go_W_law_395 : g_go c_W_law K k 395 lv st σ c z = k 395 (.iadd, 1, 0, []) lv st σ c z := rfl
set_option maxRecDepth 20000 in
theorem go_W_law_396 : g_go c_W_law K k 396 lv st σ c z = k 396 (.iaload, 1, 0, []) lv st σ c z := rfl
set_option maxRecDepth 20000 in
theorem go_W_law_397 : g_go c_W_law K k 397 lv st σ c z = k 397 (.i2l, 1, 0, []) lv st σ c z := rfl
set_option maxRecDepth 20000 in
theorem go_W_law_398 : g_go c_W_law K k 398 lv st σ c z = k 398 (.ldc2_w 44, 3, 0, []) lv st σ c z := rfl
set_option maxRecDepth 20000 in
theorem go_W_law_401 : g_go c_W_law K k 401 lv st σ c z = k 401 (.land, 1, 0, []) lv st σ c z := rfl
set_option maxRecDepth 20000 in
theorem go_W_law_402 : g_go c_W_law K k 402 lv st σ c z = k 402 (.lor, 1, 0, []) lv st σ c z := rfl
set_option maxRecDepth 20000 in
theorem go_W_law_403 : g_go c_W_law K k 403 lv st σ c z = k 403 (.invokevirtual 54, 3, 0, []) lv st σ c z := rfl
set_option maxRecDepth 20000 in
theorem go_W_law_406 : g_go c_W_law K k 406 lv st σ c z = k 406 (.if_icmp .eq 318, 3, 0, [(0, 724)]) lv st σ c z := rfl
set_option maxRecDepth 20000 in
theorem go_W_law_409 : g_go c_W_law K k 409 lv st σ c z = k 409 (.iconst 0, 1, 0, []) lv st σ c z := rfl
set_option maxRecDepth 20000 in
theorem go_W_law_410 : g_go c_W_law K k 410 lv st σ c z = k 410 (.ireturn, 1, 0, []) lv st σ c z := rfl
set_option maxRecDepth 20000 in
theorem go_W_law_411 : g_go c_W_law K k 411 lv st σ c z = k 411 (.aload_n 1, 1, 0, []) lv st σ c z := rfl
set_option maxRecDepth 20000 in
theorem go_W_law_412 : g_go c_W_law K k 412 lv st σ c z = k 412 (.aload_n 0, 1, 0, []) lv st σ c z := rfl
set_option maxRecDepth 20000 in
theorem go_W_law_413 : g_go c_W_law K k 413 lv st σ c z = k 413 (.iload_n 3, 1, 0, []) lv st σ c z := rfl
set_option maxRecDepth 20000 in
theorem go_W_law_414 : g_go c_W_law K k 414 lv st σ c z = k 414 (.iconst 1, 1, 1, []) lv st σ c z := rfl
set_option maxRecDepth 20000 in
theorem go_W_law_415 : g_go c_W_law K k 415 lv st σ c z = k 415 (.iadd, 1, 0, []) lv st σ c z := rfl
set_option maxRecDepth 20000 in
theorem go_W_law_416 : g_go c_W_law K k 416 lv st σ c z = k 416 (.iaload, 1, 0, []) lv st σ c z := rfl
set_option maxRecDepth 20000 in
theorem go_W_law_417 : g_go c_W_law K k 417 lv st σ c z = k 417 (.aload_n 0, 1, 0, []) lv st σ c z := rfl
set_option maxRecDepth 20000 in
theorem go_W_law_418 : g_go c_W_law K k 418 lv st σ c z = k 418 (.iload_n 3, 1, 0, []) lv st σ c z := rfl
set_option maxRecDepth 20000 in
theorem go_W_law_419 : g_go c_W_law K k 419 lv st σ c z = k 419 (.iconst 2, 1, 2, []) lv st σ c z := rfl
set_option maxRecDepth 20000 in
theorem go_W_law_420 : g_go c_W_law K k 420 lv st σ c z = k 420 (.iadd, 1, 0, []) lv st σ c z := rfl
set_option maxRecDepth 20000 in
theorem go_W_law_421 : g_go c_W_law K k 421 lv st σ c z = k 421 (.iaload, 1, 0, []) lv st σ c z := rfl
set_option maxRecDepth 20000 in
theorem go_W_law_422 : g_go c_W_law K k 422 lv st σ c z = k 422 (.invokevirtual 55, 3, 0, []) lv st σ c z := rfl
set_option maxRecDepth 20000 in
theorem go_W_law_425 : g_go c_W_law K k 425 lv st σ c z = k 425 (.aload_n 2, 1, 0, []) lv st σ c z := rfl
set_option maxRecDepth 20000 in
theorem go_W_law_426 : g_go c_W_law K k 426 lv st σ c z = k 426 (.aload_n 0, 1, 0, []) lv st σ c z := rfl
set_option maxRecDepth 20000 in
theorem go_W_law_427 : g_go c_W_law K k 427 lv st σ c z = k 427 (.iload_n 3, 1, 0, []) lv st σ c z := rfl
set_option maxRecDepth 20000 in
theorem go_W_law_428 : g_go c_W_law K k 428 lv st σ c z = k 428 (.iconst 1, 1, 1, []) lv st σ c z := rfl
set_option maxRecDepth 20000 in
theorem go_W_law_429 : g_go c_W_law K k 429 lv st σ c z = k 429 (.iadd, 1, 0, []) lv st σ c z := rfl
set_option maxRecDepth 20000 in
theorem go_W_law_430 : g_go c_W_law K k 430 lv st σ c z = k 430 (.iaload, 1, 0, []) lv st σ c z := rfl
set_option maxRecDepth 20000 in
theorem go_W_law_431 : g_go c_W_law K k 431 lv st σ c z = k 431 (.aload_n 0, 1, 0, []) lv st σ c z := rfl
set_option maxRecDepth 20000 in
theorem go_W_law_432 : g_go c_W_law K k 432 lv st σ c z = k 432 (.iload_n 3, 1, 0, []) lv st σ c z := rfl
set_option maxRecDepth 20000 in
theorem go_W_law_433 : g_go c_W_law K k 433 lv st σ c z = k 433 (.iconst 2, 1, 2, []) lv st σ c z := rfl
set_option maxRecDepth 20000 in
theorem go_W_law_434 : g_go c_W_law K k 434 lv st σ c z = k 434 (.iadd, 1, 0, []) lv st σ c z := rfl
set_option maxRecDepth 20000 in
theorem go_W_law_435 : g_go c_W_law K k 435 lv st σ c z = k 435 (.iaload, 1, 0, []) lv st σ c z := rfl
set_option maxRecDepth 20000 in
theorem go_W_law_436 : g_go c_W_law K k 436 lv st σ c z = k 436 (.invokevirtual 58, 3, 0, []) lv st σ c z := rfl
set_option maxRecDepth 20000 in
theorem go_W_law_439 : g_go c_W_law K k 439 lv st σ c z = k 439 (.if_icmp .eq 285, 3, 0, [(0, 724)]) lv st σ c z := rfl
set_option maxRecDepth 20000 in
theorem go_W_law_442 : g_go c_W_law K k 442 lv st σ c z = k 442 (.iconst 0, 1, 0, []) lv st σ c z := rfl
set_option maxRecDepth 20000 in
theorem go_W_law_443 : g_go c_W_law K k 443 lv st σ c z = k 443 (.ireturn, 1, 0, []) lv st σ c z := rfl
set_option maxRecDepth 20000 in
theorem go_W_law_444 : g_go c_W_law K k 444 lv st σ c z = k 444 (.aload_n 1, 1, 0, []) lv st σ c z := rfl
set_option maxRecDepth 20000 in
theorem go_W_law_445 : g_go c_W_law K k 445 lv st σ c z = k 445 (.aload_n 0, 1, 0, []) lv st σ c z := rfl
set_option maxRecDepth 20000 in
theorem go_W_law_446 : g_go c_W_law K k 446 lv st σ c z = k 446 (.iload_n 3, 1, 0, []) lv st σ c z := rfl
set_option maxRecDepth 20000 in
theorem go_W_law_447 : g_go c_W_law K k 447 lv st σ c z = k 447 (.iconst 1, 1, 1, []) lv st σ c z := rfl
set_option maxRecDepth 20000 in
theorem go_W_law_448 : g_go c_W_law K k 448 lv st σ c z = k 448 (.iadd, 1, 0, []) lv st σ c z := rfl
set_option maxRecDepth 20000 in
theorem go_W_law_449 : g_go c_W_law K k 449 lv st σ c z = k 449 (.iaload, 1, 0, []) lv st σ c z := rfl
set_option maxRecDepth 20000 in
theorem go_W_law_450 : g_go c_W_law K k 450 lv st σ c z = k 450 (.aload_n 0, 1, 0, []) lv st σ c z := rfl
set_option maxRecDepth 20000 in
theorem go_W_law_451 : g_go c_W_law K k 451 lv st σ c z = k 451 (.iload_n 3, 1, 0, []) lv st σ c z := rfl
set_option maxRecDepth 20000 in
theorem go_W_law_452 : g_go c_W_law K k 452 lv st σ c z = k 452 (.iconst 2, 1, 2, []) lv st σ c z := rfl
set_option maxRecDepth 20000 in
theorem go_W_law_453 : g_go c_W_law K k 453 lv st σ c z = k 453 (.iadd, 1, 0, []) lv st σ c z := rfl
set_option maxRecDepth 20000 in
theorem go_W_law_454 : g_go c_W_law K k 454 lv st σ c z = k 454 (.iaload, 1, 0, []) lv st σ c z := rfl
set_option maxRecDepth 20000 in
theorem go_W_law_455 : g_go c_W_law K k 455 lv st σ c z = k 455 (.aload_n 0, 1, 0, []) lv st σ c z := rfl
set_option maxRecDepth 20000 in
theorem go_W_law_456 : g_go c_W_law K k 456 lv st σ c z = k 456 (.iload_n 3, 1, 0, []) lv st σ c z := rfl
set_option maxRecDepth 20000 in
theorem go_W_law_457 : g_go c_W_law K k 457 lv st σ c z = k 457 (.iconst 3, 1, 3, []) lv st σ c z := rfl
set_option maxRecDepth 20000 in
theorem go_W_law_458 : g_go c_W_law K k 458 lv st σ c z = k 458 (.iadd, 1, 0, []) lv st σ c z := rfl
set_option maxRecDepth 20000 in
theorem go_W_law_459 : g_go c_W_law K k 459 lv st σ c z = k 459 (.iaload, 1, 0, []) lv st σ c z := rfl
set_option maxRecDepth 20000 in
theorem go_W_law_460 : g_go c_W_law K k 460 lv st σ c z = k 460 (.aload_n 0, 1, 0, []) lv st σ c z := rfl
set_option maxRecDepth 20000 in
theorem go_W_law_461 : g_go c_W_law K k 461 lv st σ c z = k 461 (.iload_n 3, 1, 0, []) lv st σ c z := rfl
set_option maxRecDepth 20000 in
theorem go_W_law_462 : g_go c_W_law K k 462 lv st σ c z = k 462 (.iconst 4, 1, 4, []) lv st σ c z := rfl
set_option maxRecDepth 20000 in
theorem go_W_law_463 : g_go c_W_law K k 463 lv st σ c z = k 463 (.iadd, 1, 0, []) lv st σ c z := rfl
set_option maxRecDepth 20000 in
theorem go_W_law_464 : g_go c_W_law K k 464 lv st σ c z = k 464 (.iaload, 1, 0, []) lv st σ c z := rfl
set_option maxRecDepth 20000 in
theorem go_W_law_465 : g_go c_W_law K k 465 lv st σ c z = k 465 (.invokevirtual 59, 3, 0, []) lv st σ c z := rfl
set_option maxRecDepth 20000 in
theorem go_W_law_468 : g_go c_W_law K k 468 lv st σ c z = k 468 (.aload_n 2, 1, 0, []) lv st σ c z := rfl
set_option maxRecDepth 20000 in
theorem go_W_law_469 : g_go c_W_law K k 469 lv st σ c z = k 469 (.aload_n 0, 1, 0, []) lv st σ c z := rfl
set_option maxRecDepth 20000 in
theorem go_W_law_470 : g_go c_W_law K k 470 lv st σ c z = k 470 (.iload_n 3, 1, 0, []) lv st σ c z := rfl
set_option maxRecDepth 20000 in
theorem go_W_law_471 : g_go c_W_law K k 471 lv st σ c z = k 471 (.iconst 1, 1, 1, []) lv st σ c z := rfl
set_option maxRecDepth 20000 in
theorem go_W_law_472 : g_go c_W_law K k 472 lv st σ c z = k 472 (.iadd, 1, 0, []) lv st σ c z := rfl
set_option maxRecDepth 20000 in
theorem go_W_law_473 : g_go c_W_law K k 473 lv st σ c z = k 473 (.iaload, 1, 0, []) lv st σ c z := rfl
set_option maxRecDepth 20000 in
theorem go_W_law_474 : g_go c_W_law K k 474 lv st σ c z = k 474 (.aload_n 0, 1, 0, []) lv st σ c z := rfl
set_option maxRecDepth 20000 in
theorem go_W_law_475 : g_go c_W_law K k 475 lv st σ c z = k 475 (.iload_n 3, 1, 0, []) lv st σ c z := rfl
set_option maxRecDepth 20000 in
theorem go_W_law_476 : g_go c_W_law K k 476 lv st σ c z = k 476 (.iconst 2, 1, 2, []) lv st σ c z := rfl
set_option maxRecDepth 20000 in
theorem go_W_law_477 : g_go c_W_law K k 477 lv st σ c z = k 477 (.iadd, 1, 0, []) lv st σ c z := rfl
set_option maxRecDepth 20000 in
theorem go_W_law_478 : g_go c_W_law K k 478 lv st σ c z = k 478 (.iaload, 1, 0, []) lv st σ c z := rfl
set_option maxRecDepth 20000 in
theorem go_W_law_479 : g_go c_W_law K k 479 lv st σ c z = k 479 (.aload_n 0, 1, 0, []) lv st σ c z := rfl
set_option maxRecDepth 20000 in
theorem go_W_law_480 : g_go c_W_law K k 480 lv st σ c z = k 480 (.iload_n 3, 1, 0, []) lv st σ c z := rfl
set_option maxRecDepth 20000 in
theorem go_W_law_481 : g_go c_W_law K k 481 lv st σ c z = k 481 (.iconst 3, 1, 3, []) lv st σ c z := rfl
set_option maxRecDepth 20000 in
theorem go_W_law_482 : g_go c_W_law K k 482 lv st σ c z = k 482 (.iadd, 1, 0, []) lv st σ c z := rfl
set_option maxRecDepth 20000 in
theorem go_W_law_483 : g_go c_W_law K k 483 lv st σ c z = k 483 (.iaload, 1, 0, []) lv st σ c z := rfl
set_option maxRecDepth 20000 in
theorem go_W_law_484 : g_go c_W_law K k 484 lv st σ c z = k 484 (.aload_n 0, 1, 0, []) lv st σ c z := rfl
set_option maxRecDepth 20000 in
theorem go_W_law_485 : g_go c_W_law K k 485 lv st σ c z = k 485 (.iload_n 3, 1, 0, []) lv st σ c z := rfl
set_option maxRecDepth 20000 in
theorem go_W_law_486 : g_go c_W_law K k 486 lv st σ c z = k 486 (.iconst 4, 1, 4, []) lv st σ c z := rfl
set_option maxRecDepth 20000 in
theorem go_W_law_487 : g_go c_W_law K k 487 lv st σ c z = k 487 (.iadd, 1, 0, []) lv st σ c z := rfl
set_option maxRecDepth 20000 in
theorem go_W_law_488 : g_go c_W_law K k 488 lv st σ c z = k 488 (.iaload, 1, 0, []) lv st σ c z := rfl
set_option maxRecDepth 20000 in
theorem go_W_law_489 : g_go c_W_law K k 489 lv st σ c z = k 489 (.invokevirtual 63, 3, 0, []) lv st σ c z := rfl
set_option maxRecDepth 20000 in
theorem go_W_law_492 : g_go c_W_law K k 492 lv st σ c z = k 492 (.if_icmp .eq 232, 3, 0, [(0, 724)]) lv st σ c z := rfl
set_option maxRecDepth 20000 in
theorem go_W_law_495 : g_go c_W_law K k 495 lv st σ c z = k 495 (.iconst 0, 1, 0, []) lv st σ c z := rfl
set_option maxRecDepth 20000 in
theorem go_W_law_496 : g_go c_W_law K k 496 lv st σ c z = k 496 (.ireturn, 1, 0, []) lv st σ c z := rfl
set_option maxRecDepth 20000 in
theorem go_W_law_497 : g_go c_W_law K k 497 lv st σ c z = k 497 (.aload_n 1, 1, 0, []) lv st σ c z := rfl
set_option maxRecDepth 20000 in
theorem go_W_law_498 : g_go c_W_law K k 498 lv st σ c z = k 498 (.aload_n 0, 1, 0, []) lv st σ c z := rfl
set_option maxRecDepth 20000 in
theorem go_W_law_499 : g_go c_W_law K k 499 lv st σ c z = k 499 (.iload_n 3, 1, 0, []) lv st σ c z := rfl
set_option maxRecDepth 20000 in
theorem go_W_law_500 : g_go c_W_law K k 500 lv st σ c z = k 500 (.iconst 1, 1, 1, []) lv st σ c z := rfl
set_option maxRecDepth 20000 in
theorem go_W_law_501 : g_go c_W_law K k 501 lv st σ c z = k 501 (.iadd, 1, 0, []) lv st σ c z := rfl
set_option maxRecDepth 20000 in
theorem go_W_law_502 : g_go c_W_law K k 502 lv st σ c z = k 502 (.iaload, 1, 0, []) lv st σ c z := rfl
set_option maxRecDepth 20000 in
theorem go_W_law_503 : g_go c_W_law K k 503 lv st σ c z = k 503 (.aload_n 0, 1, 0, []) lv st σ c z := rfl
set_option maxRecDepth 20000 in
theorem go_W_law_504 : g_go c_W_law K k 504 lv st σ c z = k 504 (.iload_n 3, 1, 0, []) lv st σ c z := rfl
set_option maxRecDepth 20000 in
theorem go_W_law_505 : g_go c_W_law K k 505 lv st σ c z = k 505 (.iconst 2, 1, 2, []) lv st σ c z := rfl
set_option maxRecDepth 20000 in
theorem go_W_law_506 : g_go c_W_law K k 506 lv st σ c z = k 506 (.iadd, 1, 0, []) lv st σ c z := rfl
set_option maxRecDepth 20000 in
theorem go_W_law_507 : g_go c_W_law K k 507 lv st σ c z = k 507 (.iaload, 1, 0, []) lv st σ c z := rfl
set_option maxRecDepth 20000 in
theorem go_W_law_508 : g_go c_W_law K k 508 lv st σ c z = k 508 (.invokevirtual 64, 3, 0, []) lv st σ c z := rfl
set_option maxRecDepth 20000 in
theorem go_W_law_511 : g_go c_W_law K k 511 lv st σ c z = k 511 (.aload_n 2, 1, 0, []) lv st σ c z := rfl
set_option maxRecDepth 20000 in
theorem go_W_law_512 : g_go c_W_law K k 512 lv st σ c z = k 512 (.aload_n 0, 1, 0, []) lv st σ c z := rfl
set_option maxRecDepth 20000 in
theorem go_W_law_513 : g_go c_W_law K k 513 lv st σ c z = k 513 (.iload_n 3, 1, 0, []) lv st σ c z := rfl
set_option maxRecDepth 20000 in
theorem go_W_law_514 : g_go c_W_law K k 514 lv st σ c z = k 514 (.iconst 1, 1, 1, []) lv st σ c z := rfl
set_option maxRecDepth 20000 in
theorem go_W_law_515 : g_go c_W_law K k 515 lv st σ c z = k 515 (.iadd, 1, 0, []) lv st σ c z := rfl
set_option maxRecDepth 20000 in
theorem go_W_law_516 : g_go c_W_law K k 516 lv st σ c z = k 516 (.iaload, 1, 0, []) lv st σ c z := rfl
set_option maxRecDepth 20000 in
theorem go_W_law_517 : g_go c_W_law K k 517 lv st σ c z = k 517 (.aload_n 0, 1, 0, []) lv st σ c z := rfl
set_option maxRecDepth 20000 in
theorem go_W_law_518 : g_go c_W_law K k 518 lv st σ c z = k 518 (.iload_n 3, 1, 0, []) lv st σ c z := rfl
set_option maxRecDepth 20000 in
theorem go_W_law_519 : g_go c_W_law K k 519 lv st σ c z = k 519 (.iconst 2, 1, 2, []) lv st σ c z := rfl
set_option maxRecDepth 20000 in
theorem go_W_law_520 : g_go c_W_law K k 520 lv st σ c z = k 520 (.iadd, 1, 0, []) lv st σ c z := rfl
set_option maxRecDepth 20000 in
theorem go_W_law_521 : g_go c_W_law K k 521 lv st σ c z = k 521 (.iaload, 1, 0, []) lv st σ c z := rfl
set_option maxRecDepth 20000 in
theorem go_W_law_522 : g_go c_W_law K k 522 lv st σ c z = k 522 (.invokevirtual 67, 3, 0, []) lv st σ c z := rfl
set_option maxRecDepth 20000 in
theorem go_W_law_525 : g_go c_W_law K k 525 lv st σ c z = k 525 (.if_icmp .eq 199, 3, 0, [(0, 724)]) lv st σ c z := rfl
set_option maxRecDepth 20000 in
theorem go_W_law_528 : g_go c_W_law K k 528 lv st σ c z = k 528 (.iconst 0, 1, 0, []) lv st σ c z := rfl
set_option maxRecDepth 20000 in
theorem go_W_law_529 : g_go c_W_law K k 529 lv st σ c z = k 529 (.ireturn, 1, 0, []) lv st σ c z := rfl
set_option maxRecDepth 20000 in
theorem go_W_law_530 : g_go c_W_law K k 530 lv st σ c z = k 530 (.aload_n 1, 1, 0, []) lv st σ c z := rfl
set_option maxRecDepth 20000 in
theorem go_W_law_531 : g_go c_W_law K k 531 lv st σ c z = k 531 (.aload_n 0, 1, 0, []) lv st σ c z := rfl
set_option maxRecDepth 20000 in
theorem go_W_law_532 : g_go c_W_law K k 532 lv st σ c z = k 532 (.iload_n 3, 1, 0, []) lv st σ c z := rfl
set_option maxRecDepth 20000 in
theorem go_W_law_533 : g_go c_W_law K k 533 lv st σ c z = k 533 (.iconst 1, 1, 1, []) lv st σ c z := rfl
set_option maxRecDepth 20000 in
theorem go_W_law_534 : g_go c_W_law K k 534 lv st σ c z = k 534 (.iadd, 1, 0, []) lv st σ c z := rfl
set_option maxRecDepth 20000 in
theorem go_W_law_535 : g_go c_W_law K k 535 lv st σ c z = k 535 (.iaload, 1, 0, []) lv st σ c z := rfl
set_option maxRecDepth 20000 in
theorem go_W_law_536 : g_go c_W_law K k 536 lv st σ c z = k 536 (.aload_n 0, 1, 0, []) lv st σ c z := rfl
set_option maxRecDepth 20000 in
theorem go_W_law_537 : g_go c_W_law K k 537 lv st σ c z = k 537 (.iload_n 3, 1, 0, []) lv st σ c z := rfl
set_option maxRecDepth 20000 in
theorem go_W_law_538 : g_go c_W_law K k 538 lv st σ c z = k 538 (.iconst 2, 1, 2, []) lv st σ c z := rfl
set_option maxRecDepth 20000 in
theorem go_W_law_539 : g_go c_W_law K k 539 lv st σ c z = k 539 (.iadd, 1, 0, []) lv st σ c z := rfl
set_option maxRecDepth 20000 in
theorem go_W_law_540 : g_go c_W_law K k 540 lv st σ c z = k 540 (.iaload, 1, 0, []) lv st σ c z := rfl
set_option maxRecDepth 20000 in
theorem go_W_law_541 : g_go c_W_law K k 541 lv st σ c z = k 541 (.aload_n 0, 1, 0, []) lv st σ c z := rfl
set_option maxRecDepth 20000 in
theorem go_W_law_542 : g_go c_W_law K k 542 lv st σ c z = k 542 (.iload_n 3, 1, 0, []) lv st σ c z := rfl
set_option maxRecDepth 20000 in
theorem go_W_law_543 : g_go c_W_law K k 543 lv st σ c z = k 543 (.iconst 3, 1, 3, []) lv st σ c z := rfl
set_option maxRecDepth 20000 in
theorem go_W_law_544 : g_go c_W_law K k 544 lv st σ c z = k 544 (.iadd, 1, 0, []) lv st σ c z := rfl
set_option maxRecDepth 20000 in
theorem go_W_law_545 : g_go c_W_law K k 545 lv st σ c z = k 545 (.iaload, 1, 0, []) lv st σ c z := rfl
set_option maxRecDepth 20000 in
theorem go_W_law_546 : g_go c_W_law K k 546 lv st σ c z = k 546 (.ifCond .eq 7, 3, 0, [(0, 553)]) lv st σ c z := rfl
set_option maxRecDepth 20000 in
theorem go_W_law_549 : g_go c_W_law K k 549 lv st σ c z = k 549 (.iconst 1, 1, 1, []) lv st σ c z := rfl
set_option maxRecDepth 20000 in
theorem go_W_law_550 : g_go c_W_law K k 550 lv st σ c z = k 550 (.goto 4, 3, 0, [(0, 554)]) lv st σ c z := rfl
set_option maxRecDepth 20000 in
theorem go_W_law_553 : g_go c_W_law K k 553 lv st σ c z = k 553 (.iconst 0, 1, 0, []) lv st σ c z := rfl
set_option maxRecDepth 20000 in
theorem go_W_law_554 : g_go c_W_law K k 554 lv st σ c z = k 554 (.invokevirtual 68, 3, 0, []) lv st σ c z := rfl
set_option maxRecDepth 20000 in
theorem go_W_law_557 : g_go c_W_law K k 557 lv st σ c z = k 557 (.aload_n 2, 1, 0, []) lv st σ c z := rfl
set_option maxRecDepth 20000 in
theorem go_W_law_558 : g_go c_W_law K k 558 lv st σ c z = k 558 (.aload_n 0, 1, 0, []) lv st σ c z := rfl
set_option maxRecDepth 20000 in
theorem go_W_law_559 : g_go c_W_law K k 559 lv st σ c z = k 559 (.iload_n 3, 1, 0, []) lv st σ c z := rfl
set_option maxRecDepth 20000 in
theorem go_W_law_560 : g_go c_W_law K k 560 lv st σ c z = k 560 (.iconst 1, 1, 1, []) lv st σ c z := rfl
set_option maxRecDepth 20000 in
theorem go_W_law_561 : g_go c_W_law K k 561 lv st σ c z = k 561 (.iadd, 1, 0, []) lv st σ c z := rfl
set_option maxRecDepth 20000 in
theorem go_W_law_562 : g_go c_W_law K k 562 lv st σ c z = k 562 (.iaload, 1, 0, []) lv st σ c z := rfl
set_option maxRecDepth 20000 in
theorem go_W_law_563 : g_go c_W_law K k 563 lv st σ c z = k 563 (.aload_n 0, 1, 0, []) lv st σ c z := rfl
set_option maxRecDepth 20000 in
theorem go_W_law_564 : g_go c_W_law K k 564 lv st σ c z = k 564 (.iload_n 3, 1, 0, []) lv st σ c z := rfl
set_option maxRecDepth 20000 in
theorem go_W_law_565 : g_go c_W_law K k 565 lv st σ c z = k 565 (.iconst 2, 1, 2, []) lv st σ c z := rfl
set_option maxRecDepth 20000 in
theorem go_W_law_566 : g_go c_W_law K k 566 lv st σ c z = k 566 (.iadd, 1, 0, []) lv st σ c z := rfl
set_option maxRecDepth 20000 in
theorem go_W_law_567 : g_go c_W_law K k 567 lv st σ c z = k 567 (.iaload, 1, 0, []) lv st σ c z := rfl
set_option maxRecDepth 20000 in
theorem go_W_law_568 : g_go c_W_law K k 568 lv st σ c z = k 568 (.aload_n 0, 1, 0, []) lv st σ c z := rfl
set_option maxRecDepth 20000 in
theorem go_W_law_569 : g_go c_W_law K k 569 lv st σ c z = k 569 (.iload_n 3, 1, 0, []) lv st σ c z := rfl
set_option maxRecDepth 20000 in
theorem go_W_law_570 : g_go c_W_law K k 570 lv st σ c z = k 570 (.iconst 3, 1, 3, []) lv st σ c z := rfl
set_option maxRecDepth 20000 in
theorem go_W_law_571 : g_go c_W_law K k 571 lv st σ c z = k 571 (.iadd, 1, 0, []) lv st σ c z := rfl
set_option maxRecDepth 20000 in
theorem go_W_law_572 : g_go c_W_law K k 572 lv st σ c z = k 572 (.iaload, 1, 0, []) lv st σ c z := rfl
set_option maxRecDepth 20000 in
theorem go_W_law_573 : g_go c_W_law K k 573 lv st σ c z = k 573 (.ifCond .eq 7, 3, 0, [(0, 580)]) lv st σ c z := rfl
set_option maxRecDepth 20000 in
theorem go_W_law_576 : g_go c_W_law K k 576 lv st σ c z = k 576 (.iconst 1, 1, 1, []) lv st σ c z := rfl
set_option maxRecDepth 20000 in
theorem go_W_law_577 : g_go c_W_law K k 577 lv st σ c z = k 577 (.goto 4, 3, 0, [(0, 581)]) lv st σ c z := rfl
set_option maxRecDepth 20000 in
theorem go_W_law_580 : g_go c_W_law K k 580 lv st σ c z = k 580 (.iconst 0, 1, 0, []) lv st σ c z := rfl
set_option maxRecDepth 20000 in
theorem go_W_law_581 : g_go c_W_law K k 581 lv st σ c z = k 581 (.invokevirtual 72, 3, 0, []) lv st σ c z := rfl
set_option maxRecDepth 20000 in
theorem go_W_law_584 : g_go c_W_law K k 584 lv st σ c z = k 584 (.if_icmp .eq 140, 3, 0, [(0, 724)]) lv st σ c z := rfl
set_option maxRecDepth 20000 in
theorem go_W_law_587 : g_go c_W_law K k 587 lv st σ c z = k 587 (.iconst 0, 1, 0, []) lv st σ c z := rfl
set_option maxRecDepth 20000 in
theorem go_W_law_588 : g_go c_W_law K k 588 lv st σ c z = k 588 (.ireturn, 1, 0, []) lv st σ c z := rfl
set_option maxRecDepth 20000 in
theorem go_W_law_589 : g_go c_W_law K k 589 lv st σ c z = k 589 (.aload_n 1, 1, 0, []) lv st σ c z := rfl
set_option maxRecDepth 20000 in
theorem go_W_law_590 : g_go c_W_law K k 590 lv st σ c z = k 590 (.aload_n 0, 1, 0, []) lv st σ c z := rfl
set_option maxRecDepth 20000 in
theorem go_W_law_591 : g_go c_W_law K k 591 lv st σ c z = k 591 (.iload_n 3, 1, 0, []) lv st σ c z := rfl
set_option maxRecDepth 20000 in
theorem go_W_law_592 : g_go c_W_law K k 592 lv st σ c z = k 592 (.iconst 1, 1, 1, []) lv st σ c z := rfl
set_option maxRecDepth 20000 in
theorem go_W_law_593 : g_go c_W_law K k 593 lv st σ c z = k 593 (.iadd, 1, 0, []) lv st σ c z := rfl
set_option maxRecDepth 20000 in
theorem go_W_law_594 : g_go c_W_law K k 594 lv st σ c z = k 594 (.iaload, 1, 0, []) lv st σ c z := rfl
set_option maxRecDepth 20000 in
theorem go_W_law_595 : g_go c_W_law K k 595 lv st σ c z = k 595 (.invokevirtual 73, 3, 0, []) lv st σ c z := rfl
set_option maxRecDepth 20000 in
theorem go_W_law_598 : g_go c_W_law K k 598 lv st σ c z = k 598 (.aload_n 2, 1, 0, []) lv st σ c z := rfl
set_option maxRecDepth 20000 in
theorem go_W_law_599 : g_go c_W_law K k 599 lv st σ c z = k 599 (.aload_n 0, 1, 0, []) lv st σ c z := rfl
set_option maxRecDepth 20000 in
theorem go_W_law_600 : g_go c_W_law K k 600 lv st σ c z = k 600 (.iload_n 3, 1, 0, []) lv st σ c z := rfl
set_option maxRecDepth 20000 in
theorem go_W_law_601 : g_go c_W_law K k 601 lv st σ c z = k 601 (.iconst 1, 1, 1, []) lv st σ c z := rfl
set_option maxRecDepth 20000 in
theorem go_W_law_602 : g_go c_W_law K k 602 lv st σ c z = k 602 (.iadd, 1, 0, []) lv st σ c z := rfl
set_option maxRecDepth 20000 in
theorem go_W_law_603 : g_go c_W_law K k 603 lv st σ c z = k 603 (.iaload, 1, 0, []) lv st σ c z := rfl
set_option maxRecDepth 20000 in
theorem go_W_law_604 : g_go c_W_law K k 604 lv st σ c z = k 604 (.invokevirtual 76, 3, 0, []) lv st σ c z := rfl
set_option maxRecDepth 20000 in
theorem go_W_law_607 : g_go c_W_law K k 607 lv st σ c z = k 607 (.if_icmp .eq 117, 3, 0, [(0, 724)]) lv st σ c z := rfl
set_option maxRecDepth 20000 in
theorem go_W_law_610 : g_go c_W_law K k 610 lv st σ c z = k 610 (.iconst 0, 1, 0, []) lv st σ c z := rfl
set_option maxRecDepth 20000 in
theorem go_W_law_611 : g_go c_W_law K k 611 lv st σ c z = k 611 (.ireturn, 1, 0, []) lv st σ c z := rfl
set_option maxRecDepth 20000 in
theorem go_W_law_612 : g_go c_W_law K k 612 lv st σ c z = k 612 (.aload_n 1, 1, 0, []) lv st σ c z := rfl
set_option maxRecDepth 20000 in
theorem go_W_law_613 : g_go c_W_law K k 613 lv st σ c z = k 613 (.aload_n 0, 1, 0, []) lv st σ c z := rfl
set_option maxRecDepth 20000 in
theorem go_W_law_614 : g_go c_W_law K k 614 lv st σ c z = k 614 (.iload_n 3, 1, 0, []) lv st σ c z := rfl
set_option maxRecDepth 20000 in
theorem go_W_law_615 : g_go c_W_law K k 615 lv st σ c z = k 615 (.iconst 1, 1, 1, []) lv st σ c z := rfl
set_option maxRecDepth 20000 in
theorem go_W_law_616 : g_go c_W_law K k 616 lv st σ c z = k 616 (.iadd, 1, 0, []) lv st σ c z := rfl
set_option maxRecDepth 20000 in
theorem go_W_law_617 : g_go c_W_law K k 617 lv st σ c z = k 617 (.iaload, 1, 0, []) lv st σ c z := rfl
set_option maxRecDepth 20000 in
theorem go_W_law_618 : g_go c_W_law K k 618 lv st σ c z = k 618 (.invokevirtual 77, 3, 0, []) lv st σ c z := rfl
set_option maxRecDepth 20000 in
theorem go_W_law_621 : g_go c_W_law K k 621 lv st σ c z = k 621 (.aload_n 2, 1, 0, []) lv st σ c z := rfl
set_option maxRecDepth 20000 in
theorem go_W_law_622 : g_go c_W_law K k 622 lv st σ c z = k 622 (.aload_n 0, 1, 0, []) lv st σ c z := rfl
set_option maxRecDepth 20000 in
theorem go_W_law_623 : g_go c_W_law K k 623 lv st σ c z = k 623 (.iload_n 3, 1, 0, []) lv st σ c z := rfl
set_option maxRecDepth 20000 in
theorem go_W_law_624 : g_go c_W_law K k 624 lv st σ c z = k 624 (.iconst 1, 1, 1, []) lv st σ c z := rfl
set_option maxRecDepth 20000 in
theorem go_W_law_625 : g_go c_W_law K k 625 lv st σ c z = k 625 (.iadd, 1, 0, []) lv st σ c z := rfl
set_option maxRecDepth 20000 in
theorem go_W_law_626 : g_go c_W_law K k 626 lv st σ c z = k 626 (.iaload, 1, 0, []) lv st σ c z := rfl
set_option maxRecDepth 20000 in
theorem go_W_law_627 : g_go c_W_law K k 627 lv st σ c z = k 627 (.invokevirtual 80, 3, 0, []) lv st σ c z := rfl
set_option maxRecDepth 20000 in
theorem go_W_law_630 : g_go c_W_law K k 630 lv st σ c z = k 630 (.if_icmp .eq 94, 3, 0, [(0, 724)]) lv st σ c z := rfl
set_option maxRecDepth 20000 in
theorem go_W_law_633 : g_go c_W_law K k 633 lv st σ c z = k 633 (.iconst 0, 1, 0, []) lv st σ c z := rfl
set_option maxRecDepth 20000 in
theorem go_W_law_634 : g_go c_W_law K k 634 lv st σ c z = k 634 (.ireturn, 1, 0, []) lv st σ c z := rfl
set_option maxRecDepth 20000 in
theorem go_W_law_635 : g_go c_W_law K k 635 lv st σ c z = k 635 (.aload_n 1, 1, 0, []) lv st σ c z := rfl
set_option maxRecDepth 20000 in
theorem go_W_law_636 : g_go c_W_law K k 636 lv st σ c z = k 636 (.aload_n 0, 1, 0, []) lv st σ c z := rfl
set_option maxRecDepth 20000 in
theorem go_W_law_637 : g_go c_W_law K k 637 lv st σ c z = k 637 (.iload_n 3, 1, 0, []) lv st σ c z := rfl
set_option maxRecDepth 20000 in
theorem go_W_law_638 : g_go c_W_law K k 638 lv st σ c z = k 638 (.iconst 1, 1, 1, []) lv st σ c z := rfl
set_option maxRecDepth 20000 in
theorem go_W_law_639 : g_go c_W_law K k 639 lv st σ c z = k 639 (.iadd, 1, 0, []) lv st σ c z := rfl
set_option maxRecDepth 20000 in
theorem go_W_law_640 : g_go c_W_law K k 640 lv st σ c z = k 640 (.iaload, 1, 0, []) lv st σ c z := rfl
set_option maxRecDepth 20000 in
theorem go_W_law_641 : g_go c_W_law K k 641 lv st σ c z = k 641 (.invokevirtual 81, 3, 0, []) lv st σ c z := rfl
set_option maxRecDepth 20000 in
theorem go_W_law_644 : g_go c_W_law K k 644 lv st σ c z = k 644 (.aload_n 2, 1, 0, []) lv st σ c z := rfl
set_option maxRecDepth 20000 in
theorem go_W_law_645 : g_go c_W_law K k 645 lv st σ c z = k 645 (.aload_n 0, 1, 0, []) lv st σ c z := rfl
set_option maxRecDepth 20000 in
theorem go_W_law_646 : g_go c_W_law K k 646 lv st σ c z = k 646 (.iload_n 3, 1, 0, []) lv st σ c z := rfl
set_option maxRecDepth 20000 in
theorem go_W_law_647 : g_go c_W_law K k 647 lv st σ c z = k 647 (.iconst 1, 1, 1, []) lv st σ c z := rfl
set_option maxRecDepth 20000 in
theorem go_W_law_648 : g_go c_W_law K k 648 lv st σ c z = k 648 (.iadd, 1, 0, []) lv st σ c z := rfl
set_option maxRecDepth 20000 in
theorem go_W_law_649 : g_go c_W_law K k 649 lv st σ c z = k 649 (.iaload, 1, 0, []) lv st σ c z := rfl
set_option maxRecDepth 20000 in
theorem go_W_law_650 : g_go c_W_law K k 650 lv st σ c z = k 650 (.invokevirtual 84, 3, 0, []) lv st σ c z := rfl
set_option maxRecDepth 20000 in
theorem go_W_law_653 : g_go c_W_law K k 653 lv st σ c z = k 653 (.if_icmp .eq 71, 3, 0, [(0, 724)]) lv st σ c z := rfl
set_option maxRecDepth 20000 in
theorem go_W_law_656 : g_go c_W_law K k 656 lv st σ c z = k 656 (.iconst 0, 1, 0, []) lv st σ c z := rfl
set_option maxRecDepth 20000 in
theorem go_W_law_657 : g_go c_W_law K k 657 lv st σ c z = k 657 (.ireturn, 1, 0, []) lv st σ c z := rfl
set_option maxRecDepth 20000 in
theorem go_W_law_658 : g_go c_W_law K k 658 lv st σ c z = k 658 (.aload_n 1, 1, 0, []) lv st σ c z := rfl
set_option maxRecDepth 20000 in
theorem go_W_law_659 : g_go c_W_law K k 659 lv st σ c z = k 659 (.aload_n 0, 1, 0, []) lv st σ c z := rfl
set_option maxRecDepth 20000 in
theorem go_W_law_660 : g_go c_W_law K k 660 lv st σ c z = k 660 (.iload_n 3, 1, 0, []) lv st σ c z := rfl
set_option maxRecDepth 20000 in
theorem go_W_law_661 : g_go c_W_law K k 661 lv st σ c z = k 661 (.iconst 1, 1, 1, []) lv st σ c z := rfl
set_option maxRecDepth 20000 in
theorem go_W_law_662 : g_go c_W_law K k 662 lv st σ c z = k 662 (.iadd, 1, 0, []) lv st σ c z := rfl
set_option maxRecDepth 20000 in
theorem go_W_law_663 : g_go c_W_law K k 663 lv st σ c z = k 663 (.iaload, 1, 0, []) lv st σ c z := rfl
set_option maxRecDepth 20000 in
theorem go_W_law_664 : g_go c_W_law K k 664 lv st σ c z = k 664 (.invokevirtual 85, 3, 0, []) lv st σ c z := rfl
set_option maxRecDepth 20000 in
theorem go_W_law_667 : g_go c_W_law K k 667 lv st σ c z = k 667 (.aload_n 2, 1, 0, []) lv st σ c z := rfl
set_option maxRecDepth 20000 in
theorem go_W_law_668 : g_go c_W_law K k 668 lv st σ c z = k 668 (.aload_n 0, 1, 0, []) lv st σ c z := rfl
set_option maxRecDepth 20000 in
theorem go_W_law_669 : g_go c_W_law K k 669 lv st σ c z = k 669 (.iload_n 3, 1, 0, []) lv st σ c z := rfl
set_option maxRecDepth 20000 in
theorem go_W_law_670 : g_go c_W_law K k 670 lv st σ c z = k 670 (.iconst 1, 1, 1, []) lv st σ c z := rfl
set_option maxRecDepth 20000 in
theorem go_W_law_671 : g_go c_W_law K k 671 lv st σ c z = k 671 (.iadd, 1, 0, []) lv st σ c z := rfl
set_option maxRecDepth 20000 in
theorem go_W_law_672 : g_go c_W_law K k 672 lv st σ c z = k 672 (.iaload, 1, 0, []) lv st σ c z := rfl
set_option maxRecDepth 20000 in
theorem go_W_law_673 : g_go c_W_law K k 673 lv st σ c z = k 673 (.invokevirtual 88, 3, 0, []) lv st σ c z := rfl
set_option maxRecDepth 20000 in
theorem go_W_law_676 : g_go c_W_law K k 676 lv st σ c z = k 676 (.if_icmp .eq 48, 3, 0, [(0, 724)]) lv st σ c z := rfl
set_option maxRecDepth 20000 in
theorem go_W_law_679 : g_go c_W_law K k 679 lv st σ c z = k 679 (.iconst 0, 1, 0, []) lv st σ c z := rfl
set_option maxRecDepth 20000 in
theorem go_W_law_680 : g_go c_W_law K k 680 lv st σ c z = k 680 (.ireturn, 1, 0, []) lv st σ c z := rfl
set_option maxRecDepth 20000 in
theorem go_W_law_681 : g_go c_W_law K k 681 lv st σ c z = k 681 (.aload_n 1, 1, 0, []) lv st σ c z := rfl
set_option maxRecDepth 20000 in
theorem go_W_law_682 : g_go c_W_law K k 682 lv st σ c z = k 682 (.aload_n 0, 1, 0, []) lv st σ c z := rfl
set_option maxRecDepth 20000 in
theorem go_W_law_683 : g_go c_W_law K k 683 lv st σ c z = k 683 (.iload_n 3, 1, 0, []) lv st σ c z := rfl
set_option maxRecDepth 20000 in
theorem go_W_law_684 : g_go c_W_law K k 684 lv st σ c z = k 684 (.iconst 1, 1, 1, []) lv st σ c z := rfl
set_option maxRecDepth 20000 in
theorem go_W_law_685 : g_go c_W_law K k 685 lv st σ c z = k 685 (.iadd, 1, 0, []) lv st σ c z := rfl
set_option maxRecDepth 20000 in
theorem go_W_law_686 : g_go c_W_law K k 686 lv st σ c z = k 686 (.iaload, 1, 0, []) lv st σ c z := rfl
set_option maxRecDepth 20000 in
theorem go_W_law_687 : g_go c_W_law K k 687 lv st σ c z = k 687 (.aload_n 0, 1, 0, []) lv st σ c z := rfl
set_option maxRecDepth 20000 in
theorem go_W_law_688 : g_go c_W_law K k 688 lv st σ c z = k 688 (.iload_n 3, 1, 0, []) lv st σ c z := rfl
set_option maxRecDepth 20000 in
theorem go_W_law_689 : g_go c_W_law K k 689 lv st σ c z = k 689 (.iconst 2, 1, 2, []) lv st σ c z := rfl
set_option maxRecDepth 20000 in
theorem go_W_law_690 : g_go c_W_law K k 690 lv st σ c z = k 690 (.iadd, 1, 0, []) lv st σ c z := rfl
set_option maxRecDepth 20000 in
theorem go_W_law_691 : g_go c_W_law K k 691 lv st σ c z = k 691 (.iaload, 1, 0, []) lv st σ c z := rfl
set_option maxRecDepth 20000 in
theorem go_W_law_692 : g_go c_W_law K k 692 lv st σ c z = k 692 (.aload_n 0, 1, 0, []) lv st σ c z := rfl
set_option maxRecDepth 20000 in
theorem go_W_law_693 : g_go c_W_law K k 693 lv st σ c z = k 693 (.iload_n 3, 1, 0, []) lv st σ c z := rfl
set_option maxRecDepth 20000 in
theorem go_W_law_694 : g_go c_W_law K k 694 lv st σ c z = k 694 (.iconst 3, 1, 3, []) lv st σ c z := rfl
set_option maxRecDepth 20000 in
theorem go_W_law_695 : g_go c_W_law K k 695 lv st σ c z = k 695 (.iadd, 1, 0, []) lv st σ c z := rfl
set_option maxRecDepth 20000 in
theorem go_W_law_696 : g_go c_W_law K k 696 lv st σ c z = k 696 (.iaload, 1, 0, []) lv st σ c z := rfl
set_option maxRecDepth 20000 in
theorem go_W_law_697 : g_go c_W_law K k 697 lv st σ c z = k 697 (.invokevirtual 89, 3, 0, []) lv st σ c z := rfl
set_option maxRecDepth 20000 in
theorem go_W_law_700 : g_go c_W_law K k 700 lv st σ c z = k 700 (.aload_n 2, 1, 0, []) lv st σ c z := rfl
set_option maxRecDepth 20000 in
theorem go_W_law_701 : g_go c_W_law K k 701 lv st σ c z = k 701 (.aload_n 0, 1, 0, []) lv st σ c z := rfl
set_option maxRecDepth 20000 in
theorem go_W_law_702 : g_go c_W_law K k 702 lv st σ c z = k 702 (.iload_n 3, 1, 0, []) lv st σ c z := rfl
set_option maxRecDepth 20000 in
theorem go_W_law_703 : g_go c_W_law K k 703 lv st σ c z = k 703 (.iconst 1, 1, 1, []) lv st σ c z := rfl
set_option maxRecDepth 20000 in
theorem go_W_law_704 : g_go c_W_law K k 704 lv st σ c z = k 704 (.iadd, 1, 0, []) lv st σ c z := rfl
set_option maxRecDepth 20000 in
theorem go_W_law_705 : g_go c_W_law K k 705 lv st σ c z = k 705 (.iaload, 1, 0, []) lv st σ c z := rfl
set_option maxRecDepth 20000 in
theorem go_W_law_706 : g_go c_W_law K k 706 lv st σ c z = k 706 (.aload_n 0, 1, 0, []) lv st σ c z := rfl
set_option maxRecDepth 20000 in
theorem go_W_law_707 : g_go c_W_law K k 707 lv st σ c z = k 707 (.iload_n 3, 1, 0, []) lv st σ c z := rfl
set_option maxRecDepth 20000 in
theorem go_W_law_708 : g_go c_W_law K k 708 lv st σ c z = k 708 (.iconst 2, 1, 2, []) lv st σ c z := rfl
set_option maxRecDepth 20000 in
theorem go_W_law_709 : g_go c_W_law K k 709 lv st σ c z = k 709 (.iadd, 1, 0, []) lv st σ c z := rfl
set_option maxRecDepth 20000 in
theorem go_W_law_710 : g_go c_W_law K k 710 lv st σ c z = k 710 (.iaload, 1, 0, []) lv st σ c z := rfl
set_option maxRecDepth 20000 in
theorem go_W_law_711 : g_go c_W_law K k 711 lv st σ c z = k 711 (.aload_n 0, 1, 0, []) lv st σ c z := rfl
set_option maxRecDepth 20000 in
theorem go_W_law_712 : g_go c_W_law K k 712 lv st σ c z = k 712 (.iload_n 3, 1, 0, []) lv st σ c z := rfl
set_option maxRecDepth 20000 in
theorem go_W_law_713 : g_go c_W_law K k 713 lv st σ c z = k 713 (.iconst 3, 1, 3, []) lv st σ c z := rfl
set_option maxRecDepth 20000 in
theorem go_W_law_714 : g_go c_W_law K k 714 lv st σ c z = k 714 (.iadd, 1, 0, []) lv st σ c z := rfl
set_option maxRecDepth 20000 in
theorem go_W_law_715 : g_go c_W_law K k 715 lv st σ c z = k 715 (.iaload, 1, 0, []) lv st σ c z := rfl
set_option maxRecDepth 20000 in
theorem go_W_law_716 : g_go c_W_law K k 716 lv st σ c z = k 716 (.invokevirtual 92, 3, 0, []) lv st σ c z := rfl
set_option maxRecDepth 20000 in
theorem go_W_law_719 : g_go c_W_law K k 719 lv st σ c z = k 719 (.if_icmp .eq 5, 3, 0, [(0, 724)]) lv st σ c z := rfl
set_option maxRecDepth 20000 in
theorem go_W_law_722 : g_go c_W_law K k 722 lv st σ c z = k 722 (.iconst 0, 1, 0, []) lv st σ c z := rfl
set_option maxRecDepth 20000 in
theorem go_W_law_723 : g_go c_W_law K k 723 lv st σ c z = k 723 (.ireturn, 1, 0, []) lv st σ c z := rfl
set_option maxRecDepth 20000 in
theorem go_W_law_724 : g_go c_W_law K k 724 lv st σ c z = k 724 (.iinc 3 5, 3, 5, []) lv st σ c z := rfl
set_option maxRecDepth 20000 in
theorem go_W_law_727 : g_go c_W_law K k 727 lv st σ c z = k 727 (.goto (-699), 3, 0, [(0, 28)]) lv st σ c z := rfl
set_option maxRecDepth 20000 in
theorem go_W_law_730 : g_go c_W_law K k 730 lv st σ c z = k 730 (.iconst 1, 1, 1, []) lv st σ c z := rfl
set_option maxRecDepth 20000 in
theorem go_W_law_731 : g_go c_W_law K k 731 lv st σ c z = k 731 (.ireturn, 1, 0, []) lv st σ c z := rfl
end GO
