/-! ===== words of the list, of natives and of the law (wip/whole/ctor2.py) ===== -/
set_option maxRecDepth 20000 in
theorem lsRJx4a65c_39 : Cond.fieldLink RJx4a65c 39 RJx4a65c "DEFAULTCAPACITY_EMPTY_ELEMENTDATA" "[Ljava/lang/Object;" ∈ gaTb := ga_tb (List.mem_append_right _ (List.mem_append_left _ (List.mem_of_getElem? (i := 66) rfl))) rfl
set_option maxRecDepth 20000 in
theorem caRJx4a65c_7 : Cond.classLink RJx4a65c 7 "java/lang/Object" ∈ gaTb := ga_tb (List.mem_append_right _ (List.mem_append_right _ (List.mem_append_left _ (List.mem_of_getElem? (i := 122) rfl)))) rfl
set_option maxRecDepth 20000 in
theorem caRJ7_2 : Cond.classLink RJ7 2 "java/lang/Object" ∈ gaTb := ga_tb (List.mem_append_right _ (List.mem_append_right _ (List.mem_append_left _ (List.mem_of_getElem? (i := 114) rfl)))) rfl
set_option maxRecDepth 20000 in
theorem caRJ7_110 : Cond.classLink RJ7 110 "[Ljava/lang/Object;" ∈ gaTb := ga_tb (List.mem_append_right _ (List.mem_append_right _ (List.mem_append_left _ (List.mem_of_getElem? (i := 112) rfl)))) rfl
set_option maxRecDepth 20000 in
theorem gc_l : Cond.methodLink RJ7 86 ⟨"java/lang/Object", "getClass", "()Ljava/lang/Class;"⟩ ∈ gaTb := ga_tb (List.mem_append_right _ (List.mem_append_right _ (List.mem_append_left _ (List.mem_of_getElem? (i := 97) rfl)))) rfl
set_option maxRecDepth 20000 in
theorem gc_i : Cond.instanceMethod ⟨"java/lang/Object", "getClass", "()Ljava/lang/Class;"⟩ ∈ gaTb := ga_tb (List.mem_append_right _ (List.mem_append_right _ (List.mem_append_left _ (List.mem_of_getElem? (i := 98) rfl)))) rfl
set_option maxRecDepth 20000 in
theorem gc_n : Cond.native ⟨"java/lang/Object", "getClass", "()Ljava/lang/Class;"⟩ ∈ gaTb := ga_tb (List.mem_append_right _ (List.mem_append_right _ (List.mem_append_left _ (List.mem_of_getElem? (i := 108) rfl)))) rfl
set_option maxRecDepth 20000 in
theorem gc_s : Cond.selects "[Ljava/lang/Object;" ⟨"java/lang/Object", "getClass", "()Ljava/lang/Class;"⟩ ⟨"java/lang/Object", "getClass", "()Ljava/lang/Class;"⟩ ∈ gaTb := ga_tb (List.mem_append_right _ (List.mem_append_right _ (List.mem_append_right _ (List.mem_append_right _ (List.mem_of_getElem? (i := 188) rfl))))) rfl
set_option maxRecDepth 20000 in
theorem ac_l : Cond.methodLink RJ7 150 arraycopyName ∈ gaTb := ga_tb (List.mem_append_right _ (List.mem_append_right _ (List.mem_append_left _ (List.mem_of_getElem? (i := 118) rfl)))) rfl
set_option maxRecDepth 20000 in
theorem ac_n : Cond.native arraycopyName ∈ gaTb := ga_tb (List.mem_append_right _ (List.mem_append_right _ (List.mem_append_left _ (List.mem_of_getElem? (i := 120) rfl)))) rfl
set_option maxRecDepth 20000 in
theorem ac_s : Cond.static arraycopyName ∈ gaTb := ga_tb (List.mem_append_right _ (List.mem_append_right _ (List.mem_append_left _ (List.mem_of_getElem? (i := 119) rfl)))) rfl
set_option maxRecDepth 20000 in
theorem ac_i : Cond.initialized "java/lang/System" ∈ gaTb := ga_tb (List.mem_append_right _ (List.mem_append_left _ (List.mem_of_getElem? (i := 14) rfl))) rfl
set_option maxRecDepth 20000 in
theorem nRJx4a65c_79 : Cond.methodLink RJx4a65c 79 Lib.Math.max.name ∈ gaTb := ga_tb (List.mem_append_right _ (List.mem_append_right _ (List.mem_append_left _ (List.mem_of_getElem? (i := 121) rfl)))) rfl
set_option maxRecDepth 20000 in
theorem nRJ8_194 : Cond.methodLink RJ8 194 Lib.Math.max.name ∈ gaTb := ga_tb (List.mem_append_right _ (List.mem_append_right _ (List.mem_append_left _ (List.mem_of_getElem? (i := 87) rfl)))) rfl
set_option maxRecDepth 20000 in
theorem nRJ7_304 : Cond.methodLink RJ7 304 Lib.Math.min.name ∈ gaTb := ga_tb (List.mem_append_right _ (List.mem_append_right _ (List.mem_append_left _ (List.mem_of_getElem? (i := 115) rfl)))) rfl
set_option maxRecDepth 20000 in
theorem kRJ8_200 : Cond.constant RJ8 200 (Int32.ofInt 2147483639) ∈ gaTb := ga_tb (List.mem_append_right _ (List.mem_append_right _ (List.mem_append_left _ (List.mem_of_getElem? (i := 90) rfl)))) rfl
set_option maxRecDepth 20000 in
theorem vJx4a65c_add_9ea2d : ga_wv yJx4a65c_add_9ea2d 7 := ⟨⟨(RJx4a65c, TJx4a65c, 3), rfl, rfl⟩, ga_tb (List.mem_append_right _ (List.mem_append_right _ (List.mem_append_left _ (List.mem_of_getElem? (i := 69) rfl)))) rfl, ga_tb (List.mem_append_right _ (List.mem_append_right _ (List.mem_append_left _ (List.mem_of_getElem? (i := 70) rfl)))) rfl⟩
set_option maxRecDepth 20000 in
theorem vJx4a65c_add_72be8 : ga_wv yJx4a65c_add_72be8 7 := ⟨⟨(RJx4a65c, TJx4a65c, 3), rfl, rfl⟩, ga_tb (List.mem_append_right _ (List.mem_append_right _ (List.mem_append_left _ (List.mem_of_getElem? (i := 74) rfl)))) rfl, ga_tb (List.mem_append_left _ (List.mem_of_getElem? (i := 4) rfl)) rfl⟩
set_option maxRecDepth 20000 in
theorem vJx4a65c_grow_92f84 : ga_wv yJx4a65c_grow_92f84 7 := ⟨⟨(RJx4a65c, TJx4a65c, 3), rfl, rfl⟩, ga_tb (List.mem_append_right _ (List.mem_append_right _ (List.mem_append_left _ (List.mem_of_getElem? (i := 82) rfl)))) rfl, ga_tb (List.mem_append_left _ (List.mem_of_getElem? (i := 6) rfl)) rfl⟩
set_option maxRecDepth 20000 in
theorem vJx4a65c_grow_d5877 : ga_wv yJx4a65c_grow_d5877 7 := ⟨⟨(RJx4a65c, TJx4a65c, 3), rfl, rfl⟩, ga_tb (List.mem_append_right _ (List.mem_append_right _ (List.mem_append_left _ (List.mem_of_getElem? (i := 78) rfl)))) rfl, ga_tb (List.mem_append_left _ (List.mem_of_getElem? (i := 5) rfl)) rfl⟩
set_option maxRecDepth 20000 in
theorem eL_law_0 : gd cL_law 0 (.new 7) 3 3 := ⟨by decide +kernel, rfl⟩
set_option maxRecDepth 20000 in
theorem cnRL_7 : Cond.classLink RL 7 RX5 ∈ gaTb := ga_tb (List.mem_append_right _ (List.mem_append_left _ (List.mem_of_getElem? (i := 17) rfl))) rfl
set_option maxRecDepth 20000 in
theorem ciRX5 : Cond.instantiable RX5 11 ∈ gaTb := ga_tb (List.mem_append_right _ (List.mem_append_left _ (List.mem_of_getElem? (i := 18) rfl))) rfl
set_option maxRecDepth 20000 in
theorem niRX5 : Cond.initialized RX5 ∈ gaTb := ga_tb (List.mem_append_right _ (List.mem_append_left _ (List.mem_of_getElem? (i := 1) rfl))) rfl
set_option maxRecDepth 20000 in
theorem eL_law_3 : gd cL_law 3 .dup 1 4 := ⟨by decide +kernel, rfl⟩
set_option maxRecDepth 20000 in
theorem eL_law_4 : gd cL_law 4 (.invokespecial 9) 3 7 := ⟨by decide +kernel, rfl⟩
set_option maxRecDepth 20000 in
theorem nRL_9 : Cond.methodLink RL 9 yX5_init ∈ gaTb := ga_tb (List.mem_append_right _ (List.mem_append_left _ (List.mem_of_getElem? (i := 19) rfl))) rfl
set_option maxRecDepth 20000 in
theorem eL_law_7 : gd_astore cL_law 7 1 8 := .inr ⟨1, by decide +kernel, rfl, rfl⟩
set_option maxRecDepth 20000 in
theorem eL_law_8 : gd cL_law 8 (.new 10) 3 11 := ⟨by decide +kernel, rfl⟩
set_option maxRecDepth 20000 in
theorem cnRL_10 : Cond.classLink RL 10 RX6 ∈ gaTb := ga_tb (List.mem_append_right _ (List.mem_append_right _ (List.mem_append_right _ (List.mem_append_left _ (List.mem_of_getElem? (i := 124) rfl))))) rfl
set_option maxRecDepth 20000 in
theorem ciRX6 : Cond.instantiable RX6 35 ∈ gaTb := ga_tb (List.mem_append_right _ (List.mem_append_right _ (List.mem_append_right _ (List.mem_append_left _ (List.mem_of_getElem? (i := 125) rfl))))) rfl
set_option maxRecDepth 20000 in
theorem niRX6 : Cond.initialized RX6 ∈ gaTb := ga_tb (List.mem_append_right _ (List.mem_append_left _ (List.mem_of_getElem? (i := 9) rfl))) rfl
set_option maxRecDepth 20000 in
theorem eL_law_11 : gd cL_law 11 .dup 1 12 := ⟨by decide +kernel, rfl⟩
set_option maxRecDepth 20000 in
theorem eL_law_12 : gd cL_law 12 (.invokespecial 12) 3 15 := ⟨by decide +kernel, rfl⟩
set_option maxRecDepth 20000 in
theorem nRL_12 : Cond.methodLink RL 12 yX6_init ∈ gaTb := ga_tb (List.mem_append_right _ (List.mem_append_right _ (List.mem_append_right _ (List.mem_append_left _ (List.mem_of_getElem? (i := 126) rfl))))) rfl
set_option maxRecDepth 20000 in
theorem eL_law_15 : gd_astore cL_law 15 2 16 := .inr ⟨2, by decide +kernel, rfl, rfl⟩
set_option maxRecDepth 20000 in
theorem eL_law_16 : gd_push cL_law 16 0 17 := .inl ⟨by decide +kernel, rfl⟩
set_option maxRecDepth 20000 in
theorem eL_law_17 : gd_istore cL_law 17 3 18 := .inr ⟨3, by decide +kernel, rfl, rfl⟩
set_option maxRecDepth 20000 in
theorem eL_law_18 : gd_iload cL_law 18 3 19 := .inr ⟨3, by decide +kernel, rfl, rfl⟩
set_option maxRecDepth 20000 in
theorem eL_law_19 : gd_aload cL_law 19 0 20 := .inr ⟨0, by decide +kernel, rfl, rfl⟩
set_option maxRecDepth 20000 in
theorem eL_law_20 : gd cL_law 20 .arraylength 1 21 := ⟨by decide +kernel, rfl⟩
set_option maxRecDepth 20000 in
theorem eL_law_21 : gd_push cL_law 21 7 23 := .inr (.inl ⟨by decide +kernel, by decide, rfl⟩)
set_option maxRecDepth 20000 in
theorem eL_law_23 : gd cL_law 23 .isub 1 24 := ⟨by decide +kernel, rfl⟩
set_option maxRecDepth 20000 in
theorem eL_law_24 : gd_b cL_law 24 (.if_icmp .gt) 784 27 := ⟨760, by decide +kernel, by decide, rfl⟩
set_option maxRecDepth 20000 in
theorem eL_law_27 : gd_aload cL_law 27 0 28 := .inr ⟨0, by decide +kernel, rfl, rfl⟩
set_option maxRecDepth 20000 in
theorem eL_law_28 : gd_iload cL_law 28 3 29 := .inr ⟨3, by decide +kernel, rfl, rfl⟩
set_option maxRecDepth 20000 in
theorem eL_law_29 : gd cL_law 29 .iaload 1 30 := ⟨by decide +kernel, rfl⟩
set_option maxRecDepth 20000 in
theorem eL_law_30 : gd_push cL_law 30 31 32 := .inr (.inl ⟨by decide +kernel, by decide, rfl⟩)
set_option maxRecDepth 20000 in
theorem eL_law_32 : gd cL_law 32 .iand 1 33 := ⟨by decide +kernel, rfl⟩
set_option maxRecDepth 20000 in
theorem eL_law_33 : decode cL_law 33 = .ok (.tableswitch 745 0 23 #[111, 134, 177, 230, 263, 286, 361, 384, 417, 430, 463, 476, 489, 522, 545, 568, 591, 604, 617, 630, 653, 666, 709, 732], 111) := by decide +kernel
set_option maxRecDepth 20000 in
theorem eL_law_144 : gd_aload cL_law 144 1 145 := .inr ⟨1, by decide +kernel, rfl, rfl⟩
set_option maxRecDepth 20000 in
theorem eL_law_145 : gd_aload cL_law 145 0 146 := .inr ⟨0, by decide +kernel, rfl, rfl⟩
set_option maxRecDepth 20000 in
theorem eL_law_146 : gd_iload cL_law 146 3 147 := .inr ⟨3, by decide +kernel, rfl, rfl⟩
set_option maxRecDepth 20000 in
theorem eL_law_147 : gd_push cL_law 147 1 148 := .inl ⟨by decide +kernel, rfl⟩
set_option maxRecDepth 20000 in
theorem eL_law_148 : gd cL_law 148 .iadd 1 149 := ⟨by decide +kernel, rfl⟩
set_option maxRecDepth 20000 in
theorem eL_law_149 : gd cL_law 149 .iaload 1 150 := ⟨by decide +kernel, rfl⟩
set_option maxRecDepth 20000 in
theorem eL_law_150 : gd cL_law 150 (.invokevirtual 13) 3 153 := ⟨by decide +kernel, rfl⟩
set_option maxRecDepth 20000 in
theorem nRL_13 : Cond.methodLink RL 13 yX5_place ∈ gaTb := ga_tb (List.mem_append_right _ (List.mem_append_left _ (List.mem_of_getElem? (i := 202) rfl))) rfl
set_option maxRecDepth 20000 in
theorem eL_law_153 : gd_aload cL_law 153 2 154 := .inr ⟨2, by decide +kernel, rfl, rfl⟩
set_option maxRecDepth 20000 in
theorem eL_law_154 : gd_aload cL_law 154 0 155 := .inr ⟨0, by decide +kernel, rfl, rfl⟩
set_option maxRecDepth 20000 in
theorem eL_law_155 : gd_iload cL_law 155 3 156 := .inr ⟨3, by decide +kernel, rfl, rfl⟩
set_option maxRecDepth 20000 in
theorem eL_law_156 : gd_push cL_law 156 1 157 := .inl ⟨by decide +kernel, rfl⟩
set_option maxRecDepth 20000 in
theorem eL_law_157 : gd cL_law 157 .iadd 1 158 := ⟨by decide +kernel, rfl⟩
set_option maxRecDepth 20000 in
theorem eL_law_158 : gd cL_law 158 .iaload 1 159 := ⟨by decide +kernel, rfl⟩
set_option maxRecDepth 20000 in
theorem eL_law_159 : gd cL_law 159 (.invokevirtual 17) 3 162 := ⟨by decide +kernel, rfl⟩
set_option maxRecDepth 20000 in
theorem nRL_17 : Cond.methodLink RL 17 yX6_place ∈ gaTb := ga_tb (List.mem_append_right _ (List.mem_append_right _ (List.mem_append_right _ (List.mem_append_left _ (List.mem_of_getElem? (i := 237) rfl))))) rfl
set_option maxRecDepth 20000 in
theorem eL_law_162 : gd_b cL_law 162 (.if_icmp .eq) 778 165 := ⟨616, by decide +kernel, by decide, rfl⟩
set_option maxRecDepth 20000 in
theorem eL_law_165 : gd_push cL_law 165 0 166 := .inl ⟨by decide +kernel, rfl⟩
set_option maxRecDepth 20000 in
theorem eL_law_166 : gd cL_law 166 .ireturn 1 167 := ⟨by decide +kernel, rfl⟩
set_option maxRecDepth 20000 in
theorem eL_law_167 : gd_aload cL_law 167 1 168 := .inr ⟨1, by decide +kernel, rfl, rfl⟩
set_option maxRecDepth 20000 in
theorem eL_law_168 : gd_aload cL_law 168 0 169 := .inr ⟨0, by decide +kernel, rfl, rfl⟩
set_option maxRecDepth 20000 in
theorem eL_law_169 : gd_iload cL_law 169 3 170 := .inr ⟨3, by decide +kernel, rfl, rfl⟩
set_option maxRecDepth 20000 in
theorem eL_law_170 : gd_push cL_law 170 1 171 := .inl ⟨by decide +kernel, rfl⟩
set_option maxRecDepth 20000 in
theorem eL_law_171 : gd cL_law 171 .iadd 1 172 := ⟨by decide +kernel, rfl⟩
set_option maxRecDepth 20000 in
theorem eL_law_172 : gd cL_law 172 .iaload 1 173 := ⟨by decide +kernel, rfl⟩
set_option maxRecDepth 20000 in
theorem eL_law_173 : gd_aload cL_law 173 0 174 := .inr ⟨0, by decide +kernel, rfl, rfl⟩
set_option maxRecDepth 20000 in
theorem eL_law_174 : gd_iload cL_law 174 3 175 := .inr ⟨3, by decide +kernel, rfl, rfl⟩
set_option maxRecDepth 20000 in
theorem eL_law_175 : gd_push cL_law 175 2 176 := .inl ⟨by decide +kernel, rfl⟩
set_option maxRecDepth 20000 in
theorem eL_law_176 : gd cL_law 176 .iadd 1 177 := ⟨by decide +kernel, rfl⟩
set_option maxRecDepth 20000 in
theorem eL_law_177 : gd cL_law 177 .iaload 1 178 := ⟨by decide +kernel, rfl⟩
set_option maxRecDepth 20000 in
theorem eL_law_178 : gd_aload cL_law 178 0 179 := .inr ⟨0, by decide +kernel, rfl, rfl⟩
set_option maxRecDepth 20000 in
theorem eL_law_179 : gd_iload cL_law 179 3 180 := .inr ⟨3, by decide +kernel, rfl, rfl⟩
set_option maxRecDepth 20000 in
theorem eL_law_180 : gd_push cL_law 180 3 181 := .inl ⟨by decide +kernel, rfl⟩
set_option maxRecDepth 20000 in
theorem eL_law_181 : gd cL_law 181 .iadd 1 182 := ⟨by decide +kernel, rfl⟩
set_option maxRecDepth 20000 in
theorem eL_law_182 : gd cL_law 182 .iaload 1 183 := ⟨by decide +kernel, rfl⟩
set_option maxRecDepth 20000 in
theorem eL_law_183 : gd cL_law 183 (.invokevirtual 18) 3 186 := ⟨by decide +kernel, rfl⟩
set_option maxRecDepth 20000 in
theorem nRL_18 : Cond.methodLink RL 18 yX5_fare ∈ gaTb := ga_tb (List.mem_append_right _ (List.mem_append_left _ (List.mem_of_getElem? (i := 217) rfl))) rfl
set_option maxRecDepth 20000 in
theorem eL_law_186 : gd_aload cL_law 186 2 187 := .inr ⟨2, by decide +kernel, rfl, rfl⟩
set_option maxRecDepth 20000 in
theorem eL_law_187 : gd_aload cL_law 187 0 188 := .inr ⟨0, by decide +kernel, rfl, rfl⟩
set_option maxRecDepth 20000 in
theorem eL_law_188 : gd_iload cL_law 188 3 189 := .inr ⟨3, by decide +kernel, rfl, rfl⟩
set_option maxRecDepth 20000 in
theorem eL_law_189 : gd_push cL_law 189 1 190 := .inl ⟨by decide +kernel, rfl⟩
set_option maxRecDepth 20000 in
theorem eL_law_190 : gd cL_law 190 .iadd 1 191 := ⟨by decide +kernel, rfl⟩
set_option maxRecDepth 20000 in
theorem eL_law_191 : gd cL_law 191 .iaload 1 192 := ⟨by decide +kernel, rfl⟩
set_option maxRecDepth 20000 in
theorem eL_law_192 : gd_aload cL_law 192 0 193 := .inr ⟨0, by decide +kernel, rfl, rfl⟩
set_option maxRecDepth 20000 in
theorem eL_law_193 : gd_iload cL_law 193 3 194 := .inr ⟨3, by decide +kernel, rfl, rfl⟩
set_option maxRecDepth 20000 in
theorem eL_law_194 : gd_push cL_law 194 2 195 := .inl ⟨by decide +kernel, rfl⟩
set_option maxRecDepth 20000 in
theorem eL_law_195 : gd cL_law 195 .iadd 1 196 := ⟨by decide +kernel, rfl⟩
set_option maxRecDepth 20000 in
theorem eL_law_196 : gd cL_law 196 .iaload 1 197 := ⟨by decide +kernel, rfl⟩
set_option maxRecDepth 20000 in
theorem eL_law_197 : gd_aload cL_law 197 0 198 := .inr ⟨0, by decide +kernel, rfl, rfl⟩
set_option maxRecDepth 20000 in
theorem eL_law_198 : gd_iload cL_law 198 3 199 := .inr ⟨3, by decide +kernel, rfl, rfl⟩
set_option maxRecDepth 20000 in
theorem eL_law_199 : gd_push cL_law 199 3 200 := .inl ⟨by decide +kernel, rfl⟩
set_option maxRecDepth 20000 in
theorem eL_law_200 : gd cL_law 200 .iadd 1 201 := ⟨by decide +kernel, rfl⟩
set_option maxRecDepth 20000 in
theorem eL_law_201 : gd cL_law 201 .iaload 1 202 := ⟨by decide +kernel, rfl⟩
set_option maxRecDepth 20000 in
theorem eL_law_202 : gd cL_law 202 (.invokevirtual 22) 3 205 := ⟨by decide +kernel, rfl⟩
set_option maxRecDepth 20000 in
theorem nRL_22 : Cond.methodLink RL 22 yX6_fare ∈ gaTb := ga_tb (List.mem_append_right _ (List.mem_append_right _ (List.mem_append_right _ (List.mem_append_right _ (List.mem_of_getElem? (i := 12) rfl))))) rfl
set_option maxRecDepth 20000 in
theorem eL_law_205 : gd_b cL_law 205 (.if_icmp .eq) 778 208 := ⟨573, by decide +kernel, by decide, rfl⟩
set_option maxRecDepth 20000 in
theorem eL_law_208 : gd_push cL_law 208 0 209 := .inl ⟨by decide +kernel, rfl⟩
set_option maxRecDepth 20000 in
theorem eL_law_209 : gd cL_law 209 .ireturn 1 210 := ⟨by decide +kernel, rfl⟩
set_option maxRecDepth 20000 in
theorem eL_law_210 : gd_aload cL_law 210 1 211 := .inr ⟨1, by decide +kernel, rfl, rfl⟩
set_option maxRecDepth 20000 in
theorem eL_law_211 : gd_aload cL_law 211 0 212 := .inr ⟨0, by decide +kernel, rfl, rfl⟩
set_option maxRecDepth 20000 in
theorem eL_law_212 : gd_iload cL_law 212 3 213 := .inr ⟨3, by decide +kernel, rfl, rfl⟩
set_option maxRecDepth 20000 in
theorem eL_law_213 : gd_push cL_law 213 1 214 := .inl ⟨by decide +kernel, rfl⟩
set_option maxRecDepth 20000 in
theorem eL_law_214 : gd cL_law 214 .iadd 1 215 := ⟨by decide +kernel, rfl⟩
set_option maxRecDepth 20000 in
theorem eL_law_215 : gd cL_law 215 .iaload 1 216 := ⟨by decide +kernel, rfl⟩
set_option maxRecDepth 20000 in
theorem eL_law_216 : gd_aload cL_law 216 0 217 := .inr ⟨0, by decide +kernel, rfl, rfl⟩
set_option maxRecDepth 20000 in
theorem eL_law_217 : gd_iload cL_law 217 3 218 := .inr ⟨3, by decide +kernel, rfl, rfl⟩
set_option maxRecDepth 20000 in
theorem eL_law_218 : gd_push cL_law 218 2 219 := .inl ⟨by decide +kernel, rfl⟩
set_option maxRecDepth 20000 in
theorem eL_law_219 : gd cL_law 219 .iadd 1 220 := ⟨by decide +kernel, rfl⟩
set_option maxRecDepth 20000 in
theorem eL_law_220 : gd cL_law 220 .iaload 1 221 := ⟨by decide +kernel, rfl⟩
set_option maxRecDepth 20000 in
theorem eL_law_221 : gd_aload cL_law 221 0 222 := .inr ⟨0, by decide +kernel, rfl, rfl⟩
set_option maxRecDepth 20000 in
theorem eL_law_222 : gd_iload cL_law 222 3 223 := .inr ⟨3, by decide +kernel, rfl, rfl⟩
set_option maxRecDepth 20000 in
theorem eL_law_223 : gd_push cL_law 223 3 224 := .inl ⟨by decide +kernel, rfl⟩
set_option maxRecDepth 20000 in
theorem eL_law_224 : gd cL_law 224 .iadd 1 225 := ⟨by decide +kernel, rfl⟩
set_option maxRecDepth 20000 in
theorem eL_law_225 : gd cL_law 225 .iaload 1 226 := ⟨by decide +kernel, rfl⟩
set_option maxRecDepth 20000 in
theorem eL_law_226 : gd_aload cL_law 226 0 227 := .inr ⟨0, by decide +kernel, rfl, rfl⟩
set_option maxRecDepth 20000 in
theorem eL_law_227 : gd_iload cL_law 227 3 228 := .inr ⟨3, by decide +kernel, rfl, rfl⟩
set_option maxRecDepth 20000 in
theorem eL_law_228 : gd_push cL_law 228 4 229 := .inl ⟨by decide +kernel, rfl⟩
set_option maxRecDepth 20000 in
theorem eL_law_229 : gd cL_law 229 .iadd 1 230 := ⟨by decide +kernel, rfl⟩
set_option maxRecDepth 20000 in
theorem eL_law_230 : gd cL_law 230 .iaload 1 231 := ⟨by decide +kernel, rfl⟩
set_option maxRecDepth 20000 in
theorem eL_law_231 : gd cL_law 231 (.invokevirtual 23) 3 234 := ⟨by decide +kernel, rfl⟩
set_option maxRecDepth 20000 in
theorem nRL_23 : Cond.methodLink RL 23 yX5_green ∈ gaTb := ga_tb (List.mem_append_right _ (List.mem_append_left _ (List.mem_of_getElem? (i := 229) rfl))) rfl
set_option maxRecDepth 20000 in
theorem eL_law_234 : gd_aload cL_law 234 2 235 := .inr ⟨2, by decide +kernel, rfl, rfl⟩
set_option maxRecDepth 20000 in
theorem eL_law_235 : gd_aload cL_law 235 0 236 := .inr ⟨0, by decide +kernel, rfl, rfl⟩
set_option maxRecDepth 20000 in
theorem eL_law_236 : gd_iload cL_law 236 3 237 := .inr ⟨3, by decide +kernel, rfl, rfl⟩
set_option maxRecDepth 20000 in
theorem eL_law_237 : gd_push cL_law 237 1 238 := .inl ⟨by decide +kernel, rfl⟩
set_option maxRecDepth 20000 in
theorem eL_law_238 : gd cL_law 238 .iadd 1 239 := ⟨by decide +kernel, rfl⟩
set_option maxRecDepth 20000 in
theorem eL_law_239 : gd cL_law 239 .iaload 1 240 := ⟨by decide +kernel, rfl⟩
set_option maxRecDepth 20000 in
theorem eL_law_240 : gd_aload cL_law 240 0 241 := .inr ⟨0, by decide +kernel, rfl, rfl⟩
set_option maxRecDepth 20000 in
theorem eL_law_241 : gd_iload cL_law 241 3 242 := .inr ⟨3, by decide +kernel, rfl, rfl⟩
set_option maxRecDepth 20000 in
theorem eL_law_242 : gd_push cL_law 242 2 243 := .inl ⟨by decide +kernel, rfl⟩
set_option maxRecDepth 20000 in
theorem eL_law_243 : gd cL_law 243 .iadd 1 244 := ⟨by decide +kernel, rfl⟩
set_option maxRecDepth 20000 in
theorem eL_law_244 : gd cL_law 244 .iaload 1 245 := ⟨by decide +kernel, rfl⟩
set_option maxRecDepth 20000 in
theorem eL_law_245 : gd_aload cL_law 245 0 246 := .inr ⟨0, by decide +kernel, rfl, rfl⟩
set_option maxRecDepth 20000 in
theorem eL_law_246 : gd_iload cL_law 246 3 247 := .inr ⟨3, by decide +kernel, rfl, rfl⟩
set_option maxRecDepth 20000 in
theorem eL_law_247 : gd_push cL_law 247 3 248 := .inl ⟨by decide +kernel, rfl⟩
set_option maxRecDepth 20000 in
theorem eL_law_248 : gd cL_law 248 .iadd 1 249 := ⟨by decide +kernel, rfl⟩
set_option maxRecDepth 20000 in
theorem eL_law_249 : gd cL_law 249 .iaload 1 250 := ⟨by decide +kernel, rfl⟩
set_option maxRecDepth 20000 in
theorem eL_law_250 : gd_aload cL_law 250 0 251 := .inr ⟨0, by decide +kernel, rfl, rfl⟩
set_option maxRecDepth 20000 in
theorem eL_law_251 : gd_iload cL_law 251 3 252 := .inr ⟨3, by decide +kernel, rfl, rfl⟩
set_option maxRecDepth 20000 in
theorem eL_law_252 : gd_push cL_law 252 4 253 := .inl ⟨by decide +kernel, rfl⟩
set_option maxRecDepth 20000 in
theorem eL_law_253 : gd cL_law 253 .iadd 1 254 := ⟨by decide +kernel, rfl⟩
set_option maxRecDepth 20000 in
theorem eL_law_254 : gd cL_law 254 .iaload 1 255 := ⟨by decide +kernel, rfl⟩
set_option maxRecDepth 20000 in
theorem eL_law_255 : gd cL_law 255 (.invokevirtual 27) 3 258 := ⟨by decide +kernel, rfl⟩
set_option maxRecDepth 20000 in
theorem nRL_27 : Cond.methodLink RL 27 yX6_green ∈ gaTb := ga_tb (List.mem_append_right _ (List.mem_append_right _ (List.mem_append_right _ (List.mem_append_right _ (List.mem_of_getElem? (i := 28) rfl))))) rfl
set_option maxRecDepth 20000 in
theorem eL_law_258 : gd_b cL_law 258 (.if_icmp .eq) 778 261 := ⟨520, by decide +kernel, by decide, rfl⟩
set_option maxRecDepth 20000 in
theorem eL_law_261 : gd_push cL_law 261 0 262 := .inl ⟨by decide +kernel, rfl⟩
set_option maxRecDepth 20000 in
theorem eL_law_262 : gd cL_law 262 .ireturn 1 263 := ⟨by decide +kernel, rfl⟩
set_option maxRecDepth 20000 in
theorem eL_law_263 : gd_aload cL_law 263 1 264 := .inr ⟨1, by decide +kernel, rfl, rfl⟩
set_option maxRecDepth 20000 in
theorem eL_law_264 : gd_aload cL_law 264 0 265 := .inr ⟨0, by decide +kernel, rfl, rfl⟩
set_option maxRecDepth 20000 in
theorem eL_law_265 : gd_iload cL_law 265 3 266 := .inr ⟨3, by decide +kernel, rfl, rfl⟩
set_option maxRecDepth 20000 in
theorem eL_law_266 : gd_push cL_law 266 1 267 := .inl ⟨by decide +kernel, rfl⟩
set_option maxRecDepth 20000 in
theorem eL_law_267 : gd cL_law 267 .iadd 1 268 := ⟨by decide +kernel, rfl⟩
set_option maxRecDepth 20000 in
theorem eL_law_268 : gd cL_law 268 .iaload 1 269 := ⟨by decide +kernel, rfl⟩
set_option maxRecDepth 20000 in
theorem eL_law_269 : gd_aload cL_law 269 0 270 := .inr ⟨0, by decide +kernel, rfl, rfl⟩
set_option maxRecDepth 20000 in
theorem eL_law_270 : gd_iload cL_law 270 3 271 := .inr ⟨3, by decide +kernel, rfl, rfl⟩
set_option maxRecDepth 20000 in
theorem eL_law_271 : gd_push cL_law 271 2 272 := .inl ⟨by decide +kernel, rfl⟩
set_option maxRecDepth 20000 in
theorem eL_law_272 : gd cL_law 272 .iadd 1 273 := ⟨by decide +kernel, rfl⟩
set_option maxRecDepth 20000 in
theorem eL_law_273 : gd cL_law 273 .iaload 1 274 := ⟨by decide +kernel, rfl⟩
set_option maxRecDepth 20000 in
theorem eL_law_274 : gd cL_law 274 (.invokevirtual 28) 3 277 := ⟨by decide +kernel, rfl⟩
set_option maxRecDepth 20000 in
theorem nRL_28 : Cond.methodLink RL 28 yX5_told ∈ gaTb := ga_tb (List.mem_append_right _ (List.mem_append_left _ (List.mem_of_getElem? (i := 237) rfl))) rfl
set_option maxRecDepth 20000 in
theorem eL_law_277 : gd_aload cL_law 277 2 278 := .inr ⟨2, by decide +kernel, rfl, rfl⟩
set_option maxRecDepth 20000 in
theorem eL_law_278 : gd_aload cL_law 278 0 279 := .inr ⟨0, by decide +kernel, rfl, rfl⟩
set_option maxRecDepth 20000 in
theorem eL_law_279 : gd_iload cL_law 279 3 280 := .inr ⟨3, by decide +kernel, rfl, rfl⟩
set_option maxRecDepth 20000 in
theorem eL_law_280 : gd_push cL_law 280 1 281 := .inl ⟨by decide +kernel, rfl⟩
set_option maxRecDepth 20000 in
theorem eL_law_281 : gd cL_law 281 .iadd 1 282 := ⟨by decide +kernel, rfl⟩
set_option maxRecDepth 20000 in
theorem eL_law_282 : gd cL_law 282 .iaload 1 283 := ⟨by decide +kernel, rfl⟩
set_option maxRecDepth 20000 in
theorem eL_law_283 : gd_aload cL_law 283 0 284 := .inr ⟨0, by decide +kernel, rfl, rfl⟩
set_option maxRecDepth 20000 in
theorem eL_law_284 : gd_iload cL_law 284 3 285 := .inr ⟨3, by decide +kernel, rfl, rfl⟩
set_option maxRecDepth 20000 in
theorem eL_law_285 : gd_push cL_law 285 2 286 := .inl ⟨by decide +kernel, rfl⟩
set_option maxRecDepth 20000 in
theorem eL_law_286 : gd cL_law 286 .iadd 1 287 := ⟨by decide +kernel, rfl⟩
set_option maxRecDepth 20000 in
theorem eL_law_287 : gd cL_law 287 .iaload 1 288 := ⟨by decide +kernel, rfl⟩
set_option maxRecDepth 20000 in
theorem eL_law_288 : gd cL_law 288 (.invokevirtual 32) 3 291 := ⟨by decide +kernel, rfl⟩
set_option maxRecDepth 20000 in
theorem nRL_32 : Cond.methodLink RL 32 yX6_told ∈ gaTb := ga_tb (List.mem_append_right _ (List.mem_append_right _ (List.mem_append_right _ (List.mem_append_right _ (List.mem_of_getElem? (i := 32) rfl))))) rfl
set_option maxRecDepth 20000 in
theorem eL_law_291 : gd_b cL_law 291 (.if_icmp .eq) 778 294 := ⟨487, by decide +kernel, by decide, rfl⟩
set_option maxRecDepth 20000 in
theorem eL_law_294 : gd_push cL_law 294 0 295 := .inl ⟨by decide +kernel, rfl⟩
set_option maxRecDepth 20000 in
theorem eL_law_295 : gd cL_law 295 .ireturn 1 296 := ⟨by decide +kernel, rfl⟩
set_option maxRecDepth 20000 in
theorem eL_law_296 : gd_aload cL_law 296 1 297 := .inr ⟨1, by decide +kernel, rfl, rfl⟩
set_option maxRecDepth 20000 in
theorem eL_law_297 : gd_aload cL_law 297 0 298 := .inr ⟨0, by decide +kernel, rfl, rfl⟩
set_option maxRecDepth 20000 in
theorem eL_law_298 : gd_iload cL_law 298 3 299 := .inr ⟨3, by decide +kernel, rfl, rfl⟩
set_option maxRecDepth 20000 in
theorem eL_law_299 : gd_push cL_law 299 1 300 := .inl ⟨by decide +kernel, rfl⟩
set_option maxRecDepth 20000 in
theorem eL_law_300 : gd cL_law 300 .iadd 1 301 := ⟨by decide +kernel, rfl⟩
set_option maxRecDepth 20000 in
theorem eL_law_301 : gd cL_law 301 .iaload 1 302 := ⟨by decide +kernel, rfl⟩
set_option maxRecDepth 20000 in
theorem eL_law_302 : gd cL_law 302 (.invokevirtual 33) 3 305 := ⟨by decide +kernel, rfl⟩
set_option maxRecDepth 20000 in
theorem nRL_33 : Cond.methodLink RL 33 yX5_patience ∈ gaTb := ga_tb (List.mem_append_right _ (List.mem_append_right _ (List.mem_append_left _ (List.mem_of_getElem? (i := 1) rfl)))) rfl
set_option maxRecDepth 20000 in
theorem eL_law_305 : gd_aload cL_law 305 2 306 := .inr ⟨2, by decide +kernel, rfl, rfl⟩
set_option maxRecDepth 20000 in
theorem eL_law_306 : gd_aload cL_law 306 0 307 := .inr ⟨0, by decide +kernel, rfl, rfl⟩
set_option maxRecDepth 20000 in
theorem eL_law_307 : gd_iload cL_law 307 3 308 := .inr ⟨3, by decide +kernel, rfl, rfl⟩
set_option maxRecDepth 20000 in
theorem eL_law_308 : gd_push cL_law 308 1 309 := .inl ⟨by decide +kernel, rfl⟩
set_option maxRecDepth 20000 in
theorem eL_law_309 : gd cL_law 309 .iadd 1 310 := ⟨by decide +kernel, rfl⟩
set_option maxRecDepth 20000 in
theorem eL_law_310 : gd cL_law 310 .iaload 1 311 := ⟨by decide +kernel, rfl⟩
set_option maxRecDepth 20000 in
theorem eL_law_311 : gd cL_law 311 (.invokevirtual 37) 3 314 := ⟨by decide +kernel, rfl⟩
set_option maxRecDepth 20000 in
theorem nRL_37 : Cond.methodLink RL 37 yX6_patience ∈ gaTb := ga_tb (List.mem_append_right _ (List.mem_append_right _ (List.mem_append_right _ (List.mem_append_right _ (List.mem_of_getElem? (i := 36) rfl))))) rfl
set_option maxRecDepth 20000 in
theorem eL_law_314 : gd_b cL_law 314 (.if_icmp .eq) 778 317 := ⟨464, by decide +kernel, by decide, rfl⟩
set_option maxRecDepth 20000 in
theorem eL_law_317 : gd_push cL_law 317 0 318 := .inl ⟨by decide +kernel, rfl⟩
set_option maxRecDepth 20000 in
theorem eL_law_318 : gd cL_law 318 .ireturn 1 319 := ⟨by decide +kernel, rfl⟩
set_option maxRecDepth 20000 in
theorem eL_law_319 : gd_aload cL_law 319 1 320 := .inr ⟨1, by decide +kernel, rfl, rfl⟩
set_option maxRecDepth 20000 in
theorem eL_law_320 : gd_aload cL_law 320 0 321 := .inr ⟨0, by decide +kernel, rfl, rfl⟩
set_option maxRecDepth 20000 in
theorem eL_law_321 : gd_iload cL_law 321 3 322 := .inr ⟨3, by decide +kernel, rfl, rfl⟩
set_option maxRecDepth 20000 in
theorem eL_law_322 : gd_push cL_law 322 1 323 := .inl ⟨by decide +kernel, rfl⟩
set_option maxRecDepth 20000 in
theorem eL_law_323 : gd cL_law 323 .iadd 1 324 := ⟨by decide +kernel, rfl⟩
set_option maxRecDepth 20000 in
theorem eL_law_324 : gd cL_law 324 .iaload 1 325 := ⟨by decide +kernel, rfl⟩
set_option maxRecDepth 20000 in
theorem eL_law_325 : gd_aload cL_law 325 0 326 := .inr ⟨0, by decide +kernel, rfl, rfl⟩
set_option maxRecDepth 20000 in
theorem eL_law_326 : gd_iload cL_law 326 3 327 := .inr ⟨3, by decide +kernel, rfl, rfl⟩
set_option maxRecDepth 20000 in
theorem eL_law_327 : gd_push cL_law 327 2 328 := .inl ⟨by decide +kernel, rfl⟩
set_option maxRecDepth 20000 in
theorem eL_law_328 : gd cL_law 328 .iadd 1 329 := ⟨by decide +kernel, rfl⟩
set_option maxRecDepth 20000 in
theorem eL_law_329 : gd cL_law 329 .iaload 1 330 := ⟨by decide +kernel, rfl⟩
set_option maxRecDepth 20000 in
theorem eL_law_330 : gd_aload cL_law 330 0 331 := .inr ⟨0, by decide +kernel, rfl, rfl⟩
set_option maxRecDepth 20000 in
theorem eL_law_331 : gd_iload cL_law 331 3 332 := .inr ⟨3, by decide +kernel, rfl, rfl⟩
set_option maxRecDepth 20000 in
theorem eL_law_332 : gd_push cL_law 332 3 333 := .inl ⟨by decide +kernel, rfl⟩
set_option maxRecDepth 20000 in
theorem eL_law_333 : gd cL_law 333 .iadd 1 334 := ⟨by decide +kernel, rfl⟩
set_option maxRecDepth 20000 in
theorem eL_law_334 : gd cL_law 334 .iaload 1 335 := ⟨by decide +kernel, rfl⟩
set_option maxRecDepth 20000 in
theorem eL_law_335 : gd_aload cL_law 335 0 336 := .inr ⟨0, by decide +kernel, rfl, rfl⟩
set_option maxRecDepth 20000 in
theorem eL_law_336 : gd_iload cL_law 336 3 337 := .inr ⟨3, by decide +kernel, rfl, rfl⟩
set_option maxRecDepth 20000 in
theorem eL_law_337 : gd_push cL_law 337 4 338 := .inl ⟨by decide +kernel, rfl⟩
set_option maxRecDepth 20000 in
theorem eL_law_338 : gd cL_law 338 .iadd 1 339 := ⟨by decide +kernel, rfl⟩
set_option maxRecDepth 20000 in
theorem eL_law_339 : gd cL_law 339 .iaload 1 340 := ⟨by decide +kernel, rfl⟩
set_option maxRecDepth 20000 in
theorem eL_law_340 : gd_aload cL_law 340 0 341 := .inr ⟨0, by decide +kernel, rfl, rfl⟩
set_option maxRecDepth 20000 in
theorem eL_law_341 : gd_iload cL_law 341 3 342 := .inr ⟨3, by decide +kernel, rfl, rfl⟩
set_option maxRecDepth 20000 in
theorem eL_law_342 : gd_push cL_law 342 5 343 := .inl ⟨by decide +kernel, rfl⟩
set_option maxRecDepth 20000 in
theorem eL_law_343 : gd cL_law 343 .iadd 1 344 := ⟨by decide +kernel, rfl⟩
set_option maxRecDepth 20000 in
theorem eL_law_344 : gd cL_law 344 .iaload 1 345 := ⟨by decide +kernel, rfl⟩
set_option maxRecDepth 20000 in
theorem eL_law_345 : gd_aload cL_law 345 0 346 := .inr ⟨0, by decide +kernel, rfl, rfl⟩
set_option maxRecDepth 20000 in
theorem eL_law_346 : gd_iload cL_law 346 3 347 := .inr ⟨3, by decide +kernel, rfl, rfl⟩
set_option maxRecDepth 20000 in
theorem eL_law_347 : gd_push cL_law 347 6 349 := .inr (.inl ⟨by decide +kernel, by decide, rfl⟩)
set_option maxRecDepth 20000 in
theorem eL_law_349 : gd cL_law 349 .iadd 1 350 := ⟨by decide +kernel, rfl⟩
set_option maxRecDepth 20000 in
theorem eL_law_350 : gd cL_law 350 .iaload 1 351 := ⟨by decide +kernel, rfl⟩
set_option maxRecDepth 20000 in
theorem eL_law_351 : gd cL_law 351 (.invokevirtual 38) 3 354 := ⟨by decide +kernel, rfl⟩
set_option maxRecDepth 20000 in
theorem nRL_38 : Cond.methodLink RL 38 yX5_job ∈ gaTb := ga_tb (List.mem_append_right _ (List.mem_append_right _ (List.mem_append_left _ (List.mem_of_getElem? (i := 5) rfl)))) rfl
set_option maxRecDepth 20000 in
theorem vX5_job : ga_wv yX5_job 5 := ⟨⟨(RX5, TX5, 11), rfl, rfl⟩, ga_tb (List.mem_append_right _ (List.mem_append_right _ (List.mem_append_left _ (List.mem_of_getElem? (i := 6) rfl)))) rfl, ga_tb (List.mem_append_right _ (List.mem_append_right _ (List.mem_append_left _ (List.mem_of_getElem? (i := 7) rfl)))) rfl⟩
set_option maxRecDepth 20000 in
theorem eL_law_354 : gd_aload cL_law 354 2 355 := .inr ⟨2, by decide +kernel, rfl, rfl⟩
set_option maxRecDepth 20000 in
theorem eL_law_355 : gd_aload cL_law 355 0 356 := .inr ⟨0, by decide +kernel, rfl, rfl⟩
set_option maxRecDepth 20000 in
theorem eL_law_356 : gd_iload cL_law 356 3 357 := .inr ⟨3, by decide +kernel, rfl, rfl⟩
set_option maxRecDepth 20000 in
theorem eL_law_357 : gd_push cL_law 357 1 358 := .inl ⟨by decide +kernel, rfl⟩
set_option maxRecDepth 20000 in
theorem eL_law_358 : gd cL_law 358 .iadd 1 359 := ⟨by decide +kernel, rfl⟩
set_option maxRecDepth 20000 in
theorem eL_law_359 : gd cL_law 359 .iaload 1 360 := ⟨by decide +kernel, rfl⟩
set_option maxRecDepth 20000 in
theorem eL_law_360 : gd_aload cL_law 360 0 361 := .inr ⟨0, by decide +kernel, rfl, rfl⟩
set_option maxRecDepth 20000 in
theorem eL_law_361 : gd_iload cL_law 361 3 362 := .inr ⟨3, by decide +kernel, rfl, rfl⟩
set_option maxRecDepth 20000 in
theorem eL_law_362 : gd_push cL_law 362 2 363 := .inl ⟨by decide +kernel, rfl⟩
set_option maxRecDepth 20000 in
theorem eL_law_363 : gd cL_law 363 .iadd 1 364 := ⟨by decide +kernel, rfl⟩
set_option maxRecDepth 20000 in
theorem eL_law_364 : gd cL_law 364 .iaload 1 365 := ⟨by decide +kernel, rfl⟩
set_option maxRecDepth 20000 in
theorem eL_law_365 : gd_aload cL_law 365 0 366 := .inr ⟨0, by decide +kernel, rfl, rfl⟩
set_option maxRecDepth 20000 in
theorem eL_law_366 : gd_iload cL_law 366 3 367 := .inr ⟨3, by decide +kernel, rfl, rfl⟩
set_option maxRecDepth 20000 in
theorem eL_law_367 : gd_push cL_law 367 3 368 := .inl ⟨by decide +kernel, rfl⟩
set_option maxRecDepth 20000 in
theorem eL_law_368 : gd cL_law 368 .iadd 1 369 := ⟨by decide +kernel, rfl⟩
set_option maxRecDepth 20000 in
theorem eL_law_369 : gd cL_law 369 .iaload 1 370 := ⟨by decide +kernel, rfl⟩
set_option maxRecDepth 20000 in
theorem eL_law_370 : gd_aload cL_law 370 0 371 := .inr ⟨0, by decide +kernel, rfl, rfl⟩
set_option maxRecDepth 20000 in
theorem eL_law_371 : gd_iload cL_law 371 3 372 := .inr ⟨3, by decide +kernel, rfl, rfl⟩
set_option maxRecDepth 20000 in
theorem eL_law_372 : gd_push cL_law 372 4 373 := .inl ⟨by decide +kernel, rfl⟩
set_option maxRecDepth 20000 in
theorem eL_law_373 : gd cL_law 373 .iadd 1 374 := ⟨by decide +kernel, rfl⟩
set_option maxRecDepth 20000 in
theorem eL_law_374 : gd cL_law 374 .iaload 1 375 := ⟨by decide +kernel, rfl⟩
set_option maxRecDepth 20000 in
theorem eL_law_375 : gd_aload cL_law 375 0 376 := .inr ⟨0, by decide +kernel, rfl, rfl⟩
set_option maxRecDepth 20000 in
theorem eL_law_376 : gd_iload cL_law 376 3 377 := .inr ⟨3, by decide +kernel, rfl, rfl⟩
set_option maxRecDepth 20000 in
theorem eL_law_377 : gd_push cL_law 377 5 378 := .inl ⟨by decide +kernel, rfl⟩
set_option maxRecDepth 20000 in
theorem eL_law_378 : gd cL_law 378 .iadd 1 379 := ⟨by decide +kernel, rfl⟩
set_option maxRecDepth 20000 in
theorem eL_law_379 : gd cL_law 379 .iaload 1 380 := ⟨by decide +kernel, rfl⟩
set_option maxRecDepth 20000 in
theorem eL_law_380 : gd_aload cL_law 380 0 381 := .inr ⟨0, by decide +kernel, rfl, rfl⟩
set_option maxRecDepth 20000 in
theorem eL_law_381 : gd_iload cL_law 381 3 382 := .inr ⟨3, by decide +kernel, rfl, rfl⟩
set_option maxRecDepth 20000 in
theorem eL_law_382 : gd_push cL_law 382 6 384 := .inr (.inl ⟨by decide +kernel, by decide, rfl⟩)
set_option maxRecDepth 20000 in
theorem eL_law_384 : gd cL_law 384 .iadd 1 385 := ⟨by decide +kernel, rfl⟩
set_option maxRecDepth 20000 in
theorem eL_law_385 : gd cL_law 385 .iaload 1 386 := ⟨by decide +kernel, rfl⟩
set_option maxRecDepth 20000 in
theorem eL_law_386 : gd cL_law 386 (.invokevirtual 42) 3 389 := ⟨by decide +kernel, rfl⟩
set_option maxRecDepth 20000 in
theorem nRL_42 : Cond.methodLink RL 42 yX6_job ∈ gaTb := ga_tb (List.mem_append_right _ (List.mem_append_right _ (List.mem_append_right _ (List.mem_append_right _ (List.mem_of_getElem? (i := 40) rfl))))) rfl
set_option maxRecDepth 20000 in
theorem eL_law_389 : gd_b cL_law 389 (.if_icmp .eq) 778 392 := ⟨389, by decide +kernel, by decide, rfl⟩
set_option maxRecDepth 20000 in
theorem eL_law_392 : gd_push cL_law 392 0 393 := .inl ⟨by decide +kernel, rfl⟩
set_option maxRecDepth 20000 in
theorem eL_law_393 : gd cL_law 393 .ireturn 1 394 := ⟨by decide +kernel, rfl⟩
set_option maxRecDepth 20000 in
theorem eL_law_394 : gd_aload cL_law 394 1 395 := .inr ⟨1, by decide +kernel, rfl, rfl⟩
set_option maxRecDepth 20000 in
theorem eL_law_395 : gd_aload cL_law 395 0 396 := .inr ⟨0, by decide +kernel, rfl, rfl⟩
set_option maxRecDepth 20000 in
theorem eL_law_396 : gd_iload cL_law 396 3 397 := .inr ⟨3, by decide +kernel, rfl, rfl⟩
set_option maxRecDepth 20000 in
theorem eL_law_397 : gd_push cL_law 397 1 398 := .inl ⟨by decide +kernel, rfl⟩
set_option maxRecDepth 20000 in
theorem eL_law_398 : gd cL_law 398 .iadd 1 399 := ⟨by decide +kernel, rfl⟩
set_option maxRecDepth 20000 in
theorem eL_law_399 : gd cL_law 399 .iaload 1 400 := ⟨by decide +kernel, rfl⟩
set_option maxRecDepth 20000 in
theorem eL_law_400 : gd cL_law 400 (.invokevirtual 43) 3 403 := ⟨by decide +kernel, rfl⟩
set_option maxRecDepth 20000 in
theorem nRL_43 : Cond.methodLink RL 43 yX5_drop ∈ gaTb := ga_tb (List.mem_append_right _ (List.mem_append_right _ (List.mem_append_left _ (List.mem_of_getElem? (i := 123) rfl)))) rfl
set_option maxRecDepth 20000 in
theorem eL_law_403 : gd_aload cL_law 403 2 404 := .inr ⟨2, by decide +kernel, rfl, rfl⟩
set_option maxRecDepth 20000 in
theorem eL_law_404 : gd_aload cL_law 404 0 405 := .inr ⟨0, by decide +kernel, rfl, rfl⟩
set_option maxRecDepth 20000 in
theorem eL_law_405 : gd_iload cL_law 405 3 406 := .inr ⟨3, by decide +kernel, rfl, rfl⟩
set_option maxRecDepth 20000 in
theorem eL_law_406 : gd_push cL_law 406 1 407 := .inl ⟨by decide +kernel, rfl⟩
set_option maxRecDepth 20000 in
theorem eL_law_407 : gd cL_law 407 .iadd 1 408 := ⟨by decide +kernel, rfl⟩
set_option maxRecDepth 20000 in
theorem eL_law_408 : gd cL_law 408 .iaload 1 409 := ⟨by decide +kernel, rfl⟩
set_option maxRecDepth 20000 in
theorem eL_law_409 : gd cL_law 409 (.invokevirtual 46) 3 412 := ⟨by decide +kernel, rfl⟩
set_option maxRecDepth 20000 in
theorem nRL_46 : Cond.methodLink RL 46 yX6_drop ∈ gaTb := ga_tb (List.mem_append_right _ (List.mem_append_right _ (List.mem_append_right _ (List.mem_append_right _ (List.mem_of_getElem? (i := 44) rfl))))) rfl
set_option maxRecDepth 20000 in
theorem eL_law_412 : gd_b cL_law 412 (.if_icmp .eq) 778 415 := ⟨366, by decide +kernel, by decide, rfl⟩
set_option maxRecDepth 20000 in
theorem eL_law_415 : gd_push cL_law 415 0 416 := .inl ⟨by decide +kernel, rfl⟩
set_option maxRecDepth 20000 in
theorem eL_law_416 : gd cL_law 416 .ireturn 1 417 := ⟨by decide +kernel, rfl⟩
set_option maxRecDepth 20000 in
theorem eL_law_417 : gd_aload cL_law 417 1 418 := .inr ⟨1, by decide +kernel, rfl, rfl⟩
set_option maxRecDepth 20000 in
theorem eL_law_418 : gd_aload cL_law 418 0 419 := .inr ⟨0, by decide +kernel, rfl, rfl⟩
set_option maxRecDepth 20000 in
theorem eL_law_419 : gd_iload cL_law 419 3 420 := .inr ⟨3, by decide +kernel, rfl, rfl⟩
set_option maxRecDepth 20000 in
theorem eL_law_420 : gd_push cL_law 420 1 421 := .inl ⟨by decide +kernel, rfl⟩
set_option maxRecDepth 20000 in
theorem eL_law_421 : gd cL_law 421 .iadd 1 422 := ⟨by decide +kernel, rfl⟩
set_option maxRecDepth 20000 in
theorem eL_law_422 : gd cL_law 422 .iaload 1 423 := ⟨by decide +kernel, rfl⟩
set_option maxRecDepth 20000 in
theorem eL_law_423 : gd_aload cL_law 423 0 424 := .inr ⟨0, by decide +kernel, rfl, rfl⟩
set_option maxRecDepth 20000 in
theorem eL_law_424 : gd_iload cL_law 424 3 425 := .inr ⟨3, by decide +kernel, rfl, rfl⟩
set_option maxRecDepth 20000 in
theorem eL_law_425 : gd_push cL_law 425 2 426 := .inl ⟨by decide +kernel, rfl⟩
set_option maxRecDepth 20000 in
theorem eL_law_426 : gd cL_law 426 .iadd 1 427 := ⟨by decide +kernel, rfl⟩
set_option maxRecDepth 20000 in
theorem eL_law_427 : gd cL_law 427 .iaload 1 428 := ⟨by decide +kernel, rfl⟩
set_option maxRecDepth 20000 in
theorem eL_law_428 : gd cL_law 428 (.invokevirtual 47) 3 431 := ⟨by decide +kernel, rfl⟩
set_option maxRecDepth 20000 in
theorem nRL_47 : Cond.methodLink RL 47 yX5_about ∈ gaTb := ga_tb (List.mem_append_right _ (List.mem_append_right _ (List.mem_append_left _ (List.mem_of_getElem? (i := 149) rfl)))) rfl
set_option maxRecDepth 20000 in
theorem eL_law_431 : gd_aload cL_law 431 2 432 := .inr ⟨2, by decide +kernel, rfl, rfl⟩
set_option maxRecDepth 20000 in
theorem eL_law_432 : gd_aload cL_law 432 0 433 := .inr ⟨0, by decide +kernel, rfl, rfl⟩
set_option maxRecDepth 20000 in
theorem eL_law_433 : gd_iload cL_law 433 3 434 := .inr ⟨3, by decide +kernel, rfl, rfl⟩
set_option maxRecDepth 20000 in
theorem eL_law_434 : gd_push cL_law 434 1 435 := .inl ⟨by decide +kernel, rfl⟩
set_option maxRecDepth 20000 in
theorem eL_law_435 : gd cL_law 435 .iadd 1 436 := ⟨by decide +kernel, rfl⟩
set_option maxRecDepth 20000 in
theorem eL_law_436 : gd cL_law 436 .iaload 1 437 := ⟨by decide +kernel, rfl⟩
set_option maxRecDepth 20000 in
theorem eL_law_437 : gd_aload cL_law 437 0 438 := .inr ⟨0, by decide +kernel, rfl, rfl⟩
set_option maxRecDepth 20000 in
theorem eL_law_438 : gd_iload cL_law 438 3 439 := .inr ⟨3, by decide +kernel, rfl, rfl⟩
set_option maxRecDepth 20000 in
theorem eL_law_439 : gd_push cL_law 439 2 440 := .inl ⟨by decide +kernel, rfl⟩
set_option maxRecDepth 20000 in
theorem eL_law_440 : gd cL_law 440 .iadd 1 441 := ⟨by decide +kernel, rfl⟩
set_option maxRecDepth 20000 in
theorem eL_law_441 : gd cL_law 441 .iaload 1 442 := ⟨by decide +kernel, rfl⟩
set_option maxRecDepth 20000 in
theorem eL_law_442 : gd cL_law 442 (.invokevirtual 50) 3 445 := ⟨by decide +kernel, rfl⟩
set_option maxRecDepth 20000 in
theorem nRL_50 : Cond.methodLink RL 50 yX6_about ∈ gaTb := ga_tb (List.mem_append_right _ (List.mem_append_right _ (List.mem_append_right _ (List.mem_append_right _ (List.mem_of_getElem? (i := 52) rfl))))) rfl
set_option maxRecDepth 20000 in
theorem eL_law_445 : gd_b cL_law 445 (.if_icmp .eq) 778 448 := ⟨333, by decide +kernel, by decide, rfl⟩
set_option maxRecDepth 20000 in
theorem eL_law_448 : gd_push cL_law 448 0 449 := .inl ⟨by decide +kernel, rfl⟩
set_option maxRecDepth 20000 in
theorem eL_law_449 : gd cL_law 449 .ireturn 1 450 := ⟨by decide +kernel, rfl⟩
set_option maxRecDepth 20000 in
theorem eL_law_450 : gd_aload cL_law 450 1 451 := .inr ⟨1, by decide +kernel, rfl, rfl⟩
set_option maxRecDepth 20000 in
theorem eL_law_451 : gd cL_law 451 (.invokevirtual 51) 3 454 := ⟨by decide +kernel, rfl⟩
set_option maxRecDepth 20000 in
theorem nRL_51 : Cond.methodLink RL 51 yX5_lay ∈ gaTb := ga_tb (List.mem_append_right _ (List.mem_append_right _ (List.mem_append_left _ (List.mem_of_getElem? (i := 157) rfl)))) rfl
set_option maxRecDepth 20000 in
theorem eL_law_454 : gd_aload cL_law 454 2 455 := .inr ⟨2, by decide +kernel, rfl, rfl⟩
set_option maxRecDepth 20000 in
theorem eL_law_455 : gd cL_law 455 (.invokevirtual 55) 3 458 := ⟨by decide +kernel, rfl⟩
set_option maxRecDepth 20000 in
theorem nRL_55 : Cond.methodLink RL 55 yX6_lay ∈ gaTb := ga_tb (List.mem_append_right _ (List.mem_append_right _ (List.mem_append_right _ (List.mem_append_right _ (List.mem_of_getElem? (i := 56) rfl))))) rfl
set_option maxRecDepth 20000 in
theorem eL_law_458 : gd_b cL_law 458 (.if_icmp .eq) 778 461 := ⟨320, by decide +kernel, by decide, rfl⟩
set_option maxRecDepth 20000 in
theorem eL_law_461 : gd_push cL_law 461 0 462 := .inl ⟨by decide +kernel, rfl⟩
set_option maxRecDepth 20000 in
theorem eL_law_462 : gd cL_law 462 .ireturn 1 463 := ⟨by decide +kernel, rfl⟩
set_option maxRecDepth 20000 in
theorem eL_law_463 : gd_aload cL_law 463 1 464 := .inr ⟨1, by decide +kernel, rfl, rfl⟩
set_option maxRecDepth 20000 in
theorem eL_law_464 : gd_aload cL_law 464 0 465 := .inr ⟨0, by decide +kernel, rfl, rfl⟩
set_option maxRecDepth 20000 in
theorem eL_law_465 : gd_iload cL_law 465 3 466 := .inr ⟨3, by decide +kernel, rfl, rfl⟩
set_option maxRecDepth 20000 in
theorem eL_law_466 : gd_push cL_law 466 1 467 := .inl ⟨by decide +kernel, rfl⟩
set_option maxRecDepth 20000 in
theorem eL_law_467 : gd cL_law 467 .iadd 1 468 := ⟨by decide +kernel, rfl⟩
set_option maxRecDepth 20000 in
theorem eL_law_468 : gd cL_law 468 .iaload 1 469 := ⟨by decide +kernel, rfl⟩
set_option maxRecDepth 20000 in
theorem eL_law_469 : gd_aload cL_law 469 0 470 := .inr ⟨0, by decide +kernel, rfl, rfl⟩
set_option maxRecDepth 20000 in
theorem eL_law_470 : gd_iload cL_law 470 3 471 := .inr ⟨3, by decide +kernel, rfl, rfl⟩
set_option maxRecDepth 20000 in
theorem eL_law_471 : gd_push cL_law 471 2 472 := .inl ⟨by decide +kernel, rfl⟩
set_option maxRecDepth 20000 in
theorem eL_law_472 : gd cL_law 472 .iadd 1 473 := ⟨by decide +kernel, rfl⟩
set_option maxRecDepth 20000 in
theorem eL_law_473 : gd cL_law 473 .iaload 1 474 := ⟨by decide +kernel, rfl⟩
set_option maxRecDepth 20000 in
theorem eL_law_474 : gd cL_law 474 (.invokevirtual 56) 3 477 := ⟨by decide +kernel, rfl⟩
set_option maxRecDepth 20000 in
theorem nRL_56 : Cond.methodLink RL 56 yX5_laid ∈ gaTb := ga_tb (List.mem_append_right _ (List.mem_append_right _ (List.mem_append_left _ (List.mem_of_getElem? (i := 226) rfl)))) rfl
set_option maxRecDepth 20000 in
theorem eL_law_477 : gd_aload cL_law 477 2 478 := .inr ⟨2, by decide +kernel, rfl, rfl⟩
set_option maxRecDepth 20000 in
theorem eL_law_478 : gd_aload cL_law 478 0 479 := .inr ⟨0, by decide +kernel, rfl, rfl⟩
set_option maxRecDepth 20000 in
theorem eL_law_479 : gd_iload cL_law 479 3 480 := .inr ⟨3, by decide +kernel, rfl, rfl⟩
set_option maxRecDepth 20000 in
theorem eL_law_480 : gd_push cL_law 480 1 481 := .inl ⟨by decide +kernel, rfl⟩
set_option maxRecDepth 20000 in
theorem eL_law_481 : gd cL_law 481 .iadd 1 482 := ⟨by decide +kernel, rfl⟩
set_option maxRecDepth 20000 in
theorem eL_law_482 : gd cL_law 482 .iaload 1 483 := ⟨by decide +kernel, rfl⟩
set_option maxRecDepth 20000 in
theorem eL_law_483 : gd_aload cL_law 483 0 484 := .inr ⟨0, by decide +kernel, rfl, rfl⟩
set_option maxRecDepth 20000 in
theorem eL_law_484 : gd_iload cL_law 484 3 485 := .inr ⟨3, by decide +kernel, rfl, rfl⟩
set_option maxRecDepth 20000 in
theorem eL_law_485 : gd_push cL_law 485 2 486 := .inl ⟨by decide +kernel, rfl⟩
set_option maxRecDepth 20000 in
theorem eL_law_486 : gd cL_law 486 .iadd 1 487 := ⟨by decide +kernel, rfl⟩
set_option maxRecDepth 20000 in
theorem eL_law_487 : gd cL_law 487 .iaload 1 488 := ⟨by decide +kernel, rfl⟩
set_option maxRecDepth 20000 in
theorem eL_law_488 : gd cL_law 488 (.invokevirtual 59) 3 491 := ⟨by decide +kernel, rfl⟩
set_option maxRecDepth 20000 in
theorem nRL_59 : Cond.methodLink RL 59 yX6_laid ∈ gaTb := ga_tb (List.mem_append_right _ (List.mem_append_right _ (List.mem_append_right _ (List.mem_append_right _ (List.mem_of_getElem? (i := 93) rfl))))) rfl
set_option maxRecDepth 20000 in
theorem eL_law_491 : gd_b cL_law 491 (.if_icmp .eq) 778 494 := ⟨287, by decide +kernel, by decide, rfl⟩
set_option maxRecDepth 20000 in
theorem eL_law_494 : gd_push cL_law 494 0 495 := .inl ⟨by decide +kernel, rfl⟩
set_option maxRecDepth 20000 in
theorem eL_law_495 : gd cL_law 495 .ireturn 1 496 := ⟨by decide +kernel, rfl⟩
set_option maxRecDepth 20000 in
theorem eL_law_496 : gd_aload cL_law 496 1 497 := .inr ⟨1, by decide +kernel, rfl, rfl⟩
set_option maxRecDepth 20000 in
theorem eL_law_497 : gd cL_law 497 (.invokevirtual 60) 3 500 := ⟨by decide +kernel, rfl⟩
set_option maxRecDepth 20000 in
theorem nRL_60 : Cond.methodLink RL 60 yX5_cost ∈ gaTb := ga_tb (List.mem_append_right _ (List.mem_append_right _ (List.mem_append_left _ (List.mem_of_getElem? (i := 235) rfl)))) rfl
set_option maxRecDepth 20000 in
theorem eL_law_500 : gd_aload cL_law 500 2 501 := .inr ⟨2, by decide +kernel, rfl, rfl⟩
set_option maxRecDepth 20000 in
theorem eL_law_501 : gd cL_law 501 (.invokevirtual 63) 3 504 := ⟨by decide +kernel, rfl⟩
set_option maxRecDepth 20000 in
theorem nRL_63 : Cond.methodLink RL 63 yX6_cost ∈ gaTb := ga_tb (List.mem_append_right _ (List.mem_append_right _ (List.mem_append_right _ (List.mem_append_right _ (List.mem_of_getElem? (i := 97) rfl))))) rfl
set_option maxRecDepth 20000 in
theorem eL_law_504 : gd_b cL_law 504 (.if_icmp .eq) 778 507 := ⟨274, by decide +kernel, by decide, rfl⟩
set_option maxRecDepth 20000 in
theorem eL_law_507 : gd_push cL_law 507 0 508 := .inl ⟨by decide +kernel, rfl⟩
set_option maxRecDepth 20000 in
theorem eL_law_508 : gd cL_law 508 .ireturn 1 509 := ⟨by decide +kernel, rfl⟩
set_option maxRecDepth 20000 in
theorem eL_law_509 : gd_aload cL_law 509 1 510 := .inr ⟨1, by decide +kernel, rfl, rfl⟩
set_option maxRecDepth 20000 in
theorem eL_law_510 : gd cL_law 510 (.invokevirtual 64) 3 513 := ⟨by decide +kernel, rfl⟩
set_option maxRecDepth 20000 in
theorem nRL_64 : Cond.methodLink RL 64 yX5_best ∈ gaTb := ga_tb (List.mem_append_right _ (List.mem_append_right _ (List.mem_append_left _ (List.mem_of_getElem? (i := 239) rfl)))) rfl
set_option maxRecDepth 20000 in
theorem eL_law_513 : gd_aload cL_law 513 2 514 := .inr ⟨2, by decide +kernel, rfl, rfl⟩
set_option maxRecDepth 20000 in
theorem eL_law_514 : gd cL_law 514 (.invokevirtual 67) 3 517 := ⟨by decide +kernel, rfl⟩
set_option maxRecDepth 20000 in
theorem nRL_67 : Cond.methodLink RL 67 yX6_best ∈ gaTb := ga_tb (List.mem_append_right _ (List.mem_append_right _ (List.mem_append_right _ (List.mem_append_right _ (List.mem_of_getElem? (i := 101) rfl))))) rfl
set_option maxRecDepth 20000 in
theorem eL_law_517 : gd_b cL_law 517 (.if_icmp .eq) 778 520 := ⟨261, by decide +kernel, by decide, rfl⟩
set_option maxRecDepth 20000 in
theorem eL_law_520 : gd_push cL_law 520 0 521 := .inl ⟨by decide +kernel, rfl⟩
set_option maxRecDepth 20000 in
theorem eL_law_521 : gd cL_law 521 .ireturn 1 522 := ⟨by decide +kernel, rfl⟩
set_option maxRecDepth 20000 in
theorem eL_law_522 : gd_aload cL_law 522 1 523 := .inr ⟨1, by decide +kernel, rfl, rfl⟩
set_option maxRecDepth 20000 in
theorem eL_law_523 : gd_aload cL_law 523 0 524 := .inr ⟨0, by decide +kernel, rfl, rfl⟩
set_option maxRecDepth 20000 in
theorem eL_law_524 : gd_iload cL_law 524 3 525 := .inr ⟨3, by decide +kernel, rfl, rfl⟩
set_option maxRecDepth 20000 in
theorem eL_law_525 : gd_push cL_law 525 1 526 := .inl ⟨by decide +kernel, rfl⟩
set_option maxRecDepth 20000 in
theorem eL_law_526 : gd cL_law 526 .iadd 1 527 := ⟨by decide +kernel, rfl⟩
set_option maxRecDepth 20000 in
theorem eL_law_527 : gd cL_law 527 .iaload 1 528 := ⟨by decide +kernel, rfl⟩
set_option maxRecDepth 20000 in
theorem eL_law_528 : gd_aload cL_law 528 0 529 := .inr ⟨0, by decide +kernel, rfl, rfl⟩
set_option maxRecDepth 20000 in
theorem eL_law_529 : gd_iload cL_law 529 3 530 := .inr ⟨3, by decide +kernel, rfl, rfl⟩
set_option maxRecDepth 20000 in
theorem eL_law_530 : gd_push cL_law 530 2 531 := .inl ⟨by decide +kernel, rfl⟩
set_option maxRecDepth 20000 in
theorem eL_law_531 : gd cL_law 531 .iadd 1 532 := ⟨by decide +kernel, rfl⟩
set_option maxRecDepth 20000 in
theorem eL_law_532 : gd cL_law 532 .iaload 1 533 := ⟨by decide +kernel, rfl⟩
set_option maxRecDepth 20000 in
theorem eL_law_533 : gd cL_law 533 (.invokevirtual 68) 3 536 := ⟨by decide +kernel, rfl⟩
set_option maxRecDepth 20000 in
theorem nRL_68 : Cond.methodLink RL 68 yX5_free ∈ gaTb := ga_tb (List.mem_append_right _ (List.mem_append_right _ (List.mem_append_right _ (List.mem_append_left _ (List.mem_of_getElem? (i := 40) rfl))))) rfl
set_option maxRecDepth 20000 in
theorem eL_law_536 : gd_aload cL_law 536 2 537 := .inr ⟨2, by decide +kernel, rfl, rfl⟩
set_option maxRecDepth 20000 in
theorem eL_law_537 : gd_aload cL_law 537 0 538 := .inr ⟨0, by decide +kernel, rfl, rfl⟩
set_option maxRecDepth 20000 in
theorem eL_law_538 : gd_iload cL_law 538 3 539 := .inr ⟨3, by decide +kernel, rfl, rfl⟩
set_option maxRecDepth 20000 in
theorem eL_law_539 : gd_push cL_law 539 1 540 := .inl ⟨by decide +kernel, rfl⟩
set_option maxRecDepth 20000 in
theorem eL_law_540 : gd cL_law 540 .iadd 1 541 := ⟨by decide +kernel, rfl⟩
set_option maxRecDepth 20000 in
theorem eL_law_541 : gd cL_law 541 .iaload 1 542 := ⟨by decide +kernel, rfl⟩
set_option maxRecDepth 20000 in
theorem eL_law_542 : gd_aload cL_law 542 0 543 := .inr ⟨0, by decide +kernel, rfl, rfl⟩
set_option maxRecDepth 20000 in
theorem eL_law_543 : gd_iload cL_law 543 3 544 := .inr ⟨3, by decide +kernel, rfl, rfl⟩
set_option maxRecDepth 20000 in
theorem eL_law_544 : gd_push cL_law 544 2 545 := .inl ⟨by decide +kernel, rfl⟩
set_option maxRecDepth 20000 in
theorem eL_law_545 : gd cL_law 545 .iadd 1 546 := ⟨by decide +kernel, rfl⟩
set_option maxRecDepth 20000 in
theorem eL_law_546 : gd cL_law 546 .iaload 1 547 := ⟨by decide +kernel, rfl⟩
set_option maxRecDepth 20000 in
theorem eL_law_547 : gd cL_law 547 (.invokevirtual 71) 3 550 := ⟨by decide +kernel, rfl⟩
set_option maxRecDepth 20000 in
theorem nRL_71 : Cond.methodLink RL 71 yX6_free ∈ gaTb := ga_tb (List.mem_append_right _ (List.mem_append_right _ (List.mem_append_right _ (List.mem_append_right _ (List.mem_of_getElem? (i := 113) rfl))))) rfl
set_option maxRecDepth 20000 in
theorem eL_law_550 : gd_b cL_law 550 (.if_icmp .eq) 778 553 := ⟨228, by decide +kernel, by decide, rfl⟩
set_option maxRecDepth 20000 in
theorem eL_law_553 : gd_push cL_law 553 0 554 := .inl ⟨by decide +kernel, rfl⟩
set_option maxRecDepth 20000 in
theorem eL_law_554 : gd cL_law 554 .ireturn 1 555 := ⟨by decide +kernel, rfl⟩
set_option maxRecDepth 20000 in
theorem eL_law_555 : gd_aload cL_law 555 1 556 := .inr ⟨1, by decide +kernel, rfl, rfl⟩
set_option maxRecDepth 20000 in
theorem eL_law_556 : gd_aload cL_law 556 0 557 := .inr ⟨0, by decide +kernel, rfl, rfl⟩
set_option maxRecDepth 20000 in
theorem eL_law_557 : gd_iload cL_law 557 3 558 := .inr ⟨3, by decide +kernel, rfl, rfl⟩
set_option maxRecDepth 20000 in
theorem eL_law_558 : gd_push cL_law 558 1 559 := .inl ⟨by decide +kernel, rfl⟩
set_option maxRecDepth 20000 in
theorem eL_law_559 : gd cL_law 559 .iadd 1 560 := ⟨by decide +kernel, rfl⟩
set_option maxRecDepth 20000 in
theorem eL_law_560 : gd cL_law 560 .iaload 1 561 := ⟨by decide +kernel, rfl⟩
set_option maxRecDepth 20000 in
theorem eL_law_561 : gd cL_law 561 (.invokevirtual 72) 3 564 := ⟨by decide +kernel, rfl⟩
set_option maxRecDepth 20000 in
theorem nRL_72 : Cond.methodLink RL 72 yX5_pass ∈ gaTb := ga_tb (List.mem_append_right _ (List.mem_append_right _ (List.mem_append_right _ (List.mem_append_left _ (List.mem_of_getElem? (i := 44) rfl))))) rfl
set_option maxRecDepth 20000 in
theorem eL_law_564 : gd_aload cL_law 564 2 565 := .inr ⟨2, by decide +kernel, rfl, rfl⟩
set_option maxRecDepth 20000 in
theorem eL_law_565 : gd_aload cL_law 565 0 566 := .inr ⟨0, by decide +kernel, rfl, rfl⟩
set_option maxRecDepth 20000 in
theorem eL_law_566 : gd_iload cL_law 566 3 567 := .inr ⟨3, by decide +kernel, rfl, rfl⟩
set_option maxRecDepth 20000 in
theorem eL_law_567 : gd_push cL_law 567 1 568 := .inl ⟨by decide +kernel, rfl⟩
set_option maxRecDepth 20000 in
theorem eL_law_568 : gd cL_law 568 .iadd 1 569 := ⟨by decide +kernel, rfl⟩
set_option maxRecDepth 20000 in
theorem eL_law_569 : gd cL_law 569 .iaload 1 570 := ⟨by decide +kernel, rfl⟩
set_option maxRecDepth 20000 in
theorem eL_law_570 : gd cL_law 570 (.invokevirtual 75) 3 573 := ⟨by decide +kernel, rfl⟩
set_option maxRecDepth 20000 in
theorem nRL_75 : Cond.methodLink RL 75 yX6_pass ∈ gaTb := ga_tb (List.mem_append_right _ (List.mem_append_right _ (List.mem_append_right _ (List.mem_append_right _ (List.mem_of_getElem? (i := 117) rfl))))) rfl
set_option maxRecDepth 20000 in
theorem eL_law_573 : gd_b cL_law 573 (.if_icmp .eq) 778 576 := ⟨205, by decide +kernel, by decide, rfl⟩
set_option maxRecDepth 20000 in
theorem eL_law_576 : gd_push cL_law 576 0 577 := .inl ⟨by decide +kernel, rfl⟩
set_option maxRecDepth 20000 in
theorem eL_law_577 : gd cL_law 577 .ireturn 1 578 := ⟨by decide +kernel, rfl⟩
set_option maxRecDepth 20000 in
theorem eL_law_578 : gd_aload cL_law 578 1 579 := .inr ⟨1, by decide +kernel, rfl, rfl⟩
set_option maxRecDepth 20000 in
theorem eL_law_579 : gd_aload cL_law 579 0 580 := .inr ⟨0, by decide +kernel, rfl, rfl⟩
set_option maxRecDepth 20000 in
theorem eL_law_580 : gd_iload cL_law 580 3 581 := .inr ⟨3, by decide +kernel, rfl, rfl⟩
set_option maxRecDepth 20000 in
theorem eL_law_581 : gd_push cL_law 581 1 582 := .inl ⟨by decide +kernel, rfl⟩
set_option maxRecDepth 20000 in
theorem eL_law_582 : gd cL_law 582 .iadd 1 583 := ⟨by decide +kernel, rfl⟩
set_option maxRecDepth 20000 in
theorem eL_law_583 : gd cL_law 583 .iaload 1 584 := ⟨by decide +kernel, rfl⟩
set_option maxRecDepth 20000 in
theorem eL_law_584 : gd cL_law 584 (.invokevirtual 76) 3 587 := ⟨by decide +kernel, rfl⟩
set_option maxRecDepth 20000 in
theorem nRL_76 : Cond.methodLink RL 76 yX5_delay ∈ gaTb := ga_tb (List.mem_append_right _ (List.mem_append_right _ (List.mem_append_right _ (List.mem_append_left _ (List.mem_of_getElem? (i := 69) rfl))))) rfl
set_option maxRecDepth 20000 in
theorem eL_law_587 : gd_aload cL_law 587 2 588 := .inr ⟨2, by decide +kernel, rfl, rfl⟩
set_option maxRecDepth 20000 in
theorem eL_law_588 : gd_aload cL_law 588 0 589 := .inr ⟨0, by decide +kernel, rfl, rfl⟩
set_option maxRecDepth 20000 in
theorem eL_law_589 : gd_iload cL_law 589 3 590 := .inr ⟨3, by decide +kernel, rfl, rfl⟩
set_option maxRecDepth 20000 in
theorem eL_law_590 : gd_push cL_law 590 1 591 := .inl ⟨by decide +kernel, rfl⟩
set_option maxRecDepth 20000 in
theorem eL_law_591 : gd cL_law 591 .iadd 1 592 := ⟨by decide +kernel, rfl⟩
set_option maxRecDepth 20000 in
theorem eL_law_592 : gd cL_law 592 .iaload 1 593 := ⟨by decide +kernel, rfl⟩
set_option maxRecDepth 20000 in
theorem eL_law_593 : gd cL_law 593 (.invokevirtual 79) 3 596 := ⟨by decide +kernel, rfl⟩
set_option maxRecDepth 20000 in
theorem nRL_79 : Cond.methodLink RL 79 yX6_delay ∈ gaTb := ga_tb (List.mem_append_right _ (List.mem_append_right _ (List.mem_append_right _ (List.mem_append_right _ (List.mem_of_getElem? (i := 125) rfl))))) rfl
set_option maxRecDepth 20000 in
theorem eL_law_596 : gd_b cL_law 596 (.if_icmp .eq) 778 599 := ⟨182, by decide +kernel, by decide, rfl⟩
set_option maxRecDepth 20000 in
theorem eL_law_599 : gd_push cL_law 599 0 600 := .inl ⟨by decide +kernel, rfl⟩
set_option maxRecDepth 20000 in
theorem eL_law_600 : gd cL_law 600 .ireturn 1 601 := ⟨by decide +kernel, rfl⟩
set_option maxRecDepth 20000 in
theorem eL_law_601 : gd_aload cL_law 601 1 602 := .inr ⟨1, by decide +kernel, rfl, rfl⟩
set_option maxRecDepth 20000 in
theorem eL_law_602 : gd_aload cL_law 602 0 603 := .inr ⟨0, by decide +kernel, rfl, rfl⟩
set_option maxRecDepth 20000 in
theorem eL_law_603 : gd_iload cL_law 603 3 604 := .inr ⟨3, by decide +kernel, rfl, rfl⟩
set_option maxRecDepth 20000 in
theorem eL_law_604 : gd_push cL_law 604 1 605 := .inl ⟨by decide +kernel, rfl⟩
set_option maxRecDepth 20000 in
theorem eL_law_605 : gd cL_law 605 .iadd 1 606 := ⟨by decide +kernel, rfl⟩
set_option maxRecDepth 20000 in
theorem eL_law_606 : gd cL_law 606 .iaload 1 607 := ⟨by decide +kernel, rfl⟩
set_option maxRecDepth 20000 in
theorem eL_law_607 : gd cL_law 607 (.invokevirtual 80) 3 610 := ⟨by decide +kernel, rfl⟩
set_option maxRecDepth 20000 in
theorem nRL_80 : Cond.methodLink RL 80 yX5_behind ∈ gaTb := ga_tb (List.mem_append_right _ (List.mem_append_right _ (List.mem_append_right _ (List.mem_append_left _ (List.mem_of_getElem? (i := 73) rfl))))) rfl
set_option maxRecDepth 20000 in
theorem eL_law_610 : gd_aload cL_law 610 2 611 := .inr ⟨2, by decide +kernel, rfl, rfl⟩
set_option maxRecDepth 20000 in
theorem eL_law_611 : gd_aload cL_law 611 0 612 := .inr ⟨0, by decide +kernel, rfl, rfl⟩
set_option maxRecDepth 20000 in
theorem eL_law_612 : gd_iload cL_law 612 3 613 := .inr ⟨3, by decide +kernel, rfl, rfl⟩
set_option maxRecDepth 20000 in
theorem eL_law_613 : gd_push cL_law 613 1 614 := .inl ⟨by decide +kernel, rfl⟩
set_option maxRecDepth 20000 in
theorem eL_law_614 : gd cL_law 614 .iadd 1 615 := ⟨by decide +kernel, rfl⟩
set_option maxRecDepth 20000 in
theorem eL_law_615 : gd cL_law 615 .iaload 1 616 := ⟨by decide +kernel, rfl⟩
set_option maxRecDepth 20000 in
theorem eL_law_616 : gd cL_law 616 (.invokevirtual 83) 3 619 := ⟨by decide +kernel, rfl⟩
set_option maxRecDepth 20000 in
theorem nRL_83 : Cond.methodLink RL 83 yX6_behind ∈ gaTb := ga_tb (List.mem_append_right _ (List.mem_append_right _ (List.mem_append_right _ (List.mem_append_right _ (List.mem_of_getElem? (i := 129) rfl))))) rfl
set_option maxRecDepth 20000 in
theorem eL_law_619 : gd_b cL_law 619 (.if_icmp .eq) 778 622 := ⟨159, by decide +kernel, by decide, rfl⟩
set_option maxRecDepth 20000 in
theorem eL_law_622 : gd_push cL_law 622 0 623 := .inl ⟨by decide +kernel, rfl⟩
set_option maxRecDepth 20000 in
theorem eL_law_623 : gd cL_law 623 .ireturn 1 624 := ⟨by decide +kernel, rfl⟩
set_option maxRecDepth 20000 in
theorem eL_law_624 : gd_aload cL_law 624 1 625 := .inr ⟨1, by decide +kernel, rfl, rfl⟩
set_option maxRecDepth 20000 in
theorem eL_law_625 : gd cL_law 625 (.invokevirtual 84) 3 628 := ⟨by decide +kernel, rfl⟩
set_option maxRecDepth 20000 in
theorem nRL_84 : Cond.methodLink RL 84 yX5_paid ∈ gaTb := ga_tb (List.mem_append_right _ (List.mem_append_right _ (List.mem_append_right _ (List.mem_append_left _ (List.mem_of_getElem? (i := 77) rfl))))) rfl
set_option maxRecDepth 20000 in
theorem eL_law_628 : gd_aload cL_law 628 2 629 := .inr ⟨2, by decide +kernel, rfl, rfl⟩
set_option maxRecDepth 20000 in
theorem eL_law_629 : gd cL_law 629 (.invokevirtual 87) 3 632 := ⟨by decide +kernel, rfl⟩
set_option maxRecDepth 20000 in
theorem nRL_87 : Cond.methodLink RL 87 yX6_paid ∈ gaTb := ga_tb (List.mem_append_right _ (List.mem_append_right _ (List.mem_append_right _ (List.mem_append_right _ (List.mem_of_getElem? (i := 133) rfl))))) rfl
set_option maxRecDepth 20000 in
theorem eL_law_632 : gd_b cL_law 632 (.if_icmp .eq) 778 635 := ⟨146, by decide +kernel, by decide, rfl⟩
set_option maxRecDepth 20000 in
theorem eL_law_635 : gd_push cL_law 635 0 636 := .inl ⟨by decide +kernel, rfl⟩
set_option maxRecDepth 20000 in
theorem eL_law_636 : gd cL_law 636 .ireturn 1 637 := ⟨by decide +kernel, rfl⟩
set_option maxRecDepth 20000 in
theorem eL_law_637 : gd_aload cL_law 637 1 638 := .inr ⟨1, by decide +kernel, rfl, rfl⟩
set_option maxRecDepth 20000 in
theorem eL_law_638 : gd cL_law 638 (.invokevirtual 88) 3 641 := ⟨by decide +kernel, rfl⟩
set_option maxRecDepth 20000 in
theorem nRL_88 : Cond.methodLink RL 88 yX5_atOnce ∈ gaTb := ga_tb (List.mem_append_right _ (List.mem_append_right _ (List.mem_append_right _ (List.mem_append_left _ (List.mem_of_getElem? (i := 81) rfl))))) rfl
set_option maxRecDepth 20000 in
theorem eL_law_641 : gd_aload cL_law 641 2 642 := .inr ⟨2, by decide +kernel, rfl, rfl⟩
set_option maxRecDepth 20000 in
theorem eL_law_642 : gd cL_law 642 (.invokevirtual 91) 3 645 := ⟨by decide +kernel, rfl⟩
set_option maxRecDepth 20000 in
theorem nRL_91 : Cond.methodLink RL 91 yX6_atOnce ∈ gaTb := ga_tb (List.mem_append_right _ (List.mem_append_right _ (List.mem_append_right _ (List.mem_append_right _ (List.mem_of_getElem? (i := 137) rfl))))) rfl
set_option maxRecDepth 20000 in
theorem eL_law_645 : gd_b cL_law 645 (.if_icmp .eq) 778 648 := ⟨133, by decide +kernel, by decide, rfl⟩
set_option maxRecDepth 20000 in
theorem eL_law_648 : gd_push cL_law 648 0 649 := .inl ⟨by decide +kernel, rfl⟩
set_option maxRecDepth 20000 in
theorem eL_law_649 : gd cL_law 649 .ireturn 1 650 := ⟨by decide +kernel, rfl⟩
set_option maxRecDepth 20000 in
theorem eL_law_650 : gd_aload cL_law 650 1 651 := .inr ⟨1, by decide +kernel, rfl, rfl⟩
set_option maxRecDepth 20000 in
theorem eL_law_651 : gd cL_law 651 (.invokevirtual 92) 3 654 := ⟨by decide +kernel, rfl⟩
set_option maxRecDepth 20000 in
theorem nRL_92 : Cond.methodLink RL 92 yX5_saved ∈ gaTb := ga_tb (List.mem_append_right _ (List.mem_append_right _ (List.mem_append_right _ (List.mem_append_left _ (List.mem_of_getElem? (i := 90) rfl))))) rfl
set_option maxRecDepth 20000 in
theorem eL_law_654 : gd_aload cL_law 654 2 655 := .inr ⟨2, by decide +kernel, rfl, rfl⟩
set_option maxRecDepth 20000 in
theorem eL_law_655 : gd cL_law 655 (.invokevirtual 95) 3 658 := ⟨by decide +kernel, rfl⟩
set_option maxRecDepth 20000 in
theorem nRL_95 : Cond.methodLink RL 95 yX6_saved ∈ gaTb := ga_tb (List.mem_append_right _ (List.mem_append_right _ (List.mem_append_right _ (List.mem_append_right _ (List.mem_of_getElem? (i := 145) rfl))))) rfl
set_option maxRecDepth 20000 in
theorem eL_law_658 : gd_b cL_law 658 (.if_icmp .eq) 778 661 := ⟨120, by decide +kernel, by decide, rfl⟩
set_option maxRecDepth 20000 in
theorem eL_law_661 : gd_push cL_law 661 0 662 := .inl ⟨by decide +kernel, rfl⟩
set_option maxRecDepth 20000 in
theorem eL_law_662 : gd cL_law 662 .ireturn 1 663 := ⟨by decide +kernel, rfl⟩
set_option maxRecDepth 20000 in
theorem eL_law_663 : gd_aload cL_law 663 1 664 := .inr ⟨1, by decide +kernel, rfl, rfl⟩
set_option maxRecDepth 20000 in
theorem eL_law_664 : gd_aload cL_law 664 0 665 := .inr ⟨0, by decide +kernel, rfl, rfl⟩
set_option maxRecDepth 20000 in
theorem eL_law_665 : gd_iload cL_law 665 3 666 := .inr ⟨3, by decide +kernel, rfl, rfl⟩
set_option maxRecDepth 20000 in
theorem eL_law_666 : gd_push cL_law 666 1 667 := .inl ⟨by decide +kernel, rfl⟩
set_option maxRecDepth 20000 in
theorem eL_law_667 : gd cL_law 667 .iadd 1 668 := ⟨by decide +kernel, rfl⟩
set_option maxRecDepth 20000 in
theorem eL_law_668 : gd cL_law 668 .iaload 1 669 := ⟨by decide +kernel, rfl⟩
set_option maxRecDepth 20000 in
theorem eL_law_669 : gd cL_law 669 (.invokevirtual 96) 3 672 := ⟨by decide +kernel, rfl⟩
set_option maxRecDepth 20000 in
theorem nRL_96 : Cond.methodLink RL 96 yX5_regret ∈ gaTb := ga_tb (List.mem_append_right _ (List.mem_append_right _ (List.mem_append_right _ (List.mem_append_left _ (List.mem_of_getElem? (i := 99) rfl))))) rfl
set_option maxRecDepth 20000 in
theorem eL_law_672 : gd_aload cL_law 672 2 673 := .inr ⟨2, by decide +kernel, rfl, rfl⟩
set_option maxRecDepth 20000 in
theorem eL_law_673 : gd_aload cL_law 673 0 674 := .inr ⟨0, by decide +kernel, rfl, rfl⟩
set_option maxRecDepth 20000 in
theorem eL_law_674 : gd_iload cL_law 674 3 675 := .inr ⟨3, by decide +kernel, rfl, rfl⟩
set_option maxRecDepth 20000 in
theorem eL_law_675 : gd_push cL_law 675 1 676 := .inl ⟨by decide +kernel, rfl⟩
set_option maxRecDepth 20000 in
theorem eL_law_676 : gd cL_law 676 .iadd 1 677 := ⟨by decide +kernel, rfl⟩
set_option maxRecDepth 20000 in
theorem eL_law_677 : gd cL_law 677 .iaload 1 678 := ⟨by decide +kernel, rfl⟩
set_option maxRecDepth 20000 in
theorem eL_law_678 : gd cL_law 678 (.invokevirtual 99) 3 681 := ⟨by decide +kernel, rfl⟩
set_option maxRecDepth 20000 in
theorem nRL_99 : Cond.methodLink RL 99 yX6_regret ∈ gaTb := ga_tb (List.mem_append_right _ (List.mem_append_right _ (List.mem_append_right _ (List.mem_append_right _ (List.mem_of_getElem? (i := 149) rfl))))) rfl
set_option maxRecDepth 20000 in
theorem eL_law_681 : gd_b cL_law 681 (.if_icmp .eq) 778 684 := ⟨97, by decide +kernel, by decide, rfl⟩
set_option maxRecDepth 20000 in
theorem eL_law_684 : gd_push cL_law 684 0 685 := .inl ⟨by decide +kernel, rfl⟩
set_option maxRecDepth 20000 in
theorem eL_law_685 : gd cL_law 685 .ireturn 1 686 := ⟨by decide +kernel, rfl⟩
set_option maxRecDepth 20000 in
theorem eL_law_686 : gd_aload cL_law 686 1 687 := .inr ⟨1, by decide +kernel, rfl, rfl⟩
set_option maxRecDepth 20000 in
theorem eL_law_687 : gd cL_law 687 (.invokevirtual 100) 3 690 := ⟨by decide +kernel, rfl⟩
set_option maxRecDepth 20000 in
theorem nRL_100 : Cond.methodLink RL 100 yX5_worst ∈ gaTb := ga_tb (List.mem_append_right _ (List.mem_append_right _ (List.mem_append_right _ (List.mem_append_left _ (List.mem_of_getElem? (i := 108) rfl))))) rfl
set_option maxRecDepth 20000 in
theorem eL_law_690 : gd_aload cL_law 690 2 691 := .inr ⟨2, by decide +kernel, rfl, rfl⟩
set_option maxRecDepth 20000 in
theorem eL_law_691 : gd cL_law 691 (.invokevirtual 103) 3 694 := ⟨by decide +kernel, rfl⟩
set_option maxRecDepth 20000 in
theorem nRL_103 : Cond.methodLink RL 103 yX6_worst ∈ gaTb := ga_tb (List.mem_append_right _ (List.mem_append_right _ (List.mem_append_right _ (List.mem_append_right _ (List.mem_of_getElem? (i := 159) rfl))))) rfl
set_option maxRecDepth 20000 in
theorem eL_law_694 : gd_b cL_law 694 (.if_icmp .eq) 778 697 := ⟨84, by decide +kernel, by decide, rfl⟩
set_option maxRecDepth 20000 in
theorem eL_law_697 : gd_push cL_law 697 0 698 := .inl ⟨by decide +kernel, rfl⟩
set_option maxRecDepth 20000 in
theorem eL_law_698 : gd cL_law 698 .ireturn 1 699 := ⟨by decide +kernel, rfl⟩
set_option maxRecDepth 20000 in
theorem eL_law_699 : gd_aload cL_law 699 1 700 := .inr ⟨1, by decide +kernel, rfl, rfl⟩
set_option maxRecDepth 20000 in
theorem eL_law_700 : gd_aload cL_law 700 0 701 := .inr ⟨0, by decide +kernel, rfl, rfl⟩
set_option maxRecDepth 20000 in
theorem eL_law_701 : gd_iload cL_law 701 3 702 := .inr ⟨3, by decide +kernel, rfl, rfl⟩
set_option maxRecDepth 20000 in
theorem eL_law_702 : gd_push cL_law 702 1 703 := .inl ⟨by decide +kernel, rfl⟩
set_option maxRecDepth 20000 in
theorem eL_law_703 : gd cL_law 703 .iadd 1 704 := ⟨by decide +kernel, rfl⟩
set_option maxRecDepth 20000 in
theorem eL_law_704 : gd cL_law 704 .iaload 1 705 := ⟨by decide +kernel, rfl⟩
set_option maxRecDepth 20000 in
theorem eL_law_705 : gd_aload cL_law 705 0 706 := .inr ⟨0, by decide +kernel, rfl, rfl⟩
set_option maxRecDepth 20000 in
theorem eL_law_706 : gd_iload cL_law 706 3 707 := .inr ⟨3, by decide +kernel, rfl, rfl⟩
set_option maxRecDepth 20000 in
theorem eL_law_707 : gd_push cL_law 707 2 708 := .inl ⟨by decide +kernel, rfl⟩
set_option maxRecDepth 20000 in
theorem eL_law_708 : gd cL_law 708 .iadd 1 709 := ⟨by decide +kernel, rfl⟩
set_option maxRecDepth 20000 in
theorem eL_law_709 : gd cL_law 709 .iaload 1 710 := ⟨by decide +kernel, rfl⟩
set_option maxRecDepth 20000 in
theorem eL_law_710 : gd_aload cL_law 710 0 711 := .inr ⟨0, by decide +kernel, rfl, rfl⟩
set_option maxRecDepth 20000 in
theorem eL_law_711 : gd_iload cL_law 711 3 712 := .inr ⟨3, by decide +kernel, rfl, rfl⟩
set_option maxRecDepth 20000 in
theorem eL_law_712 : gd_push cL_law 712 3 713 := .inl ⟨by decide +kernel, rfl⟩
set_option maxRecDepth 20000 in
theorem eL_law_713 : gd cL_law 713 .iadd 1 714 := ⟨by decide +kernel, rfl⟩
set_option maxRecDepth 20000 in
theorem eL_law_714 : gd cL_law 714 .iaload 1 715 := ⟨by decide +kernel, rfl⟩
set_option maxRecDepth 20000 in
theorem eL_law_715 : gd cL_law 715 (.invokevirtual 104) 3 718 := ⟨by decide +kernel, rfl⟩
set_option maxRecDepth 20000 in
theorem nRL_104 : Cond.methodLink RL 104 yX5_would ∈ gaTb := ga_tb (List.mem_append_right _ (List.mem_append_right _ (List.mem_append_right _ (List.mem_append_left _ (List.mem_of_getElem? (i := 112) rfl))))) rfl
set_option maxRecDepth 20000 in
theorem eL_law_718 : gd_aload cL_law 718 2 719 := .inr ⟨2, by decide +kernel, rfl, rfl⟩
set_option maxRecDepth 20000 in
theorem eL_law_719 : gd_aload cL_law 719 0 720 := .inr ⟨0, by decide +kernel, rfl, rfl⟩
set_option maxRecDepth 20000 in
theorem eL_law_720 : gd_iload cL_law 720 3 721 := .inr ⟨3, by decide +kernel, rfl, rfl⟩
set_option maxRecDepth 20000 in
theorem eL_law_721 : gd_push cL_law 721 1 722 := .inl ⟨by decide +kernel, rfl⟩
set_option maxRecDepth 20000 in
theorem eL_law_722 : gd cL_law 722 .iadd 1 723 := ⟨by decide +kernel, rfl⟩
set_option maxRecDepth 20000 in
theorem eL_law_723 : gd cL_law 723 .iaload 1 724 := ⟨by decide +kernel, rfl⟩
set_option maxRecDepth 20000 in
theorem eL_law_724 : gd_aload cL_law 724 0 725 := .inr ⟨0, by decide +kernel, rfl, rfl⟩
set_option maxRecDepth 20000 in
theorem eL_law_725 : gd_iload cL_law 725 3 726 := .inr ⟨3, by decide +kernel, rfl, rfl⟩
set_option maxRecDepth 20000 in
theorem eL_law_726 : gd_push cL_law 726 2 727 := .inl ⟨by decide +kernel, rfl⟩
set_option maxRecDepth 20000 in
theorem eL_law_727 : gd cL_law 727 .iadd 1 728 := ⟨by decide +kernel, rfl⟩
set_option maxRecDepth 20000 in
theorem eL_law_728 : gd cL_law 728 .iaload 1 729 := ⟨by decide +kernel, rfl⟩
set_option maxRecDepth 20000 in
theorem eL_law_729 : gd_aload cL_law 729 0 730 := .inr ⟨0, by decide +kernel, rfl, rfl⟩
set_option maxRecDepth 20000 in
theorem eL_law_730 : gd_iload cL_law 730 3 731 := .inr ⟨3, by decide +kernel, rfl, rfl⟩
set_option maxRecDepth 20000 in
theorem eL_law_731 : gd_push cL_law 731 3 732 := .inl ⟨by decide +kernel, rfl⟩
set_option maxRecDepth 20000 in
theorem eL_law_732 : gd cL_law 732 .iadd 1 733 := ⟨by decide +kernel, rfl⟩
set_option maxRecDepth 20000 in
theorem eL_law_733 : gd cL_law 733 .iaload 1 734 := ⟨by decide +kernel, rfl⟩
set_option maxRecDepth 20000 in
theorem eL_law_734 : gd cL_law 734 (.invokevirtual 108) 3 737 := ⟨by decide +kernel, rfl⟩
set_option maxRecDepth 20000 in
theorem nRL_108 : Cond.methodLink RL 108 yX6_would ∈ gaTb := ga_tb (List.mem_append_right _ (List.mem_append_right _ (List.mem_append_right _ (List.mem_append_right _ (List.mem_of_getElem? (i := 163) rfl))))) rfl
set_option maxRecDepth 20000 in
theorem eL_law_737 : gd_b cL_law 737 (.if_icmp .eq) 778 740 := ⟨41, by decide +kernel, by decide, rfl⟩
set_option maxRecDepth 20000 in
theorem eL_law_740 : gd_push cL_law 740 0 741 := .inl ⟨by decide +kernel, rfl⟩
set_option maxRecDepth 20000 in
theorem eL_law_741 : gd cL_law 741 .ireturn 1 742 := ⟨by decide +kernel, rfl⟩
set_option maxRecDepth 20000 in
theorem eL_law_742 : gd_aload cL_law 742 1 743 := .inr ⟨1, by decide +kernel, rfl, rfl⟩
set_option maxRecDepth 20000 in
theorem eL_law_743 : gd_aload cL_law 743 0 744 := .inr ⟨0, by decide +kernel, rfl, rfl⟩
set_option maxRecDepth 20000 in
theorem eL_law_744 : gd_iload cL_law 744 3 745 := .inr ⟨3, by decide +kernel, rfl, rfl⟩
set_option maxRecDepth 20000 in
theorem eL_law_745 : gd_push cL_law 745 1 746 := .inl ⟨by decide +kernel, rfl⟩
set_option maxRecDepth 20000 in
theorem eL_law_746 : gd cL_law 746 .iadd 1 747 := ⟨by decide +kernel, rfl⟩
set_option maxRecDepth 20000 in
theorem eL_law_747 : gd cL_law 747 .iaload 1 748 := ⟨by decide +kernel, rfl⟩
set_option maxRecDepth 20000 in
theorem eL_law_748 : gd cL_law 748 (.invokevirtual 109) 3 751 := ⟨by decide +kernel, rfl⟩
set_option maxRecDepth 20000 in
theorem nRL_109 : Cond.methodLink RL 109 yX5_count ∈ gaTb := ga_tb (List.mem_append_right _ (List.mem_append_right _ (List.mem_append_right _ (List.mem_append_left _ (List.mem_of_getElem? (i := 116) rfl))))) rfl
set_option maxRecDepth 20000 in
theorem eL_law_751 : gd_aload cL_law 751 2 752 := .inr ⟨2, by decide +kernel, rfl, rfl⟩
set_option maxRecDepth 20000 in
theorem eL_law_752 : gd_aload cL_law 752 0 753 := .inr ⟨0, by decide +kernel, rfl, rfl⟩
set_option maxRecDepth 20000 in
theorem eL_law_753 : gd_iload cL_law 753 3 754 := .inr ⟨3, by decide +kernel, rfl, rfl⟩
set_option maxRecDepth 20000 in
theorem eL_law_754 : gd_push cL_law 754 1 755 := .inl ⟨by decide +kernel, rfl⟩
set_option maxRecDepth 20000 in
theorem eL_law_755 : gd cL_law 755 .iadd 1 756 := ⟨by decide +kernel, rfl⟩
set_option maxRecDepth 20000 in
theorem eL_law_756 : gd cL_law 756 .iaload 1 757 := ⟨by decide +kernel, rfl⟩
set_option maxRecDepth 20000 in
theorem eL_law_757 : gd cL_law 757 (.invokevirtual 112) 3 760 := ⟨by decide +kernel, rfl⟩
set_option maxRecDepth 20000 in
theorem nRL_112 : Cond.methodLink RL 112 yX6_count ∈ gaTb := ga_tb (List.mem_append_right _ (List.mem_append_right _ (List.mem_append_right _ (List.mem_append_right _ (List.mem_of_getElem? (i := 167) rfl))))) rfl
set_option maxRecDepth 20000 in
theorem eL_law_760 : gd_b cL_law 760 (.if_icmp .eq) 778 763 := ⟨18, by decide +kernel, by decide, rfl⟩
set_option maxRecDepth 20000 in
theorem eL_law_763 : gd_push cL_law 763 0 764 := .inl ⟨by decide +kernel, rfl⟩
set_option maxRecDepth 20000 in
theorem eL_law_764 : gd cL_law 764 .ireturn 1 765 := ⟨by decide +kernel, rfl⟩
set_option maxRecDepth 20000 in
theorem eL_law_765 : gd_aload cL_law 765 1 766 := .inr ⟨1, by decide +kernel, rfl, rfl⟩
set_option maxRecDepth 20000 in
theorem eL_law_766 : gd cL_law 766 (.invokevirtual 113) 3 769 := ⟨by decide +kernel, rfl⟩
set_option maxRecDepth 20000 in
theorem nRL_113 : Cond.methodLink RL 113 yX5_trouble ∈ gaTb := ga_tb (List.mem_append_right _ (List.mem_append_right _ (List.mem_append_right _ (List.mem_append_left _ (List.mem_of_getElem? (i := 120) rfl))))) rfl
set_option maxRecDepth 20000 in
theorem eL_law_769 : gd_aload cL_law 769 2 770 := .inr ⟨2, by decide +kernel, rfl, rfl⟩
set_option maxRecDepth 20000 in
theorem eL_law_770 : gd cL_law 770 (.invokevirtual 116) 3 773 := ⟨by decide +kernel, rfl⟩
set_option maxRecDepth 20000 in
theorem nRL_116 : Cond.methodLink RL 116 yX6_trouble ∈ gaTb := ga_tb (List.mem_append_right _ (List.mem_append_right _ (List.mem_append_right _ (List.mem_append_right _ (List.mem_of_getElem? (i := 175) rfl))))) rfl
set_option maxRecDepth 20000 in
theorem eL_law_773 : gd_b cL_law 773 (.if_icmp .eq) 778 776 := ⟨5, by decide +kernel, by decide, rfl⟩
set_option maxRecDepth 20000 in
theorem eL_law_776 : gd_push cL_law 776 0 777 := .inl ⟨by decide +kernel, rfl⟩
set_option maxRecDepth 20000 in
theorem eL_law_777 : gd cL_law 777 .ireturn 1 778 := ⟨by decide +kernel, rfl⟩
set_option maxRecDepth 20000 in
theorem eL_law_778 : gd cL_law 778 (.iinc 3 7) 3 781 := ⟨by decide +kernel, rfl⟩
set_option maxRecDepth 20000 in
theorem eL_law_781 : gd_b cL_law 781 .goto 18 784 := ⟨(-763), by decide +kernel, by decide, rfl⟩
set_option maxRecDepth 20000 in
theorem eL_law_784 : gd_push cL_law 784 1 785 := .inl ⟨by decide +kernel, rfl⟩
set_option maxRecDepth 20000 in
theorem eL_law_785 : gd cL_law 785 .ireturn 1 786 := ⟨by decide +kernel, rfl⟩
