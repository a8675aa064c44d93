theorem lX9_9 : zFL "SmellAbbey" 9 8 0 := ⟨RX9, TX9, 14, zc8, by decide, ztb_t (zt2 _ (List.mem_of_getElem? (i := 169) rfl)) rfl⟩
theorem lX9_16 : zFL "SmellAbbey" 16 8 1 := ⟨RX9, TX9, 14, zc8, by decide, ztb_t (zt2 _ (List.mem_of_getElem? (i := 170) rfl)) rfl⟩
theorem lX9_23 : zFL "SmellAbbey" 23 8 2 := ⟨RX9, TX9, 14, zc8, by decide, ztb_t (zt2 _ (List.mem_of_getElem? (i := 171) rfl)) rfl⟩
theorem lX9_30 : zFL "SmellAbbey" 30 8 3 := ⟨RX9, TX9, 14, zc8, by decide, ztb_t (zt2 _ (List.mem_of_getElem? (i := 172) rfl)) rfl⟩
theorem lX9_37 : zFL "SmellAbbey" 37 8 4 := ⟨RX9, TX9, 14, zc8, by decide, ztb_t (zt2 _ (List.mem_of_getElem? (i := 173) rfl)) rfl⟩
theorem lX9_41 : zFL "SmellAbbey" 41 8 5 := ⟨RX9, TX9, 14, zc8, by decide, ztb_t (zt2 _ (List.mem_of_getElem? (i := 174) rfl)) rfl⟩
theorem lX9_44 : zFL "SmellAbbey" 44 8 6 := ⟨RX9, TX9, 14, zc8, by decide, ztb_t (zt2 _ (List.mem_of_getElem? (i := 175) rfl)) rfl⟩
theorem lX9_50 : zFL "SmellAbbey" 50 8 7 := ⟨RX9, TX9, 14, zc8, by decide, ztb_t (zt2 _ (List.mem_of_getElem? (i := 176) rfl)) rfl⟩
theorem lX9_54 : zFL "SmellAbbey" 54 8 8 := ⟨RX9, TX9, 14, zc8, by decide, ztb_t (zt2 _ (List.mem_of_getElem? (i := 177) rfl)) rfl⟩
theorem lX9_58 : zFL "SmellAbbey" 58 8 9 := ⟨RX9, TX9, 14, zc8, by decide, ztb_t (zt2 _ (List.mem_of_getElem? (i := 178) rfl)) rfl⟩
theorem lX9_61 : zFL "SmellAbbey" 61 8 10 := ⟨RX9, TX9, 14, zc8, by decide, ztb_t (zt2 _ (List.mem_of_getElem? (i := 179) rfl)) rfl⟩
theorem lX9_67 : zFL "SmellAbbey" 67 8 11 := ⟨RX9, TX9, 14, zc8, by decide, ztb_t (zt2 _ (List.mem_of_getElem? (i := 180) rfl)) rfl⟩
theorem lX9_75 : zFL "SmellAbbey" 75 8 12 := ⟨RX9, TX9, 14, zc8, by decide, ztb_t (zt2 _ (List.mem_of_getElem? (i := 181) rfl)) rfl⟩
theorem lX9_103 : zFL "SmellAbbey" 103 8 13 := ⟨RX9, TX9, 14, zc8, by decide, ztb_t (zt2 _ (List.mem_of_getElem? (i := 182) rfl)) rfl⟩
theorem lX9_107 : zFL "SmellAbbey" 107 3 7 := ⟨RX3, TX3, 9, zc3, by decide, ztb_t (zt2 _ (List.mem_of_getElem? (i := 4) rfl)) rfl⟩
theorem lX9_110 : zFL "SmellAbbey" 110 3 8 := ⟨RX3, TX3, 9, zc3, by decide, ztb_t (zt2 _ (List.mem_of_getElem? (i := 6) rfl)) rfl⟩
theorem lX9_128 : zFL "SmellAbbey" 128 5 4 := ⟨RX5, TX5, 15, zc5, by decide, ztb_t (zt2 _ (List.mem_of_getElem? (i := 98) rfl)) rfl⟩
theorem lX9_131 : zFL "SmellAbbey" 131 6 7 := ⟨RX7, TX7, 13, zc6, by decide, ztb_t (zt1 _ (List.mem_of_getElem? (i := 192) rfl)) rfl⟩
theorem lX9_134 : zFL "SmellAbbey" 134 5 5 := ⟨RX5, TX5, 15, zc5, by decide, ztb_t (zt2 _ (List.mem_of_getElem? (i := 101) rfl)) rfl⟩
theorem lX9_137 : zFL "SmellAbbey" 137 5 6 := ⟨RX5, TX5, 15, zc5, by decide, ztb_t (zt2 _ (List.mem_of_getElem? (i := 103) rfl)) rfl⟩
theorem lX9_140 : zFL "SmellAbbey" 140 5 7 := ⟨RX5, TX5, 15, zc5, by decide, ztb_t (zt2 _ (List.mem_of_getElem? (i := 105) rfl)) rfl⟩
theorem lX9_148 : zFL "SmellAbbey" 148 5 0 := ⟨RX5, TX5, 15, zc5, by decide, ztb_t (zt2 _ (List.mem_of_getElem? (i := 88) rfl)) rfl⟩
theorem lX9_155 : zFL "SmellAbbey" 155 5 1 := ⟨RX5, TX5, 15, zc5, by decide, ztb_t (zt2 _ (List.mem_of_getElem? (i := 91) rfl)) rfl⟩
theorem lX9_158 : zFL "SmellAbbey" 158 6 4 := ⟨RX7, TX7, 13, zc6, by decide, ztb_t (zt1 _ (List.mem_of_getElem? (i := 182) rfl)) rfl⟩
theorem lX9_162 : zFL "SmellAbbey" 162 6 3 := ⟨RX7, TX7, 13, zc6, by decide, ztb_t (zt1 _ (List.mem_of_getElem? (i := 179) rfl)) rfl⟩
theorem lX9_166 : zFL "SmellAbbey" 166 5 3 := ⟨RX5, TX5, 15, zc5, by decide, ztb_t (zt2 _ (List.mem_of_getElem? (i := 95) rfl)) rfl⟩
theorem lX9_195 : zFL "SmellAbbey" 195 5 10 := ⟨RX5, TX5, 15, zc5, by decide, ztb_t (zt2 _ (List.mem_of_getElem? (i := 109) rfl)) rfl⟩
theorem lX9_208 : zFL "SmellAbbey" 208 6 0 := ⟨RX7, TX7, 13, zc6, by decide, ztb_t (zt1 _ (List.mem_of_getElem? (i := 171) rfl)) rfl⟩
theorem lX9_220 : zFL "SmellAbbey" 220 5 2 := ⟨RX5, TX5, 15, zc5, by decide, ztb_t (zt2 _ (List.mem_of_getElem? (i := 93) rfl)) rfl⟩
theorem lX9_253 : zFL "SmellAbbey" 253 5 13 := ⟨RX5, TX5, 15, zc5, by decide, ztb_t (zt2 _ (List.mem_of_getElem? (i := 115) rfl)) rfl⟩
theorem lX9_274 : zFL "SmellAbbey" 274 1 6 := ⟨RX1, TX1, 8, zc1, by decide, ztb_t (zt2 _ (List.mem_of_getElem? (i := 39) rfl)) rfl⟩
theorem lX9_277 : zFL "SmellAbbey" 277 1 7 := ⟨RX1, TX1, 8, zc1, by decide, ztb_t (zt2 _ (List.mem_of_getElem? (i := 41) rfl)) rfl⟩
theorem lX9_298 : zFL "SmellAbbey" 298 5 12 := ⟨RX5, TX5, 15, zc5, by decide, ztb_t (zt2 _ (List.mem_of_getElem? (i := 113) rfl)) rfl⟩
theorem lX9_310 : zFL "SmellAbbey" 310 5 14 := ⟨RX5, TX5, 15, zc5, by decide, ztb_t (zt2 _ (List.mem_of_getElem? (i := 117) rfl)) rfl⟩
theorem lX9_318 : zFL "SmellAbbey" 318 6 9 := ⟨RX7, TX7, 13, zc6, by decide, ztb_t (zt1 _ (List.mem_of_getElem? (i := 201) rfl)) rfl⟩
theorem lX9_321 : zFL "SmellAbbey" 321 6 8 := ⟨RX7, TX7, 13, zc6, by decide, ztb_t (zt1 _ (List.mem_of_getElem? (i := 198) rfl)) rfl⟩
theorem lX9_325 : zFL "SmellAbbey" 325 0 8 := ⟨RX0, TX0, 9, zc0, by decide, ztb_t (zt1 _ (List.mem_of_getElem? (i := 146) rfl)) rfl⟩
theorem lX9_330 : zFL "SmellAbbey" 330 5 11 := ⟨RX5, TX5, 15, zc5, by decide, ztb_t (zt2 _ (List.mem_of_getElem? (i := 111) rfl)) rfl⟩
theorem lX9_339 : zFL "SmellAbbey" 339 7 3 := ⟨RX8, TX8, 4, zc7, by decide, ztb_t (zt2 _ (List.mem_of_getElem? (i := 69) rfl)) rfl⟩
theorem lX0_9 : zFL "SmellAbbey$Laws" 9 0 0 := ⟨RX0, TX0, 9, zc0, by decide, ztb_t (zt1 _ (List.mem_of_getElem? (i := 137) rfl)) rfl⟩
theorem lX0_15 : zFL "SmellAbbey$Laws" 15 0 1 := ⟨RX0, TX0, 9, zc0, by decide, ztb_t (zt1 _ (List.mem_of_getElem? (i := 138) rfl)) rfl⟩
theorem lX0_18 : zFL "SmellAbbey$Laws" 18 0 2 := ⟨RX0, TX0, 9, zc0, by decide, ztb_t (zt1 _ (List.mem_of_getElem? (i := 139) rfl)) rfl⟩
theorem lX0_21 : zFL "SmellAbbey$Laws" 21 0 3 := ⟨RX0, TX0, 9, zc0, by decide, ztb_t (zt1 _ (List.mem_of_getElem? (i := 140) rfl)) rfl⟩
theorem lX0_24 : zFL "SmellAbbey$Laws" 24 0 4 := ⟨RX0, TX0, 9, zc0, by decide, ztb_t (zt1 _ (List.mem_of_getElem? (i := 141) rfl)) rfl⟩
theorem lX0_30 : zFL "SmellAbbey$Laws" 30 0 5 := ⟨RX0, TX0, 9, zc0, by decide, ztb_t (zt1 _ (List.mem_of_getElem? (i := 142) rfl)) rfl⟩
theorem lX0_34 : zFL "SmellAbbey$Laws" 34 0 6 := ⟨RX0, TX0, 9, zc0, by decide, ztb_t (zt1 _ (List.mem_of_getElem? (i := 143) rfl)) rfl⟩
theorem lX0_37 : zFL "SmellAbbey$Laws" 37 0 7 := ⟨RX0, TX0, 9, zc0, by decide, ztb_t (zt1 _ (List.mem_of_getElem? (i := 144) rfl)) rfl⟩
theorem lX0_41 : zFL "SmellAbbey$Laws" 41 0 8 := ⟨RX0, TX0, 9, zc0, by decide, ztb_t (zt1 _ (List.mem_of_getElem? (i := 145) rfl)) rfl⟩
theorem lX1_9 : zFL "SmellAbbey$Notes" 9 1 0 := ⟨RX1, TX1, 8, zc1, by decide, ztb_t (zt2 _ (List.mem_of_getElem? (i := 32) rfl)) rfl⟩
theorem lX1_15 : zFL "SmellAbbey$Notes" 15 1 1 := ⟨RX1, TX1, 8, zc1, by decide, ztb_t (zt2 _ (List.mem_of_getElem? (i := 33) rfl)) rfl⟩
theorem lX1_18 : zFL "SmellAbbey$Notes" 18 1 2 := ⟨RX1, TX1, 8, zc1, by decide, ztb_t (zt2 _ (List.mem_of_getElem? (i := 34) rfl)) rfl⟩
theorem lX1_21 : zFL "SmellAbbey$Notes" 21 1 3 := ⟨RX1, TX1, 8, zc1, by decide, ztb_t (zt2 _ (List.mem_of_getElem? (i := 35) rfl)) rfl⟩
theorem lX1_25 : zFL "SmellAbbey$Notes" 25 1 4 := ⟨RX1, TX1, 8, zc1, by decide, ztb_t (zt2 _ (List.mem_of_getElem? (i := 36) rfl)) rfl⟩
theorem lX1_28 : zFL "SmellAbbey$Notes" 28 1 5 := ⟨RX1, TX1, 8, zc1, by decide, ztb_t (zt2 _ (List.mem_of_getElem? (i := 37) rfl)) rfl⟩
theorem lX1_31 : zFL "SmellAbbey$Notes" 31 1 7 := ⟨RX1, TX1, 8, zc1, by decide, ztb_t (zt2 _ (List.mem_of_getElem? (i := 40) rfl)) rfl⟩
theorem lX1_35 : zFL "SmellAbbey$Notes" 35 1 6 := ⟨RX1, TX1, 8, zc1, by decide, ztb_t (zt2 _ (List.mem_of_getElem? (i := 38) rfl)) rfl⟩
theorem lX2_7 : zFL "SmellAbbey$Numbers" 7 2 0 := ⟨RX2, TX2, 1, zc2, by decide, ztb_t (zt2 _ (List.mem_of_getElem? (i := 155) rfl)) rfl⟩
theorem lX3_12 : zFL "SmellAbbey$Reader" 12 3 0 := ⟨RX3, TX3, 9, zc3, by decide, ztb_t (zt1 _ (List.mem_of_getElem? (i := 236) rfl)) rfl⟩
theorem lX3_18 : zFL "SmellAbbey$Reader" 18 3 1 := ⟨RX3, TX3, 9, zc3, by decide, ztb_t (zt1 _ (List.mem_of_getElem? (i := 237) rfl)) rfl⟩
theorem lX3_22 : zFL "SmellAbbey$Reader" 22 3 2 := ⟨RX3, TX3, 9, zc3, by decide, ztb_t (zt1 _ (List.mem_of_getElem? (i := 238) rfl)) rfl⟩
theorem lX3_28 : zFL "SmellAbbey$Reader" 28 3 6 := ⟨RX3, TX3, 9, zc3, by decide, ztb_t (zt2 _ (List.mem_of_getElem? (i := 2) rfl)) rfl⟩
theorem lX3_32 : zFL "SmellAbbey$Reader" 32 3 8 := ⟨RX3, TX3, 9, zc3, by decide, ztb_t (zt2 _ (List.mem_of_getElem? (i := 5) rfl)) rfl⟩
theorem lX3_39 : zFL "SmellAbbey$Reader" 39 3 7 := ⟨RX3, TX3, 9, zc3, by decide, ztb_t (zt2 _ (List.mem_of_getElem? (i := 3) rfl)) rfl⟩
theorem lX3_46 : zFL "SmellAbbey$Reader" 46 4 4 := ⟨RX4, TX4, 8, zc4, by decide, ztb_t (zt1 _ (List.mem_of_getElem? (i := 97) rfl)) rfl⟩
theorem lX3_51 : zFL "SmellAbbey$Reader" 51 4 5 := ⟨RX4, TX4, 8, zc4, by decide, ztb_t (zt1 _ (List.mem_of_getElem? (i := 99) rfl)) rfl⟩
theorem lX3_90 : zFL "SmellAbbey$Reader" 90 6 2 := ⟨RX7, TX7, 13, zc6, by decide, ztb_t (zt1 _ (List.mem_of_getElem? (i := 176) rfl)) rfl⟩
theorem lX3_96 : zFL "SmellAbbey$Reader" 96 6 3 := ⟨RX7, TX7, 13, zc6, by decide, ztb_t (zt1 _ (List.mem_of_getElem? (i := 178) rfl)) rfl⟩
theorem lX3_103 : zFL "SmellAbbey$Reader" 103 6 9 := ⟨RX7, TX7, 13, zc6, by decide, ztb_t (zt1 _ (List.mem_of_getElem? (i := 200) rfl)) rfl⟩
theorem lX3_109 : zFL "SmellAbbey$Reader" 109 6 4 := ⟨RX7, TX7, 13, zc6, by decide, ztb_t (zt1 _ (List.mem_of_getElem? (i := 183) rfl)) rfl⟩
theorem lX3_113 : zFL "SmellAbbey$Reader" 113 6 5 := ⟨RX7, TX7, 13, zc6, by decide, ztb_t (zt1 _ (List.mem_of_getElem? (i := 187) rfl)) rfl⟩
theorem lX3_116 : zFL "SmellAbbey$Reader" 116 6 6 := ⟨RX7, TX7, 13, zc6, by decide, ztb_t (zt1 _ (List.mem_of_getElem? (i := 190) rfl)) rfl⟩
theorem lX3_119 : zFL "SmellAbbey$Reader" 119 6 7 := ⟨RX7, TX7, 13, zc6, by decide, ztb_t (zt1 _ (List.mem_of_getElem? (i := 193) rfl)) rfl⟩
theorem lX3_122 : zFL "SmellAbbey$Reader" 122 6 11 := ⟨RX7, TX7, 13, zc6, by decide, ztb_t (zt1 _ (List.mem_of_getElem? (i := 206) rfl)) rfl⟩
theorem lX3_126 : zFL "SmellAbbey$Reader" 126 6 10 := ⟨RX7, TX7, 13, zc6, by decide, ztb_t (zt1 _ (List.mem_of_getElem? (i := 204) rfl)) rfl⟩
theorem lX3_129 : zFL "SmellAbbey$Reader" 129 6 12 := ⟨RX7, TX7, 13, zc6, by decide, ztb_t (zt1 _ (List.mem_of_getElem? (i := 208) rfl)) rfl⟩
theorem lX3_133 : zFL "SmellAbbey$Reader" 133 6 8 := ⟨RX7, TX7, 13, zc6, by decide, ztb_t (zt1 _ (List.mem_of_getElem? (i := 197) rfl)) rfl⟩
theorem lX3_153 : zFL "SmellAbbey$Reader" 153 6 0 := ⟨RX7, TX7, 13, zc6, by decide, ztb_t (zt1 _ (List.mem_of_getElem? (i := 170) rfl)) rfl⟩
theorem lX3_159 : zFL "SmellAbbey$Reader" 159 4 6 := ⟨RX4, TX4, 8, zc4, by decide, ztb_t (zt1 _ (List.mem_of_getElem? (i := 101) rfl)) rfl⟩
theorem lX3_165 : zFL "SmellAbbey$Reader" 165 6 1 := ⟨RX7, TX7, 13, zc6, by decide, ztb_t (zt1 _ (List.mem_of_getElem? (i := 173) rfl)) rfl⟩
theorem lX3_168 : zFL "SmellAbbey$Reader" 168 4 7 := ⟨RX4, TX4, 8, zc4, by decide, ztb_t (zt1 _ (List.mem_of_getElem? (i := 103) rfl)) rfl⟩
theorem lX3_171 : zFL "SmellAbbey$Reader" 171 3 3 := ⟨RX3, TX3, 9, zc3, by decide, ztb_t (zt1 _ (List.mem_of_getElem? (i := 239) rfl)) rfl⟩
theorem lX3_174 : zFL "SmellAbbey$Reader" 174 3 4 := ⟨RX3, TX3, 9, zc3, by decide, ztb_t (zt2 _ (List.mem_of_getElem? (i := 0) rfl)) rfl⟩
theorem lX3_177 : zFL "SmellAbbey$Reader" 177 3 5 := ⟨RX3, TX3, 9, zc3, by decide, ztb_t (zt2 _ (List.mem_of_getElem? (i := 1) rfl)) rfl⟩
theorem lX4_9 : zFL "SmellAbbey$Scanner" 9 4 0 := ⟨RX4, TX4, 8, zc4, by decide, ztb_t (zt1 _ (List.mem_of_getElem? (i := 92) rfl)) rfl⟩
theorem lX4_15 : zFL "SmellAbbey$Scanner" 15 4 1 := ⟨RX4, TX4, 8, zc4, by decide, ztb_t (zt1 _ (List.mem_of_getElem? (i := 93) rfl)) rfl⟩
theorem lX4_37 : zFL "SmellAbbey$Scanner" 37 4 2 := ⟨RX4, TX4, 8, zc4, by decide, ztb_t (zt1 _ (List.mem_of_getElem? (i := 94) rfl)) rfl⟩
theorem lX4_40 : zFL "SmellAbbey$Scanner" 40 4 3 := ⟨RX4, TX4, 8, zc4, by decide, ztb_t (zt1 _ (List.mem_of_getElem? (i := 95) rfl)) rfl⟩
theorem lX4_46 : zFL "SmellAbbey$Scanner" 46 4 5 := ⟨RX4, TX4, 8, zc4, by decide, ztb_t (zt1 _ (List.mem_of_getElem? (i := 98) rfl)) rfl⟩
theorem lX4_49 : zFL "SmellAbbey$Scanner" 49 4 4 := ⟨RX4, TX4, 8, zc4, by decide, ztb_t (zt1 _ (List.mem_of_getElem? (i := 96) rfl)) rfl⟩
theorem lX4_69 : zFL "SmellAbbey$Scanner" 69 4 6 := ⟨RX4, TX4, 8, zc4, by decide, ztb_t (zt1 _ (List.mem_of_getElem? (i := 100) rfl)) rfl⟩
theorem lX4_72 : zFL "SmellAbbey$Scanner" 72 4 7 := ⟨RX4, TX4, 8, zc4, by decide, ztb_t (zt1 _ (List.mem_of_getElem? (i := 102) rfl)) rfl⟩
theorem lX5_9 : zFL "SmellAbbey$State" 9 5 0 := ⟨RX5, TX5, 15, zc5, by decide, ztb_t (zt2 _ (List.mem_of_getElem? (i := 86) rfl)) rfl⟩
theorem lX5_15 : zFL "SmellAbbey$State" 15 5 1 := ⟨RX5, TX5, 15, zc5, by decide, ztb_t (zt2 _ (List.mem_of_getElem? (i := 89) rfl)) rfl⟩
theorem lX5_18 : zFL "SmellAbbey$State" 18 5 2 := ⟨RX5, TX5, 15, zc5, by decide, ztb_t (zt2 _ (List.mem_of_getElem? (i := 92) rfl)) rfl⟩
theorem lX5_23 : zFL "SmellAbbey$State" 23 5 3 := ⟨RX5, TX5, 15, zc5, by decide, ztb_t (zt2 _ (List.mem_of_getElem? (i := 94) rfl)) rfl⟩
theorem lX5_26 : zFL "SmellAbbey$State" 26 5 4 := ⟨RX5, TX5, 15, zc5, by decide, ztb_t (zt2 _ (List.mem_of_getElem? (i := 96) rfl)) rfl⟩
theorem lX5_29 : zFL "SmellAbbey$State" 29 5 5 := ⟨RX5, TX5, 15, zc5, by decide, ztb_t (zt2 _ (List.mem_of_getElem? (i := 99) rfl)) rfl⟩
theorem lX5_32 : zFL "SmellAbbey$State" 32 5 6 := ⟨RX5, TX5, 15, zc5, by decide, ztb_t (zt2 _ (List.mem_of_getElem? (i := 102) rfl)) rfl⟩
theorem lX5_35 : zFL "SmellAbbey$State" 35 5 7 := ⟨RX5, TX5, 15, zc5, by decide, ztb_t (zt2 _ (List.mem_of_getElem? (i := 104) rfl)) rfl⟩
theorem lX5_38 : zFL "SmellAbbey$State" 38 5 8 := ⟨RX5, TX5, 15, zc5, by decide, ztb_t (zt2 _ (List.mem_of_getElem? (i := 106) rfl)) rfl⟩
theorem lX5_41 : zFL "SmellAbbey$State" 41 5 9 := ⟨RX5, TX5, 15, zc5, by decide, ztb_t (zt2 _ (List.mem_of_getElem? (i := 107) rfl)) rfl⟩
theorem lX5_44 : zFL "SmellAbbey$State" 44 6 2 := ⟨RX7, TX7, 13, zc6, by decide, ztb_t (zt1 _ (List.mem_of_getElem? (i := 175) rfl)) rfl⟩
theorem lX5_47 : zFL "SmellAbbey$State" 47 6 5 := ⟨RX7, TX7, 13, zc6, by decide, ztb_t (zt1 _ (List.mem_of_getElem? (i := 186) rfl)) rfl⟩
theorem lX5_48 : zFL "SmellAbbey$State" 48 6 6 := ⟨RX7, TX7, 13, zc6, by decide, ztb_t (zt1 _ (List.mem_of_getElem? (i := 189) rfl)) rfl⟩
theorem lX5_49 : zFL "SmellAbbey$State" 49 6 0 := ⟨RX7, TX7, 13, zc6, by decide, ztb_t (zt1 _ (List.mem_of_getElem? (i := 169) rfl)) rfl⟩
theorem lX5_55 : zFL "SmellAbbey$State" 55 5 10 := ⟨RX5, TX5, 15, zc5, by decide, ztb_t (zt2 _ (List.mem_of_getElem? (i := 108) rfl)) rfl⟩
theorem lX5_59 : zFL "SmellAbbey$State" 59 5 11 := ⟨RX5, TX5, 15, zc5, by decide, ztb_t (zt2 _ (List.mem_of_getElem? (i := 110) rfl)) rfl⟩
theorem lX5_62 : zFL "SmellAbbey$State" 62 5 12 := ⟨RX5, TX5, 15, zc5, by decide, ztb_t (zt2 _ (List.mem_of_getElem? (i := 112) rfl)) rfl⟩
theorem lX5_65 : zFL "SmellAbbey$State" 65 5 13 := ⟨RX5, TX5, 15, zc5, by decide, ztb_t (zt2 _ (List.mem_of_getElem? (i := 114) rfl)) rfl⟩
theorem lX5_68 : zFL "SmellAbbey$State" 68 5 14 := ⟨RX5, TX5, 15, zc5, by decide, ztb_t (zt2 _ (List.mem_of_getElem? (i := 116) rfl)) rfl⟩
theorem lX5_108 : zFL "SmellAbbey$State" 108 6 10 := ⟨RX7, TX7, 13, zc6, by decide, ztb_t (zt1 _ (List.mem_of_getElem? (i := 203) rfl)) rfl⟩
theorem lX5_129 : zFL "SmellAbbey$State" 129 6 3 := ⟨RX7, TX7, 13, zc6, by decide, ztb_t (zt1 _ (List.mem_of_getElem? (i := 180) rfl)) rfl⟩
theorem lX5_133 : zFL "SmellAbbey$State" 133 6 4 := ⟨RX7, TX7, 13, zc6, by decide, ztb_t (zt1 _ (List.mem_of_getElem? (i := 184) rfl)) rfl⟩
theorem lX5_136 : zFL "SmellAbbey$State" 136 6 8 := ⟨RX7, TX7, 13, zc6, by decide, ztb_t (zt1 _ (List.mem_of_getElem? (i := 196) rfl)) rfl⟩
theorem lX5_150 : zFL "SmellAbbey$State" 150 6 7 := ⟨RX7, TX7, 13, zc6, by decide, ztb_t (zt1 _ (List.mem_of_getElem? (i := 194) rfl)) rfl⟩
theorem lX7_9 : zFL "SmellAbbey$Told" 9 6 0 := ⟨RX7, TX7, 13, zc6, by decide, ztb_t (zt1 _ (List.mem_of_getElem? (i := 168) rfl)) rfl⟩
theorem lX7_17 : zFL "SmellAbbey$Told" 17 6 1 := ⟨RX7, TX7, 13, zc6, by decide, ztb_t (zt1 _ (List.mem_of_getElem? (i := 172) rfl)) rfl⟩
theorem lX7_20 : zFL "SmellAbbey$Told" 20 6 2 := ⟨RX7, TX7, 13, zc6, by decide, ztb_t (zt1 _ (List.mem_of_getElem? (i := 174) rfl)) rfl⟩
theorem lX7_23 : zFL "SmellAbbey$Told" 23 6 3 := ⟨RX7, TX7, 13, zc6, by decide, ztb_t (zt1 _ (List.mem_of_getElem? (i := 177) rfl)) rfl⟩
theorem lX7_27 : zFL "SmellAbbey$Told" 27 6 4 := ⟨RX7, TX7, 13, zc6, by decide, ztb_t (zt1 _ (List.mem_of_getElem? (i := 181) rfl)) rfl⟩
theorem lX7_30 : zFL "SmellAbbey$Told" 30 6 5 := ⟨RX7, TX7, 13, zc6, by decide, ztb_t (zt1 _ (List.mem_of_getElem? (i := 185) rfl)) rfl⟩
theorem lX7_33 : zFL "SmellAbbey$Told" 33 6 6 := ⟨RX7, TX7, 13, zc6, by decide, ztb_t (zt1 _ (List.mem_of_getElem? (i := 188) rfl)) rfl⟩
theorem lX7_36 : zFL "SmellAbbey$Told" 36 6 7 := ⟨RX7, TX7, 13, zc6, by decide, ztb_t (zt1 _ (List.mem_of_getElem? (i := 191) rfl)) rfl⟩
theorem lX7_42 : zFL "SmellAbbey$Told" 42 6 8 := ⟨RX7, TX7, 13, zc6, by decide, ztb_t (zt1 _ (List.mem_of_getElem? (i := 195) rfl)) rfl⟩
theorem lX7_49 : zFL "SmellAbbey$Told" 49 6 9 := ⟨RX7, TX7, 13, zc6, by decide, ztb_t (zt1 _ (List.mem_of_getElem? (i := 199) rfl)) rfl⟩
theorem lX7_53 : zFL "SmellAbbey$Told" 53 6 10 := ⟨RX7, TX7, 13, zc6, by decide, ztb_t (zt1 _ (List.mem_of_getElem? (i := 202) rfl)) rfl⟩
theorem lX7_56 : zFL "SmellAbbey$Told" 56 6 11 := ⟨RX7, TX7, 13, zc6, by decide, ztb_t (zt1 _ (List.mem_of_getElem? (i := 205) rfl)) rfl⟩
theorem lX7_60 : zFL "SmellAbbey$Told" 60 6 12 := ⟨RX7, TX7, 13, zc6, by decide, ztb_t (zt1 _ (List.mem_of_getElem? (i := 207) rfl)) rfl⟩
theorem lX8_9 : zFL "SmellAbbey$Undoing" 9 7 0 := ⟨RX8, TX8, 4, zc7, by decide, ztb_t (zt2 _ (List.mem_of_getElem? (i := 65) rfl)) rfl⟩
theorem lX8_15 : zFL "SmellAbbey$Undoing" 15 7 1 := ⟨RX8, TX8, 4, zc7, by decide, ztb_t (zt2 _ (List.mem_of_getElem? (i := 66) rfl)) rfl⟩
theorem lX8_18 : zFL "SmellAbbey$Undoing" 18 7 2 := ⟨RX8, TX8, 4, zc7, by decide, ztb_t (zt2 _ (List.mem_of_getElem? (i := 67) rfl)) rfl⟩
theorem lX8_21 : zFL "SmellAbbey$Undoing" 21 7 3 := ⟨RX8, TX8, 4, zc7, by decide, ztb_t (zt2 _ (List.mem_of_getElem? (i := 68) rfl)) rfl⟩
theorem lX8_28 : zFL "SmellAbbey$Undoing" 28 5 5 := ⟨RX5, TX5, 15, zc5, by decide, ztb_t (zt2 _ (List.mem_of_getElem? (i := 100) rfl)) rfl⟩
theorem lX8_33 : zFL "SmellAbbey$Undoing" 33 5 1 := ⟨RX5, TX5, 15, zc5, by decide, ztb_t (zt2 _ (List.mem_of_getElem? (i := 90) rfl)) rfl⟩
theorem lX8_36 : zFL "SmellAbbey$Undoing" 36 5 0 := ⟨RX5, TX5, 15, zc5, by decide, ztb_t (zt2 _ (List.mem_of_getElem? (i := 87) rfl)) rfl⟩
theorem lX8_39 : zFL "SmellAbbey$Undoing" 39 5 4 := ⟨RX5, TX5, 15, zc5, by decide, ztb_t (zt2 _ (List.mem_of_getElem? (i := 97) rfl)) rfl⟩
theorem lX10_7 : zFL "SmellAbbeyModel" 7 9 1 := ⟨RX10, TX10, 68, zc9, by decide, ztb_t (zt5 _ (List.mem_of_getElem? (i := 148) rfl)) rfl⟩
theorem lX10_13 : zFL "SmellAbbeyModel" 13 9 3 := ⟨RX10, TX10, 68, zc9, by decide, ztb_t (zt5 _ (List.mem_of_getElem? (i := 150) rfl)) rfl⟩
theorem lX10_16 : zFL "SmellAbbeyModel" 16 9 4 := ⟨RX10, TX10, 68, zc9, by decide, ztb_t (zt5 _ (List.mem_of_getElem? (i := 151) rfl)) rfl⟩
theorem lX10_19 : zFL "SmellAbbeyModel" 19 9 5 := ⟨RX10, TX10, 68, zc9, by decide, ztb_t (zt5 _ (List.mem_of_getElem? (i := 152) rfl)) rfl⟩
theorem lX10_22 : zFL "SmellAbbeyModel" 22 9 6 := ⟨RX10, TX10, 68, zc9, by decide, ztb_t (zt5 _ (List.mem_of_getElem? (i := 153) rfl)) rfl⟩
theorem lX10_25 : zFL "SmellAbbeyModel" 25 9 7 := ⟨RX10, TX10, 68, zc9, by decide, ztb_t (zt5 _ (List.mem_of_getElem? (i := 154) rfl)) rfl⟩
theorem lX10_28 : zFL "SmellAbbeyModel" 28 9 8 := ⟨RX10, TX10, 68, zc9, by decide, ztb_t (zt5 _ (List.mem_of_getElem? (i := 155) rfl)) rfl⟩
theorem lX10_31 : zFL "SmellAbbeyModel" 31 9 9 := ⟨RX10, TX10, 68, zc9, by decide, ztb_t (zt5 _ (List.mem_of_getElem? (i := 156) rfl)) rfl⟩
theorem lX10_34 : zFL "SmellAbbeyModel" 34 9 10 := ⟨RX10, TX10, 68, zc9, by decide, ztb_t (zt5 _ (List.mem_of_getElem? (i := 157) rfl)) rfl⟩
theorem lX10_37 : zFL "SmellAbbeyModel" 37 9 11 := ⟨RX10, TX10, 68, zc9, by decide, ztb_t (zt5 _ (List.mem_of_getElem? (i := 158) rfl)) rfl⟩
theorem lX10_40 : zFL "SmellAbbeyModel" 40 9 12 := ⟨RX10, TX10, 68, zc9, by decide, ztb_t (zt5 _ (List.mem_of_getElem? (i := 159) rfl)) rfl⟩
theorem lX10_43 : zFL "SmellAbbeyModel" 43 9 13 := ⟨RX10, TX10, 68, zc9, by decide, ztb_t (zt5 _ (List.mem_of_getElem? (i := 160) rfl)) rfl⟩
theorem lX10_46 : zFL "SmellAbbeyModel" 46 9 14 := ⟨RX10, TX10, 68, zc9, by decide, ztb_t (zt5 _ (List.mem_of_getElem? (i := 161) rfl)) rfl⟩
theorem lX10_49 : zFL "SmellAbbeyModel" 49 9 15 := ⟨RX10, TX10, 68, zc9, by decide, ztb_t (zt5 _ (List.mem_of_getElem? (i := 162) rfl)) rfl⟩
theorem lX10_52 : zFL "SmellAbbeyModel" 52 9 16 := ⟨RX10, TX10, 68, zc9, by decide, ztb_t (zt5 _ (List.mem_of_getElem? (i := 163) rfl)) rfl⟩
theorem lX10_55 : zFL "SmellAbbeyModel" 55 9 17 := ⟨RX10, TX10, 68, zc9, by decide, ztb_t (zt5 _ (List.mem_of_getElem? (i := 164) rfl)) rfl⟩
theorem lX10_58 : zFL "SmellAbbeyModel" 58 9 28 := ⟨RX10, TX10, 68, zc9, by decide, ztb_t (zt5 _ (List.mem_of_getElem? (i := 175) rfl)) rfl⟩
theorem lX10_62 : zFL "SmellAbbeyModel" 62 9 31 := ⟨RX10, TX10, 68, zc9, by decide, ztb_t (zt5 _ (List.mem_of_getElem? (i := 178) rfl)) rfl⟩
theorem lX10_66 : zFL "SmellAbbeyModel" 66 9 32 := ⟨RX10, TX10, 68, zc9, by decide, ztb_t (zt5 _ (List.mem_of_getElem? (i := 179) rfl)) rfl⟩
theorem lX10_69 : zFL "SmellAbbeyModel" 69 9 34 := ⟨RX10, TX10, 68, zc9, by decide, ztb_t (zt5 _ (List.mem_of_getElem? (i := 181) rfl)) rfl⟩
theorem lX10_72 : zFL "SmellAbbeyModel" 72 9 35 := ⟨RX10, TX10, 68, zc9, by decide, ztb_t (zt5 _ (List.mem_of_getElem? (i := 182) rfl)) rfl⟩
theorem lX10_75 : zFL "SmellAbbeyModel" 75 9 36 := ⟨RX10, TX10, 68, zc9, by decide, ztb_t (zt5 _ (List.mem_of_getElem? (i := 183) rfl)) rfl⟩
theorem lX10_78 : zFL "SmellAbbeyModel" 78 9 37 := ⟨RX10, TX10, 68, zc9, by decide, ztb_t (zt5 _ (List.mem_of_getElem? (i := 184) rfl)) rfl⟩
theorem lX10_81 : zFL "SmellAbbeyModel" 81 9 38 := ⟨RX10, TX10, 68, zc9, by decide, ztb_t (zt5 _ (List.mem_of_getElem? (i := 185) rfl)) rfl⟩
theorem lX10_84 : zFL "SmellAbbeyModel" 84 9 39 := ⟨RX10, TX10, 68, zc9, by decide, ztb_t (zt5 _ (List.mem_of_getElem? (i := 186) rfl)) rfl⟩
theorem lX10_87 : zFL "SmellAbbeyModel" 87 9 40 := ⟨RX10, TX10, 68, zc9, by decide, ztb_t (zt5 _ (List.mem_of_getElem? (i := 187) rfl)) rfl⟩
theorem lX10_90 : zFL "SmellAbbeyModel" 90 9 41 := ⟨RX10, TX10, 68, zc9, by decide, ztb_t (zt5 _ (List.mem_of_getElem? (i := 188) rfl)) rfl⟩
theorem lX10_93 : zFL "SmellAbbeyModel" 93 9 42 := ⟨RX10, TX10, 68, zc9, by decide, ztb_t (zt5 _ (List.mem_of_getElem? (i := 189) rfl)) rfl⟩
theorem lX10_96 : zFL "SmellAbbeyModel" 96 9 43 := ⟨RX10, TX10, 68, zc9, by decide, ztb_t (zt5 _ (List.mem_of_getElem? (i := 190) rfl)) rfl⟩
theorem lX10_99 : zFL "SmellAbbeyModel" 99 9 44 := ⟨RX10, TX10, 68, zc9, by decide, ztb_t (zt5 _ (List.mem_of_getElem? (i := 191) rfl)) rfl⟩
theorem lX10_102 : zFL "SmellAbbeyModel" 102 9 45 := ⟨RX10, TX10, 68, zc9, by decide, ztb_t (zt5 _ (List.mem_of_getElem? (i := 192) rfl)) rfl⟩
theorem lX10_105 : zFL "SmellAbbeyModel" 105 9 49 := ⟨RX10, TX10, 68, zc9, by decide, ztb_t (zt5 _ (List.mem_of_getElem? (i := 196) rfl)) rfl⟩
theorem lX10_108 : zFL "SmellAbbeyModel" 108 9 50 := ⟨RX10, TX10, 68, zc9, by decide, ztb_t (zt5 _ (List.mem_of_getElem? (i := 197) rfl)) rfl⟩
theorem lX10_111 : zFL "SmellAbbeyModel" 111 9 51 := ⟨RX10, TX10, 68, zc9, by decide, ztb_t (zt5 _ (List.mem_of_getElem? (i := 198) rfl)) rfl⟩
theorem lX10_114 : zFL "SmellAbbeyModel" 114 9 52 := ⟨RX10, TX10, 68, zc9, by decide, ztb_t (zt5 _ (List.mem_of_getElem? (i := 199) rfl)) rfl⟩
theorem lX10_117 : zFL "SmellAbbeyModel" 117 9 53 := ⟨RX10, TX10, 68, zc9, by decide, ztb_t (zt5 _ (List.mem_of_getElem? (i := 200) rfl)) rfl⟩
theorem lX10_120 : zFL "SmellAbbeyModel" 120 9 55 := ⟨RX10, TX10, 68, zc9, by decide, ztb_t (zt5 _ (List.mem_of_getElem? (i := 202) rfl)) rfl⟩
theorem lX10_123 : zFL "SmellAbbeyModel" 123 9 56 := ⟨RX10, TX10, 68, zc9, by decide, ztb_t (zt5 _ (List.mem_of_getElem? (i := 203) rfl)) rfl⟩
theorem lX10_126 : zFL "SmellAbbeyModel" 126 9 57 := ⟨RX10, TX10, 68, zc9, by decide, ztb_t (zt5 _ (List.mem_of_getElem? (i := 204) rfl)) rfl⟩
theorem lX10_129 : zFL "SmellAbbeyModel" 129 9 58 := ⟨RX10, TX10, 68, zc9, by decide, ztb_t (zt5 _ (List.mem_of_getElem? (i := 205) rfl)) rfl⟩
theorem lX10_132 : zFL "SmellAbbeyModel" 132 9 59 := ⟨RX10, TX10, 68, zc9, by decide, ztb_t (zt5 _ (List.mem_of_getElem? (i := 206) rfl)) rfl⟩
theorem lX10_135 : zFL "SmellAbbeyModel" 135 9 61 := ⟨RX10, TX10, 68, zc9, by decide, ztb_t (zt5 _ (List.mem_of_getElem? (i := 208) rfl)) rfl⟩
theorem lX10_138 : zFL "SmellAbbeyModel" 138 9 62 := ⟨RX10, TX10, 68, zc9, by decide, ztb_t (zt5 _ (List.mem_of_getElem? (i := 209) rfl)) rfl⟩
theorem lX10_141 : zFL "SmellAbbeyModel" 141 9 63 := ⟨RX10, TX10, 68, zc9, by decide, ztb_t (zt5 _ (List.mem_of_getElem? (i := 210) rfl)) rfl⟩
theorem lX10_144 : zFL "SmellAbbeyModel" 144 9 64 := ⟨RX10, TX10, 68, zc9, by decide, ztb_t (zt5 _ (List.mem_of_getElem? (i := 211) rfl)) rfl⟩
theorem lX10_147 : zFL "SmellAbbeyModel" 147 9 65 := ⟨RX10, TX10, 68, zc9, by decide, ztb_t (zt5 _ (List.mem_of_getElem? (i := 212) rfl)) rfl⟩
theorem lX10_151 : zFL "SmellAbbeyModel" 151 9 66 := ⟨RX10, TX10, 68, zc9, by decide, ztb_t (zt5 _ (List.mem_of_getElem? (i := 213) rfl)) rfl⟩
theorem lX10_154 : zFL "SmellAbbeyModel" 154 9 67 := ⟨RX10, TX10, 68, zc9, by decide, ztb_t (zt5 _ (List.mem_of_getElem? (i := 214) rfl)) rfl⟩
theorem lX10_160 : zFL "SmellAbbeyModel" 160 9 0 := ⟨RX10, TX10, 68, zc9, by decide, ztb_t (zt5 _ (List.mem_of_getElem? (i := 147) rfl)) rfl⟩
theorem lX10_163 : zFL "SmellAbbeyModel" 163 9 2 := ⟨RX10, TX10, 68, zc9, by decide, ztb_t (zt5 _ (List.mem_of_getElem? (i := 149) rfl)) rfl⟩
theorem lX10_166 : zFL "SmellAbbeyModel" 166 9 21 := ⟨RX10, TX10, 68, zc9, by decide, ztb_t (zt5 _ (List.mem_of_getElem? (i := 168) rfl)) rfl⟩
theorem lX10_169 : zFL "SmellAbbeyModel" 169 9 20 := ⟨RX10, TX10, 68, zc9, by decide, ztb_t (zt5 _ (List.mem_of_getElem? (i := 167) rfl)) rfl⟩
theorem lX10_176 : zFL "SmellAbbeyModel" 176 9 22 := ⟨RX10, TX10, 68, zc9, by decide, ztb_t (zt5 _ (List.mem_of_getElem? (i := 169) rfl)) rfl⟩
theorem lX10_179 : zFL "SmellAbbeyModel" 179 9 23 := ⟨RX10, TX10, 68, zc9, by decide, ztb_t (zt5 _ (List.mem_of_getElem? (i := 170) rfl)) rfl⟩
theorem lX10_189 : zFL "SmellAbbeyModel" 189 9 24 := ⟨RX10, TX10, 68, zc9, by decide, ztb_t (zt5 _ (List.mem_of_getElem? (i := 171) rfl)) rfl⟩
theorem lX10_214 : zFL "SmellAbbeyModel" 214 9 25 := ⟨RX10, TX10, 68, zc9, by decide, ztb_t (zt5 _ (List.mem_of_getElem? (i := 172) rfl)) rfl⟩
theorem lX10_217 : zFL "SmellAbbeyModel" 217 9 26 := ⟨RX10, TX10, 68, zc9, by decide, ztb_t (zt5 _ (List.mem_of_getElem? (i := 173) rfl)) rfl⟩
theorem lX10_237 : zFL "SmellAbbeyModel" 237 9 18 := ⟨RX10, TX10, 68, zc9, by decide, ztb_t (zt5 _ (List.mem_of_getElem? (i := 165) rfl)) rfl⟩
theorem lX10_270 : zFL "SmellAbbeyModel" 270 9 19 := ⟨RX10, TX10, 68, zc9, by decide, ztb_t (zt5 _ (List.mem_of_getElem? (i := 166) rfl)) rfl⟩
theorem lX10_279 : zFL "SmellAbbeyModel" 279 9 30 := ⟨RX10, TX10, 68, zc9, by decide, ztb_t (zt5 _ (List.mem_of_getElem? (i := 177) rfl)) rfl⟩
theorem lX10_303 : zFL "SmellAbbeyModel" 303 9 29 := ⟨RX10, TX10, 68, zc9, by decide, ztb_t (zt5 _ (List.mem_of_getElem? (i := 176) rfl)) rfl⟩
theorem lX10_309 : zFL "SmellAbbeyModel" 309 9 27 := ⟨RX10, TX10, 68, zc9, by decide, ztb_t (zt5 _ (List.mem_of_getElem? (i := 174) rfl)) rfl⟩
theorem lX10_316 : zFL "SmellAbbeyModel" 316 9 60 := ⟨RX10, TX10, 68, zc9, by decide, ztb_t (zt5 _ (List.mem_of_getElem? (i := 207) rfl)) rfl⟩
theorem lX10_319 : zFL "SmellAbbeyModel" 319 9 46 := ⟨RX10, TX10, 68, zc9, by decide, ztb_t (zt5 _ (List.mem_of_getElem? (i := 193) rfl)) rfl⟩
theorem lX10_323 : zFL "SmellAbbeyModel" 323 9 47 := ⟨RX10, TX10, 68, zc9, by decide, ztb_t (zt5 _ (List.mem_of_getElem? (i := 194) rfl)) rfl⟩
theorem lX10_326 : zFL "SmellAbbeyModel" 326 9 33 := ⟨RX10, TX10, 68, zc9, by decide, ztb_t (zt5 _ (List.mem_of_getElem? (i := 180) rfl)) rfl⟩
theorem lX10_349 : zFL "SmellAbbeyModel" 349 9 48 := ⟨RX10, TX10, 68, zc9, by decide, ztb_t (zt5 _ (List.mem_of_getElem? (i := 195) rfl)) rfl⟩
theorem lX10_352 : zFL "SmellAbbeyModel" 352 9 54 := ⟨RX10, TX10, 68, zc9, by decide, ztb_t (zt5 _ (List.mem_of_getElem? (i := 201) rfl)) rfl⟩
theorem zsel {q : MethodName × Nat} (h : q ∈ lw_privs) (hg : goodWord (Cond.selects q.1.cls q.1 q.1) = true) : Cond.selects q.1.cls q.1 q.1 ∈ ztb := ztb_in (List.mem_append_left _ (List.mem_map.mpr ⟨q, h, rfl⟩)) hg
theorem sX5_begin : Cond.selects yX5_begin.cls yX5_begin yX5_begin ∈ ztb := ztb_t (zt2 _ (List.mem_of_getElem? (i := 163) rfl)) rfl
theorem gX9_71 : Cond.methodLink "SmellAbbey" 71 yX5_begin ∈ ztb ∧ Cond.instanceMethod yX5_begin ∈ ztb ∧ Cond.selects yX5_begin.cls yX5_begin yX5_begin ∈ ztb := ⟨ztb_t (zt2 _ (List.mem_of_getElem? (i := 161) rfl)) rfl, ztb_t (zt2 _ (List.mem_of_getElem? (i := 162) rfl)) rfl, sX5_begin⟩
theorem sX9_tapeNumber : Cond.selects yX9_tapeNumber.cls yX9_tapeNumber yX9_tapeNumber ∈ ztb := zsel (q := (yX9_tapeNumber, 14)) (List.mem_of_getElem? (i := 0) rfl) rfl
theorem gX9_79 : Cond.methodLink "SmellAbbey" 79 yX9_tapeNumber ∈ ztb ∧ Cond.instanceMethod yX9_tapeNumber ∈ ztb ∧ Cond.selects yX9_tapeNumber.cls yX9_tapeNumber yX9_tapeNumber ∈ ztb := ⟨ztb_t (zt2 _ (List.mem_of_getElem? (i := 216) rfl)) rfl, ztb_t (zt2 _ (List.mem_of_getElem? (i := 218) rfl)) rfl, sX9_tapeNumber⟩
theorem sX3_open : Cond.selects yX3_open.cls yX3_open yX3_open ∈ ztb := ztb_t (zt2 _ (List.mem_of_getElem? (i := 226) rfl)) rfl
theorem gX9_83 : Cond.methodLink "SmellAbbey" 83 yX3_open ∈ ztb ∧ Cond.instanceMethod yX3_open ∈ ztb ∧ Cond.selects yX3_open.cls yX3_open yX3_open ∈ ztb := ⟨ztb_t (zt2 _ (List.mem_of_getElem? (i := 224) rfl)) rfl, ztb_t (zt2 _ (List.mem_of_getElem? (i := 225) rfl)) rfl, sX3_open⟩
theorem sX3_hasMore : Cond.selects yX3_hasMore.cls yX3_hasMore yX3_hasMore ∈ ztb := ztb_t (zt3 _ (List.mem_of_getElem? (i := 32) rfl)) rfl
theorem gX9_87 : Cond.methodLink "SmellAbbey" 87 yX3_hasMore ∈ ztb ∧ Cond.instanceMethod yX3_hasMore ∈ ztb ∧ Cond.selects yX3_hasMore.cls yX3_hasMore yX3_hasMore ∈ ztb := ⟨ztb_t (zt3 _ (List.mem_of_getElem? (i := 30) rfl)) rfl, ztb_t (zt3 _ (List.mem_of_getElem? (i := 31) rfl)) rfl, sX3_hasMore⟩
theorem sX3_readLine : Cond.selects yX3_readLine.cls yX3_readLine yX3_readLine ∈ ztb := ztb_t (zt3 _ (List.mem_of_getElem? (i := 36) rfl)) rfl
theorem gX9_91 : Cond.methodLink "SmellAbbey" 91 yX3_readLine ∈ ztb ∧ Cond.instanceMethod yX3_readLine ∈ ztb ∧ Cond.selects yX3_readLine.cls yX3_readLine yX3_readLine ∈ ztb := ⟨ztb_t (zt3 _ (List.mem_of_getElem? (i := 34) rfl)) rfl, ztb_t (zt3 _ (List.mem_of_getElem? (i := 35) rfl)) rfl, sX3_readLine⟩
theorem sX3_exchange : Cond.selects yX3_exchange.cls yX3_exchange yX3_exchange ∈ ztb := ztb_t (zt3 _ (List.mem_of_getElem? (i := 147) rfl)) rfl
theorem gX9_95 : Cond.methodLink "SmellAbbey" 95 yX3_exchange ∈ ztb ∧ Cond.instanceMethod yX3_exchange ∈ ztb ∧ Cond.selects yX3_exchange.cls yX3_exchange yX3_exchange ∈ ztb := ⟨ztb_t (zt3 _ (List.mem_of_getElem? (i := 145) rfl)) rfl, ztb_t (zt3 _ (List.mem_of_getElem? (i := 146) rfl)) rfl, sX3_exchange⟩
theorem sX1_clear : Cond.selects yX1_clear.cls yX1_clear yX1_clear ∈ ztb := ztb_t (zt3 _ (List.mem_of_getElem? (i := 151) rfl)) rfl
theorem gX9_99 : Cond.methodLink "SmellAbbey" 99 yX1_clear ∈ ztb ∧ Cond.instanceMethod yX1_clear ∈ ztb ∧ Cond.selects yX1_clear.cls yX1_clear yX1_clear ∈ ztb := ⟨ztb_t (zt3 _ (List.mem_of_getElem? (i := 149) rfl)) rfl, ztb_t (zt3 _ (List.mem_of_getElem? (i := 150) rfl)) rfl, sX1_clear⟩
theorem sX8_clear : Cond.selects yX8_clear.cls yX8_clear yX8_clear ∈ ztb := ztb_t (zt3 _ (List.mem_of_getElem? (i := 155) rfl)) rfl
theorem gX9_102 : Cond.methodLink "SmellAbbey" 102 yX8_clear ∈ ztb ∧ Cond.instanceMethod yX8_clear ∈ ztb ∧ Cond.selects yX8_clear.cls yX8_clear yX8_clear ∈ ztb := ⟨ztb_t (zt3 _ (List.mem_of_getElem? (i := 153) rfl)) rfl, ztb_t (zt3 _ (List.mem_of_getElem? (i := 154) rfl)) rfl, sX8_clear⟩
theorem sX7_numberOf : Cond.selects yX7_numberOf.cls yX7_numberOf yX7_numberOf ∈ ztb := ztb_t (zt3 _ (List.mem_of_getElem? (i := 55) rfl)) rfl
theorem gX9_113 : Cond.methodLink "SmellAbbey" 113 yX7_numberOf ∈ ztb ∧ Cond.instanceMethod yX7_numberOf ∈ ztb ∧ Cond.selects yX7_numberOf.cls yX7_numberOf yX7_numberOf ∈ ztb := ⟨ztb_t (zt3 _ (List.mem_of_getElem? (i := 165) rfl)) rfl, ztb_t (zt3 _ (List.mem_of_getElem? (i := 54) rfl)) rfl, sX7_numberOf⟩
theorem sX9_has : Cond.selects yX9_has.cls yX9_has yX9_has ∈ ztb := zsel (q := (yX9_has, 14)) (List.mem_of_getElem? (i := 24) rfl) rfl
theorem gX9_117 : Cond.methodLink "SmellAbbey" 117 yX9_has ∈ ztb ∧ Cond.instanceMethod yX9_has ∈ ztb ∧ Cond.selects yX9_has.cls yX9_has yX9_has ∈ ztb := ⟨ztb_t (zt3 _ (List.mem_of_getElem? (i := 170) rfl)) rfl, ztb_t (zt3 _ (List.mem_of_getElem? (i := 172) rfl)) rfl, sX9_has⟩
theorem sX5_worthOf : Cond.selects yX5_worthOf.cls yX5_worthOf yX5_worthOf ∈ ztb := ztb_t (zt3 _ (List.mem_of_getElem? (i := 176) rfl)) rfl
theorem gX9_151 : Cond.methodLink "SmellAbbey" 151 yX5_worthOf ∈ ztb ∧ Cond.instanceMethod yX5_worthOf ∈ ztb ∧ Cond.selects yX5_worthOf.cls yX5_worthOf yX5_worthOf ∈ ztb := ⟨ztb_t (zt3 _ (List.mem_of_getElem? (i := 174) rfl)) rfl, ztb_t (zt3 _ (List.mem_of_getElem? (i := 175) rfl)) rfl, sX5_worthOf⟩
theorem sX9_keenNow : Cond.selects yX9_keenNow.cls yX9_keenNow yX9_keenNow ∈ ztb := zsel (q := (yX9_keenNow, 14)) (List.mem_of_getElem? (i := 25) rfl) rfl
theorem gX9_169 : Cond.methodLink "SmellAbbey" 169 yX9_keenNow ∈ ztb ∧ Cond.instanceMethod yX9_keenNow ∈ ztb ∧ Cond.selects yX9_keenNow.cls yX9_keenNow yX9_keenNow ∈ ztb := ⟨ztb_t (zt3 _ (List.mem_of_getElem? (i := 225) rfl)) rfl, ztb_t (zt3 _ (List.mem_of_getElem? (i := 227) rfl)) rfl, sX9_keenNow⟩
theorem sX5_markOf : Cond.selects yX5_markOf.cls yX5_markOf yX5_markOf ∈ ztb := ztb_t (zt3 _ (List.mem_of_getElem? (i := 239) rfl)) rfl
theorem gX9_173 : Cond.methodLink "SmellAbbey" 173 yX5_markOf ∈ ztb ∧ Cond.instanceMethod yX5_markOf ∈ ztb ∧ Cond.selects yX5_markOf.cls yX5_markOf yX5_markOf ∈ ztb := ⟨ztb_t (zt3 _ (List.mem_of_getElem? (i := 237) rfl)) rfl, ztb_t (zt3 _ (List.mem_of_getElem? (i := 238) rfl)) rfl, sX5_markOf⟩
theorem sX5_airLaw : Cond.selects yX5_airLaw.cls yX5_airLaw yX5_airLaw ∈ ztb := ztb_t (zt4 _ (List.mem_of_getElem? (i := 11) rfl)) rfl
theorem gX9_177 : Cond.methodLink "SmellAbbey" 177 yX5_airLaw ∈ ztb ∧ Cond.instanceMethod yX5_airLaw ∈ ztb ∧ Cond.selects yX5_airLaw.cls yX5_airLaw yX5_airLaw ∈ ztb := ⟨ztb_t (zt4 _ (List.mem_of_getElem? (i := 9) rfl)) rfl, ztb_t (zt4 _ (List.mem_of_getElem? (i := 10) rfl)) rfl, sX5_airLaw⟩
theorem sX5_keenLaw : Cond.selects yX5_keenLaw.cls yX5_keenLaw yX5_keenLaw ∈ ztb := ztb_t (zt3 _ (List.mem_of_getElem? (i := 235) rfl)) rfl
theorem gX9_183 : Cond.methodLink "SmellAbbey" 183 yX5_keenLaw ∈ ztb ∧ Cond.instanceMethod yX5_keenLaw ∈ ztb ∧ Cond.selects yX5_keenLaw.cls yX5_keenLaw yX5_keenLaw ∈ ztb := ⟨ztb_t (zt4 _ (List.mem_of_getElem? (i := 14) rfl)) rfl, ztb_t (zt3 _ (List.mem_of_getElem? (i := 234) rfl)) rfl, sX5_keenLaw⟩
theorem sX5_worthLaw : Cond.selects yX5_worthLaw.cls yX5_worthLaw yX5_worthLaw ∈ ztb := ztb_t (zt3 _ (List.mem_of_getElem? (i := 180) rfl)) rfl
theorem gX9_187 : Cond.methodLink "SmellAbbey" 187 yX5_worthLaw ∈ ztb ∧ Cond.instanceMethod yX5_worthLaw ∈ ztb ∧ Cond.selects yX5_worthLaw.cls yX5_worthLaw yX5_worthLaw ∈ ztb := ⟨ztb_t (zt4 _ (List.mem_of_getElem? (i := 15) rfl)) rfl, ztb_t (zt3 _ (List.mem_of_getElem? (i := 179) rfl)) rfl, sX5_worthLaw⟩
theorem sX8_add : Cond.selects yX8_add.cls yX8_add yX8_add ∈ ztb := ztb_t (zt4 _ (List.mem_of_getElem? (i := 22) rfl)) rfl
theorem gX9_191 : Cond.methodLink "SmellAbbey" 191 yX8_add ∈ ztb ∧ Cond.instanceMethod yX8_add ∈ ztb ∧ Cond.selects yX8_add.cls yX8_add yX8_add ∈ ztb := ⟨ztb_t (zt4 _ (List.mem_of_getElem? (i := 20) rfl)) rfl, ztb_t (zt4 _ (List.mem_of_getElem? (i := 21) rfl)) rfl, sX8_add⟩
theorem sX5_goThroughMorning : Cond.selects yX5_goThroughMorning.cls yX5_goThroughMorning yX5_goThroughMorning ∈ ztb := ztb_t (zt4 _ (List.mem_of_getElem? (i := 46) rfl)) rfl
theorem gX9_198 : Cond.methodLink "SmellAbbey" 198 yX5_goThroughMorning ∈ ztb ∧ Cond.instanceMethod yX5_goThroughMorning ∈ ztb ∧ Cond.selects yX5_goThroughMorning.cls yX5_goThroughMorning yX5_goThroughMorning ∈ ztb := ⟨ztb_t (zt4 _ (List.mem_of_getElem? (i := 44) rfl)) rfl, ztb_t (zt4 _ (List.mem_of_getElem? (i := 45) rfl)) rfl, sX5_goThroughMorning⟩
theorem sX9_markDays : Cond.selects yX9_markDays.cls yX9_markDays yX9_markDays ∈ ztb := zsel (q := (yX9_markDays, 14)) (List.mem_of_getElem? (i := 31) rfl) rfl
theorem gX9_201 : Cond.methodLink "SmellAbbey" 201 yX9_markDays ∈ ztb ∧ Cond.instanceMethod yX9_markDays ∈ ztb ∧ Cond.selects yX9_markDays.cls yX9_markDays yX9_markDays ∈ ztb := ⟨ztb_t (zt4 _ (List.mem_of_getElem? (i := 80) rfl)) rfl, ztb_t (zt4 _ (List.mem_of_getElem? (i := 82) rfl)) rfl, sX9_markDays⟩
theorem sX9_alikePairs : Cond.selects yX9_alikePairs.cls yX9_alikePairs yX9_alikePairs ∈ ztb := zsel (q := (yX9_alikePairs, 14)) (List.mem_of_getElem? (i := 32) rfl) rfl
theorem gX9_205 : Cond.methodLink "SmellAbbey" 205 yX9_alikePairs ∈ ztb ∧ Cond.instanceMethod yX9_alikePairs ∈ ztb ∧ Cond.selects yX9_alikePairs.cls yX9_alikePairs yX9_alikePairs ∈ ztb := ⟨ztb_t (zt4 _ (List.mem_of_getElem? (i := 85) rfl)) rfl, ztb_t (zt4 _ (List.mem_of_getElem? (i := 87) rfl)) rfl, sX9_alikePairs⟩
theorem sX9_moreThatIsSmelled : Cond.selects yX9_moreThatIsSmelled.cls yX9_moreThatIsSmelled yX9_moreThatIsSmelled ∈ ztb := zsel (q := (yX9_moreThatIsSmelled, 14)) (List.mem_of_getElem? (i := 33) rfl) rfl
theorem gX9_216 : Cond.methodLink "SmellAbbey" 216 yX9_moreThatIsSmelled ∈ ztb ∧ Cond.instanceMethod yX9_moreThatIsSmelled ∈ ztb ∧ Cond.selects yX9_moreThatIsSmelled.cls yX9_moreThatIsSmelled yX9_moreThatIsSmelled ∈ ztb := ⟨ztb_t (zt4 _ (List.mem_of_getElem? (i := 100) rfl)) rfl, ztb_t (zt4 _ (List.mem_of_getElem? (i := 102) rfl)) rfl, sX9_moreThatIsSmelled⟩
theorem sX9_unlikeMarks : Cond.selects yX9_unlikeMarks.cls yX9_unlikeMarks yX9_unlikeMarks ∈ ztb := zsel (q := (yX9_unlikeMarks, 14)) (List.mem_of_getElem? (i := 34) rfl) rfl
theorem gX9_223 : Cond.methodLink "SmellAbbey" 223 yX9_unlikeMarks ∈ ztb ∧ Cond.instanceMethod yX9_unlikeMarks ∈ ztb ∧ Cond.selects yX9_unlikeMarks.cls yX9_unlikeMarks yX9_unlikeMarks ∈ ztb := ⟨ztb_t (zt4 _ (List.mem_of_getElem? (i := 108) rfl)) rfl, ztb_t (zt4 _ (List.mem_of_getElem? (i := 110) rfl)) rfl, sX9_unlikeMarks⟩
theorem sX5_copy : Cond.selects yX5_copy.cls yX5_copy yX5_copy ∈ ztb := ztb_t (zt4 _ (List.mem_of_getElem? (i := 118) rfl)) rfl
theorem gX9_226 : Cond.methodLink "SmellAbbey" 226 yX5_copy ∈ ztb ∧ Cond.instanceMethod yX5_copy ∈ ztb ∧ Cond.selects yX5_copy.cls yX5_copy yX5_copy ∈ ztb := ⟨ztb_t (zt4 _ (List.mem_of_getElem? (i := 116) rfl)) rfl, ztb_t (zt4 _ (List.mem_of_getElem? (i := 117) rfl)) rfl, sX5_copy⟩
theorem sX5_firstShort : Cond.selects yX5_firstShort.cls yX5_firstShort yX5_firstShort ∈ ztb := ztb_t (zt4 _ (List.mem_of_getElem? (i := 125) rfl)) rfl
theorem gX9_230 : Cond.methodLink "SmellAbbey" 230 yX5_firstShort ∈ ztb ∧ Cond.instanceMethod yX5_firstShort ∈ ztb ∧ Cond.selects yX5_firstShort.cls yX5_firstShort yX5_firstShort ∈ ztb := ⟨ztb_t (zt4 _ (List.mem_of_getElem? (i := 123) rfl)) rfl, ztb_t (zt4 _ (List.mem_of_getElem? (i := 124) rfl)) rfl, sX5_firstShort⟩
theorem sX5_takeOut : Cond.selects yX5_takeOut.cls yX5_takeOut yX5_takeOut ∈ ztb := ztb_t (zt4 _ (List.mem_of_getElem? (i := 50) rfl)) rfl
theorem gX9_234 : Cond.methodLink "SmellAbbey" 234 yX5_takeOut ∈ ztb ∧ Cond.instanceMethod yX5_takeOut ∈ ztb ∧ Cond.selects yX5_takeOut.cls yX5_takeOut yX5_takeOut ∈ ztb := ⟨ztb_t (zt4 _ (List.mem_of_getElem? (i := 127) rfl)) rfl, ztb_t (zt4 _ (List.mem_of_getElem? (i := 49) rfl)) rfl, sX5_takeOut⟩
theorem sX7_mixedOn : Cond.selects yX7_mixedOn.cls yX7_mixedOn yX7_mixedOn ∈ ztb := ztb_t (zt4 _ (List.mem_of_getElem? (i := 54) rfl)) rfl
theorem gX9_237 : Cond.methodLink "SmellAbbey" 237 yX7_mixedOn ∈ ztb ∧ Cond.instanceMethod yX7_mixedOn ∈ ztb ∧ Cond.selects yX7_mixedOn.cls yX7_mixedOn yX7_mixedOn ∈ ztb := ⟨ztb_t (zt4 _ (List.mem_of_getElem? (i := 132) rfl)) rfl, ztb_t (zt4 _ (List.mem_of_getElem? (i := 53) rfl)) rfl, sX7_mixedOn⟩
theorem sX9_markDaysInPlace : Cond.selects yX9_markDaysInPlace.cls yX9_markDaysInPlace yX9_markDaysInPlace ∈ ztb := zsel (q := (yX9_markDaysInPlace, 14)) (List.mem_of_getElem? (i := 35) rfl) rfl
theorem gX9_240 : Cond.methodLink "SmellAbbey" 240 yX9_markDaysInPlace ∈ ztb ∧ Cond.instanceMethod yX9_markDaysInPlace ∈ ztb ∧ Cond.selects yX9_markDaysInPlace.cls yX9_markDaysInPlace yX9_markDaysInPlace ∈ ztb := ⟨ztb_t (zt4 _ (List.mem_of_getElem? (i := 141) rfl)) rfl, ztb_t (zt4 _ (List.mem_of_getElem? (i := 143) rfl)) rfl, sX9_markDaysInPlace⟩
theorem sX7_smelt : Cond.selects yX7_smelt.cls yX7_smelt yX7_smelt ∈ ztb := ztb_t (zt4 _ (List.mem_of_getElem? (i := 3) rfl)) rfl
theorem gX9_249 : Cond.methodLink "SmellAbbey" 249 yX7_smelt ∈ ztb ∧ Cond.instanceMethod yX7_smelt ∈ ztb ∧ Cond.selects yX7_smelt.cls yX7_smelt yX7_smelt ∈ ztb := ⟨ztb_t (zt4 _ (List.mem_of_getElem? (i := 84) rfl)) rfl, ztb_t (zt4 _ (List.mem_of_getElem? (i := 2) rfl)) rfl, sX7_smelt⟩
theorem sX9_canBurn : Cond.selects yX9_canBurn.cls yX9_canBurn yX9_canBurn ∈ ztb := zsel (q := (yX9_canBurn, 14)) (List.mem_of_getElem? (i := 36) rfl) rfl
theorem gX9_256 : Cond.methodLink "SmellAbbey" 256 yX9_canBurn ∈ ztb ∧ Cond.instanceMethod yX9_canBurn ∈ ztb ∧ Cond.selects yX9_canBurn.cls yX9_canBurn yX9_canBurn ∈ ztb := ⟨ztb_t (zt4 _ (List.mem_of_getElem? (i := 158) rfl)) rfl, ztb_t (zt4 _ (List.mem_of_getElem? (i := 160) rfl)) rfl, sX9_canBurn⟩
theorem sX9_countFeastThinkers : Cond.selects yX9_countFeastThinkers.cls yX9_countFeastThinkers yX9_countFeastThinkers ∈ ztb := zsel (q := (yX9_countFeastThinkers, 14)) (List.mem_of_getElem? (i := 37) rfl) rfl
theorem gX9_260 : Cond.methodLink "SmellAbbey" 260 yX9_countFeastThinkers ∈ ztb ∧ Cond.instanceMethod yX9_countFeastThinkers ∈ ztb ∧ Cond.selects yX9_countFeastThinkers.cls yX9_countFeastThinkers yX9_countFeastThinkers ∈ ztb := ⟨ztb_t (zt4 _ (List.mem_of_getElem? (i := 162) rfl)) rfl, ztb_t (zt4 _ (List.mem_of_getElem? (i := 164) rfl)) rfl, sX9_countFeastThinkers⟩
theorem sX9_isRest : Cond.selects yX9_isRest.cls yX9_isRest yX9_isRest ∈ ztb := zsel (q := (yX9_isRest, 14)) (List.mem_of_getElem? (i := 38) rfl) rfl
theorem gX9_263 : Cond.methodLink "SmellAbbey" 263 yX9_isRest ∈ ztb ∧ Cond.instanceMethod yX9_isRest ∈ ztb ∧ Cond.selects yX9_isRest.cls yX9_isRest yX9_isRest ∈ ztb := ⟨ztb_t (zt4 _ (List.mem_of_getElem? (i := 170) rfl)) rfl, ztb_t (zt4 _ (List.mem_of_getElem? (i := 172) rfl)) rfl, sX9_isRest⟩
theorem sX5_feastThinkers : Cond.selects yX5_feastThinkers.cls yX5_feastThinkers yX5_feastThinkers ∈ ztb := ztb_t (zt4 _ (List.mem_of_getElem? (i := 168) rfl)) rfl
theorem gX9_266 : Cond.methodLink "SmellAbbey" 266 yX5_feastThinkers ∈ ztb ∧ Cond.instanceMethod yX5_feastThinkers ∈ ztb ∧ Cond.selects yX5_feastThinkers.cls yX5_feastThinkers yX5_feastThinkers ∈ ztb := ⟨ztb_t (zt4 _ (List.mem_of_getElem? (i := 166) rfl)) rfl, ztb_t (zt4 _ (List.mem_of_getElem? (i := 167) rfl)) rfl, sX5_feastThinkers⟩
theorem sX1_add : Cond.selects yX1_add.cls yX1_add yX1_add ∈ ztb := ztb_t (zt4 _ (List.mem_of_getElem? (i := 184) rfl)) rfl
theorem gX9_268 : Cond.methodLink "SmellAbbey" 268 yX1_add ∈ ztb ∧ Cond.instanceMethod yX1_add ∈ ztb ∧ Cond.selects yX1_add.cls yX1_add yX1_add ∈ ztb := ⟨ztb_t (zt4 _ (List.mem_of_getElem? (i := 182) rfl)) rfl, ztb_t (zt4 _ (List.mem_of_getElem? (i := 183) rfl)) rfl, sX1_add⟩
theorem sX1_strike : Cond.selects yX1_strike.cls yX1_strike yX1_strike ∈ ztb := ztb_t (zt4 _ (List.mem_of_getElem? (i := 192) rfl)) rfl
theorem gX9_271 : Cond.methodLink "SmellAbbey" 271 yX1_strike ∈ ztb ∧ Cond.instanceMethod yX1_strike ∈ ztb ∧ Cond.selects yX1_strike.cls yX1_strike yX1_strike ∈ ztb := ⟨ztb_t (zt4 _ (List.mem_of_getElem? (i := 190) rfl)) rfl, ztb_t (zt4 _ (List.mem_of_getElem? (i := 191) rfl)) rfl, sX1_strike⟩
theorem sX1_weigh : Cond.selects yX1_weigh.cls yX1_weigh yX1_weigh ∈ ztb := ztb_t (zt4 _ (List.mem_of_getElem? (i := 204) rfl)) rfl
theorem gX9_280 : Cond.methodLink "SmellAbbey" 280 yX1_weigh ∈ ztb ∧ Cond.instanceMethod yX1_weigh ∈ ztb ∧ Cond.selects yX1_weigh.cls yX1_weigh yX1_weigh ∈ ztb := ⟨ztb_t (zt4 _ (List.mem_of_getElem? (i := 202) rfl)) rfl, ztb_t (zt4 _ (List.mem_of_getElem? (i := 203) rfl)) rfl, sX1_weigh⟩
theorem sX9_agreesWithNotes : Cond.selects yX9_agreesWithNotes.cls yX9_agreesWithNotes yX9_agreesWithNotes ∈ ztb := zsel (q := (yX9_agreesWithNotes, 14)) (List.mem_of_getElem? (i := 39) rfl) rfl
theorem gX9_283 : Cond.methodLink "SmellAbbey" 283 yX9_agreesWithNotes ∈ ztb ∧ Cond.instanceMethod yX9_agreesWithNotes ∈ ztb ∧ Cond.selects yX9_agreesWithNotes.cls yX9_agreesWithNotes yX9_agreesWithNotes ∈ ztb := ⟨ztb_t (zt4 _ (List.mem_of_getElem? (i := 210) rfl)) rfl, ztb_t (zt4 _ (List.mem_of_getElem? (i := 212) rfl)) rfl, sX9_agreesWithNotes⟩
theorem sX1_lastMorning : Cond.selects yX1_lastMorning.cls yX1_lastMorning yX1_lastMorning ∈ ztb := ztb_t (zt4 _ (List.mem_of_getElem? (i := 216) rfl)) rfl
theorem gX9_286 : Cond.methodLink "SmellAbbey" 286 yX1_lastMorning ∈ ztb ∧ Cond.instanceMethod yX1_lastMorning ∈ ztb ∧ Cond.selects yX1_lastMorning.cls yX1_lastMorning yX1_lastMorning ∈ ztb := ⟨ztb_t (zt4 _ (List.mem_of_getElem? (i := 214) rfl)) rfl, ztb_t (zt4 _ (List.mem_of_getElem? (i := 215) rfl)) rfl, sX1_lastMorning⟩
theorem sX1_allow : Cond.selects yX1_allow.cls yX1_allow yX1_allow ∈ ztb := ztb_t (zt4 _ (List.mem_of_getElem? (i := 225) rfl)) rfl
theorem gX9_289 : Cond.methodLink "SmellAbbey" 289 yX1_allow ∈ ztb ∧ Cond.instanceMethod yX1_allow ∈ ztb ∧ Cond.selects yX1_allow.cls yX1_allow yX1_allow ∈ ztb := ⟨ztb_t (zt4 _ (List.mem_of_getElem? (i := 223) rfl)) rfl, ztb_t (zt4 _ (List.mem_of_getElem? (i := 224) rfl)) rfl, sX1_allow⟩
theorem sX2_begin : Cond.selects yX2_begin.cls yX2_begin yX2_begin ∈ ztb := ztb_t (zt4 _ (List.mem_of_getElem? (i := 233) rfl)) rfl
theorem gX9_293 : Cond.methodLink "SmellAbbey" 293 yX2_begin ∈ ztb ∧ Cond.instanceMethod yX2_begin ∈ ztb ∧ Cond.selects yX2_begin.cls yX2_begin yX2_begin ∈ ztb := ⟨ztb_t (zt4 _ (List.mem_of_getElem? (i := 231) rfl)) rfl, ztb_t (zt4 _ (List.mem_of_getElem? (i := 232) rfl)) rfl, sX2_begin⟩
theorem sX9_blowByChance : Cond.selects yX9_blowByChance.cls yX9_blowByChance yX9_blowByChance ∈ ztb := zsel (q := (yX9_blowByChance, 14)) (List.mem_of_getElem? (i := 41) rfl) rfl
theorem gX9_295 : Cond.methodLink "SmellAbbey" 295 yX9_blowByChance ∈ ztb ∧ Cond.instanceMethod yX9_blowByChance ∈ ztb ∧ Cond.selects yX9_blowByChance.cls yX9_blowByChance yX9_blowByChance ∈ ztb := ⟨ztb_t (zt4 _ (List.mem_of_getElem? (i := 235) rfl)) rfl, ztb_t (zt4 _ (List.mem_of_getElem? (i := 237) rfl)) rfl, sX9_blowByChance⟩
theorem sX2_draw : Cond.selects yX2_draw.cls yX2_draw yX2_draw ∈ ztb := ztb_t (zt5 _ (List.mem_of_getElem? (i := 1) rfl)) rfl
theorem gX9_301 : Cond.methodLink "SmellAbbey" 301 yX2_draw ∈ ztb ∧ Cond.instanceMethod yX2_draw ∈ ztb ∧ Cond.selects yX2_draw.cls yX2_draw yX2_draw ∈ ztb := ⟨ztb_t (zt4 _ (List.mem_of_getElem? (i := 239) rfl)) rfl, ztb_t (zt5 _ (List.mem_of_getElem? (i := 0) rfl)) rfl, sX2_draw⟩
theorem sX9_changeTrial : Cond.selects yX9_changeTrial.cls yX9_changeTrial yX9_changeTrial ∈ ztb := zsel (q := (yX9_changeTrial, 14)) (List.mem_of_getElem? (i := 42) rfl) rfl
theorem gX9_304 : Cond.methodLink "SmellAbbey" 304 yX9_changeTrial ∈ ztb ∧ Cond.instanceMethod yX9_changeTrial ∈ ztb ∧ Cond.selects yX9_changeTrial.cls yX9_changeTrial yX9_changeTrial ∈ ztb := ⟨ztb_t (zt5 _ (List.mem_of_getElem? (i := 11) rfl)) rfl, ztb_t (zt5 _ (List.mem_of_getElem? (i := 13) rfl)) rfl, sX9_changeTrial⟩
theorem sX5_clearAir : Cond.selects yX5_clearAir.cls yX5_clearAir yX5_clearAir ∈ ztb := ztb_t (zt2 _ (List.mem_of_getElem? (i := 167) rfl)) rfl
theorem gX9_307 : Cond.methodLink "SmellAbbey" 307 yX5_clearAir ∈ ztb ∧ Cond.instanceMethod yX5_clearAir ∈ ztb ∧ Cond.selects yX5_clearAir.cls yX5_clearAir yX5_clearAir ∈ ztb := ⟨ztb_t (zt5 _ (List.mem_of_getElem? (i := 16) rfl)) rfl, ztb_t (zt2 _ (List.mem_of_getElem? (i := 166) rfl)) rfl, sX5_clearAir⟩
theorem sX8_takeBack : Cond.selects yX8_takeBack.cls yX8_takeBack yX8_takeBack ∈ ztb := ztb_t (zt5 _ (List.mem_of_getElem? (i := 23) rfl)) rfl
theorem gX9_314 : Cond.methodLink "SmellAbbey" 314 yX8_takeBack ∈ ztb ∧ Cond.instanceMethod yX8_takeBack ∈ ztb ∧ Cond.selects yX8_takeBack.cls yX8_takeBack yX8_takeBack ∈ ztb := ⟨ztb_t (zt5 _ (List.mem_of_getElem? (i := 21) rfl)) rfl, ztb_t (zt5 _ (List.mem_of_getElem? (i := 22) rfl)) rfl, sX8_takeBack⟩
theorem sX9_allStores : Cond.selects yX9_allStores.cls yX9_allStores yX9_allStores ∈ ztb := zsel (q := (yX9_allStores, 14)) (List.mem_of_getElem? (i := 43) rfl) rfl
theorem gX9_333 : Cond.methodLink "SmellAbbey" 333 yX9_allStores ∈ ztb ∧ Cond.instanceMethod yX9_allStores ∈ ztb ∧ Cond.selects yX9_allStores.cls yX9_allStores yX9_allStores ∈ ztb := ⟨ztb_t (zt5 _ (List.mem_of_getElem? (i := 37) rfl)) rfl, ztb_t (zt5 _ (List.mem_of_getElem? (i := 39) rfl)) rfl, sX9_allStores⟩
theorem sX1_considered : Cond.selects yX1_considered.cls yX1_considered yX1_considered ∈ ztb := ztb_t (zt4 _ (List.mem_of_getElem? (i := 208) rfl)) rfl
theorem gX9_336 : Cond.methodLink "SmellAbbey" 336 yX1_considered ∈ ztb ∧ Cond.instanceMethod yX1_considered ∈ ztb ∧ Cond.selects yX1_considered.cls yX1_considered yX1_considered ∈ ztb := ⟨ztb_t (zt5 _ (List.mem_of_getElem? (i := 41) rfl)) rfl, ztb_t (zt4 _ (List.mem_of_getElem? (i := 207) rfl)) rfl, sX1_considered⟩
theorem sX5_keenOf : Cond.selects yX5_keenOf.cls yX5_keenOf yX5_keenOf ∈ ztb := ztb_t (zt3 _ (List.mem_of_getElem? (i := 231) rfl)) rfl
theorem gX9_340 : Cond.methodLink "SmellAbbey" 340 yX5_keenOf ∈ ztb ∧ Cond.instanceMethod yX5_keenOf ∈ ztb ∧ Cond.selects yX5_keenOf.cls yX5_keenOf yX5_keenOf ∈ ztb := ⟨ztb_t (zt3 _ (List.mem_of_getElem? (i := 229) rfl)) rfl, ztb_t (zt3 _ (List.mem_of_getElem? (i := 230) rfl)) rfl, sX5_keenOf⟩
theorem gX0_46 : Cond.methodLink "SmellAbbey$Laws" 46 yX0_multiplied ∈ ztb ∧ Cond.static yX0_multiplied ∈ ztb := ⟨ztb_t (zt3 _ (List.mem_of_getElem? (i := 191) rfl)) rfl, ztb_t (zt3 _ (List.mem_of_getElem? (i := 192) rfl)) rfl⟩
theorem gX0_50 : Cond.methodLink "SmellAbbey$Laws" 50 yX0_joined ∈ ztb ∧ Cond.static yX0_joined ∈ ztb := ⟨ztb_t (zt3 _ (List.mem_of_getElem? (i := 195) rfl)) rfl, ztb_t (zt3 _ (List.mem_of_getElem? (i := 196) rfl)) rfl⟩
theorem gX1_38 : Cond.methodLink "SmellAbbey$Notes" 38 yX1_considered ∈ ztb ∧ Cond.instanceMethod yX1_considered ∈ ztb ∧ Cond.selects yX1_considered.cls yX1_considered yX1_considered ∈ ztb := ⟨ztb_t (zt4 _ (List.mem_of_getElem? (i := 206) rfl)) rfl, ztb_t (zt4 _ (List.mem_of_getElem? (i := 207) rfl)) rfl, sX1_considered⟩
theorem sX1_counts : Cond.selects yX1_counts.cls yX1_counts yX1_counts ∈ ztb := zsel (q := (yX1_counts, 8)) (List.mem_of_getElem? (i := 40) rfl) rfl
theorem gX1_42 : Cond.methodLink "SmellAbbey$Notes" 42 yX1_counts ∈ ztb ∧ Cond.instanceMethod yX1_counts ∈ ztb ∧ Cond.selects yX1_counts.cls yX1_counts yX1_counts ∈ ztb := ⟨ztb_t (zt4 _ (List.mem_of_getElem? (i := 218) rfl)) rfl, ztb_t (zt4 _ (List.mem_of_getElem? (i := 220) rfl)) rfl, sX1_counts⟩
theorem sX7_clear : Cond.selects yX7_clear.cls yX7_clear yX7_clear ∈ ztb := ztb_t (zt2 _ (List.mem_of_getElem? (i := 230) rfl)) rfl
theorem gX3_36 : Cond.methodLink "SmellAbbey$Reader" 36 yX7_clear ∈ ztb ∧ Cond.instanceMethod yX7_clear ∈ ztb ∧ Cond.selects yX7_clear.cls yX7_clear yX7_clear ∈ ztb := ⟨ztb_t (zt2 _ (List.mem_of_getElem? (i := 228) rfl)) rfl, ztb_t (zt2 _ (List.mem_of_getElem? (i := 229) rfl)) rfl, sX7_clear⟩
theorem sX4_open : Cond.selects yX4_open.cls yX4_open yX4_open ∈ ztb := ztb_t (zt2 _ (List.mem_of_getElem? (i := 238) rfl)) rfl
theorem gX3_42 : Cond.methodLink "SmellAbbey$Reader" 42 yX4_open ∈ ztb ∧ Cond.instanceMethod yX4_open ∈ ztb ∧ Cond.selects yX4_open.cls yX4_open yX4_open ∈ ztb := ⟨ztb_t (zt2 _ (List.mem_of_getElem? (i := 236) rfl)) rfl, ztb_t (zt2 _ (List.mem_of_getElem? (i := 237) rfl)) rfl, sX4_open⟩
theorem sX3_stuffLine : Cond.selects yX3_stuffLine.cls yX3_stuffLine yX3_stuffLine ∈ ztb := zsel (q := (yX3_stuffLine, 9)) (List.mem_of_getElem? (i := 5) rfl) rfl
theorem gX3_54 : Cond.methodLink "SmellAbbey$Reader" 54 yX3_stuffLine ∈ ztb ∧ Cond.instanceMethod yX3_stuffLine ∈ ztb ∧ Cond.selects yX3_stuffLine.cls yX3_stuffLine yX3_stuffLine ∈ ztb := ⟨ztb_t (zt3 _ (List.mem_of_getElem? (i := 38) rfl)) rfl, ztb_t (zt3 _ (List.mem_of_getElem? (i := 40) rfl)) rfl, sX3_stuffLine⟩
theorem sX3_dayLine : Cond.selects yX3_dayLine.cls yX3_dayLine yX3_dayLine ∈ ztb := zsel (q := (yX3_dayLine, 9)) (List.mem_of_getElem? (i := 10) rfl) rfl
theorem gX3_58 : Cond.methodLink "SmellAbbey$Reader" 58 yX3_dayLine ∈ ztb ∧ Cond.instanceMethod yX3_dayLine ∈ ztb ∧ Cond.selects yX3_dayLine.cls yX3_dayLine yX3_dayLine ∈ ztb := ⟨ztb_t (zt3 _ (List.mem_of_getElem? (i := 65) rfl)) rfl, ztb_t (zt3 _ (List.mem_of_getElem? (i := 67) rfl)) rfl, sX3_dayLine⟩
theorem sX3_mixLine : Cond.selects yX3_mixLine.cls yX3_mixLine yX3_mixLine ∈ ztb := zsel (q := (yX3_mixLine, 9)) (List.mem_of_getElem? (i := 11) rfl) rfl
theorem gX3_61 : Cond.methodLink "SmellAbbey$Reader" 61 yX3_mixLine ∈ ztb ∧ Cond.instanceMethod yX3_mixLine ∈ ztb ∧ Cond.selects yX3_mixLine.cls yX3_mixLine yX3_mixLine ∈ ztb := ⟨ztb_t (zt3 _ (List.mem_of_getElem? (i := 69) rfl)) rfl, ztb_t (zt3 _ (List.mem_of_getElem? (i := 71) rfl)) rfl, sX3_mixLine⟩
theorem sX3_roomLine : Cond.selects yX3_roomLine.cls yX3_roomLine yX3_roomLine ∈ ztb := zsel (q := (yX3_roomLine, 9)) (List.mem_of_getElem? (i := 13) rfl) rfl
theorem gX3_64 : Cond.methodLink "SmellAbbey$Reader" 64 yX3_roomLine ∈ ztb ∧ Cond.instanceMethod yX3_roomLine ∈ ztb ∧ Cond.selects yX3_roomLine.cls yX3_roomLine yX3_roomLine ∈ ztb := ⟨ztb_t (zt3 _ (List.mem_of_getElem? (i := 77) rfl)) rfl, ztb_t (zt3 _ (List.mem_of_getElem? (i := 79) rfl)) rfl, sX3_roomLine⟩
theorem sX3_monkLine : Cond.selects yX3_monkLine.cls yX3_monkLine yX3_monkLine ∈ ztb := zsel (q := (yX3_monkLine, 9)) (List.mem_of_getElem? (i := 14) rfl) rfl
theorem gX3_67 : Cond.methodLink "SmellAbbey$Reader" 67 yX3_monkLine ∈ ztb ∧ Cond.instanceMethod yX3_monkLine ∈ ztb ∧ Cond.selects yX3_monkLine.cls yX3_monkLine yX3_monkLine ∈ ztb := ⟨ztb_t (zt3 _ (List.mem_of_getElem? (i := 81) rfl)) rfl, ztb_t (zt3 _ (List.mem_of_getElem? (i := 83) rfl)) rfl, sX3_monkLine⟩
theorem sX3_lingerLine : Cond.selects yX3_lingerLine.cls yX3_lingerLine yX3_lingerLine ∈ ztb := zsel (q := (yX3_lingerLine, 9)) (List.mem_of_getElem? (i := 15) rfl) rfl
theorem gX3_70 : Cond.methodLink "SmellAbbey$Reader" 70 yX3_lingerLine ∈ ztb ∧ Cond.instanceMethod yX3_lingerLine ∈ ztb ∧ Cond.selects yX3_lingerLine.cls yX3_lingerLine yX3_lingerLine ∈ ztb := ⟨ztb_t (zt3 _ (List.mem_of_getElem? (i := 85) rfl)) rfl, ztb_t (zt3 _ (List.mem_of_getElem? (i := 87) rfl)) rfl, sX3_lingerLine⟩
theorem sX3_seedLine : Cond.selects yX3_seedLine.cls yX3_seedLine yX3_seedLine ∈ ztb := zsel (q := (yX3_seedLine, 9)) (List.mem_of_getElem? (i := 16) rfl) rfl
theorem gX3_73 : Cond.methodLink "SmellAbbey$Reader" 73 yX3_seedLine ∈ ztb ∧ Cond.instanceMethod yX3_seedLine ∈ ztb ∧ Cond.selects yX3_seedLine.cls yX3_seedLine yX3_seedLine ∈ ztb := ⟨ztb_t (zt3 _ (List.mem_of_getElem? (i := 89) rfl)) rfl, ztb_t (zt3 _ (List.mem_of_getElem? (i := 91) rfl)) rfl, sX3_seedLine⟩
theorem sX3_lawLine : Cond.selects yX3_lawLine.cls yX3_lawLine yX3_lawLine ∈ ztb := zsel (q := (yX3_lawLine, 9)) (List.mem_of_getElem? (i := 17) rfl) rfl
theorem gX3_76 : Cond.methodLink "SmellAbbey$Reader" 76 yX3_lawLine ∈ ztb ∧ Cond.instanceMethod yX3_lawLine ∈ ztb ∧ Cond.selects yX3_lawLine.cls yX3_lawLine yX3_lawLine ∈ ztb := ⟨ztb_t (zt3 _ (List.mem_of_getElem? (i := 94) rfl)) rfl, ztb_t (zt3 _ (List.mem_of_getElem? (i := 96) rfl)) rfl, sX3_lawLine⟩
theorem sX3_wrong : Cond.selects yX3_wrong.cls yX3_wrong yX3_wrong ∈ ztb := zsel (q := (yX3_wrong, 9)) (List.mem_of_getElem? (i := 7) rfl) rfl
theorem gX3_79 : Cond.methodLink "SmellAbbey$Reader" 79 yX3_wrong ∈ ztb ∧ Cond.instanceMethod yX3_wrong ∈ ztb ∧ Cond.selects yX3_wrong.cls yX3_wrong yX3_wrong ∈ ztb := ⟨ztb_t (zt3 _ (List.mem_of_getElem? (i := 48) rfl)) rfl, ztb_t (zt3 _ (List.mem_of_getElem? (i := 50) rfl)) rfl, sX3_wrong⟩
theorem sX3_newName : Cond.selects yX3_newName.cls yX3_newName yX3_newName ∈ ztb := zsel (q := (yX3_newName, 9)) (List.mem_of_getElem? (i := 6) rfl) rfl
theorem gX3_83 : Cond.methodLink "SmellAbbey$Reader" 83 yX3_newName ∈ ztb ∧ Cond.instanceMethod yX3_newName ∈ ztb ∧ Cond.selects yX3_newName.cls yX3_newName yX3_newName ∈ ztb := ⟨ztb_t (zt3 _ (List.mem_of_getElem? (i := 42) rfl)) rfl, ztb_t (zt3 _ (List.mem_of_getElem? (i := 44) rfl)) rfl, sX3_newName⟩
theorem sX3_readNumber : Cond.selects yX3_readNumber.cls yX3_readNumber yX3_readNumber ∈ ztb := zsel (q := (yX3_readNumber, 9)) (List.mem_of_getElem? (i := 8) rfl) rfl
theorem gX3_86 : Cond.methodLink "SmellAbbey$Reader" 86 yX3_readNumber ∈ ztb ∧ Cond.instanceMethod yX3_readNumber ∈ ztb ∧ Cond.selects yX3_readNumber.cls yX3_readNumber yX3_readNumber ∈ ztb := ⟨ztb_t (zt3 _ (List.mem_of_getElem? (i := 57) rfl)) rfl, ztb_t (zt3 _ (List.mem_of_getElem? (i := 59) rfl)) rfl, sX3_readNumber⟩
theorem sX3_readStop : Cond.selects yX3_readStop.cls yX3_readStop yX3_readStop ∈ ztb := zsel (q := (yX3_readStop, 9)) (List.mem_of_getElem? (i := 9) rfl) rfl
theorem gX3_93 : Cond.methodLink "SmellAbbey$Reader" 93 yX3_readStop ∈ ztb ∧ Cond.instanceMethod yX3_readStop ∈ ztb ∧ Cond.selects yX3_readStop.cls yX3_readStop yX3_readStop ∈ ztb := ⟨ztb_t (zt3 _ (List.mem_of_getElem? (i := 61) rfl)) rfl, ztb_t (zt3 _ (List.mem_of_getElem? (i := 63) rfl)) rfl, sX3_readStop⟩
theorem sX4_advance : Cond.selects yX4_advance.cls yX4_advance yX4_advance ∈ ztb := ztb_t (zt3 _ (List.mem_of_getElem? (i := 5) rfl)) rfl
theorem gX3_100 : Cond.methodLink "SmellAbbey$Reader" 100 yX4_advance ∈ ztb ∧ Cond.instanceMethod yX4_advance ∈ ztb ∧ Cond.selects yX4_advance.cls yX4_advance yX4_advance ∈ ztb := ⟨ztb_t (zt3 _ (List.mem_of_getElem? (i := 52) rfl)) rfl, ztb_t (zt3 _ (List.mem_of_getElem? (i := 4) rfl)) rfl, sX4_advance⟩
theorem sX3_toldName : Cond.selects yX3_toldName.cls yX3_toldName yX3_toldName ∈ ztb := zsel (q := (yX3_toldName, 9)) (List.mem_of_getElem? (i := 12) rfl) rfl
theorem gX3_106 : Cond.methodLink "SmellAbbey$Reader" 106 yX3_toldName ∈ ztb ∧ Cond.instanceMethod yX3_toldName ∈ ztb ∧ Cond.selects yX3_toldName.cls yX3_toldName yX3_toldName ∈ ztb := ⟨ztb_t (zt3 _ (List.mem_of_getElem? (i := 73) rfl)) rfl, ztb_t (zt3 _ (List.mem_of_getElem? (i := 75) rfl)) rfl, sX3_toldName⟩
theorem sX0_isTold : Cond.selects yX0_isTold.cls yX0_isTold yX0_isTold ∈ ztb := ztb_t (zt3 _ (List.mem_of_getElem? (i := 100) rfl)) rfl
theorem gX3_137 : Cond.methodLink "SmellAbbey$Reader" 137 yX0_isTold ∈ ztb ∧ Cond.instanceMethod yX0_isTold ∈ ztb ∧ Cond.selects yX0_isTold.cls yX0_isTold yX0_isTold ∈ ztb := ⟨ztb_t (zt3 _ (List.mem_of_getElem? (i := 98) rfl)) rfl, ztb_t (zt3 _ (List.mem_of_getElem? (i := 99) rfl)) rfl, sX0_isTold⟩
theorem sX0_begin : Cond.selects yX0_begin.cls yX0_begin yX0_begin ∈ ztb := ztb_t (zt3 _ (List.mem_of_getElem? (i := 104) rfl)) rfl
theorem gX3_143 : Cond.methodLink "SmellAbbey$Reader" 143 yX0_begin ∈ ztb ∧ Cond.instanceMethod yX0_begin ∈ ztb ∧ Cond.selects yX0_begin.cls yX0_begin yX0_begin ∈ ztb := ⟨ztb_t (zt3 _ (List.mem_of_getElem? (i := 102) rfl)) rfl, ztb_t (zt3 _ (List.mem_of_getElem? (i := 103) rfl)) rfl, sX0_begin⟩
theorem sX3_readFormula : Cond.selects yX3_readFormula.cls yX3_readFormula yX3_readFormula ∈ ztb := zsel (q := (yX3_readFormula, 9)) (List.mem_of_getElem? (i := 18) rfl) rfl
theorem gX3_147 : Cond.methodLink "SmellAbbey$Reader" 147 yX3_readFormula ∈ ztb ∧ Cond.instanceMethod yX3_readFormula ∈ ztb ∧ Cond.selects yX3_readFormula.cls yX3_readFormula yX3_readFormula ∈ ztb := ⟨ztb_t (zt3 _ (List.mem_of_getElem? (i := 106) rfl)) rfl, ztb_t (zt3 _ (List.mem_of_getElem? (i := 108) rfl)) rfl, sX3_readFormula⟩
theorem sX0_end : Cond.selects yX0_end.cls yX0_end yX0_end ∈ ztb := ztb_t (zt3 _ (List.mem_of_getElem? (i := 143) rfl)) rfl
theorem gX3_150 : Cond.methodLink "SmellAbbey$Reader" 150 yX0_end ∈ ztb ∧ Cond.instanceMethod yX0_end ∈ ztb ∧ Cond.selects yX0_end.cls yX0_end yX0_end ∈ ztb := ⟨ztb_t (zt3 _ (List.mem_of_getElem? (i := 141) rfl)) rfl, ztb_t (zt3 _ (List.mem_of_getElem? (i := 142) rfl)) rfl, sX0_end⟩
theorem gX3_162 : Cond.methodLink "SmellAbbey$Reader" 162 yX7_numberOf ∈ ztb ∧ Cond.instanceMethod yX7_numberOf ∈ ztb ∧ Cond.selects yX7_numberOf.cls yX7_numberOf yX7_numberOf ∈ ztb := ⟨ztb_t (zt3 _ (List.mem_of_getElem? (i := 53) rfl)) rfl, ztb_t (zt3 _ (List.mem_of_getElem? (i := 54) rfl)) rfl, sX7_numberOf⟩
theorem sX3_settle : Cond.selects yX3_settle.cls yX3_settle yX3_settle ∈ ztb := zsel (q := (yX3_settle, 9)) (List.mem_of_getElem? (i := 19) rfl) rfl
theorem gX3_180 : Cond.methodLink "SmellAbbey$Reader" 180 yX3_settle ∈ ztb ∧ Cond.instanceMethod yX3_settle ∈ ztb ∧ Cond.selects yX3_settle.cls yX3_settle yX3_settle ∈ ztb := ⟨ztb_t (zt3 _ (List.mem_of_getElem? (i := 110) rfl)) rfl, ztb_t (zt3 _ (List.mem_of_getElem? (i := 112) rfl)) rfl, sX3_settle⟩
theorem sX3_readValue : Cond.selects yX3_readValue.cls yX3_readValue yX3_readValue ∈ ztb := zsel (q := (yX3_readValue, 9)) (List.mem_of_getElem? (i := 21) rfl) rfl
theorem gX3_183 : Cond.methodLink "SmellAbbey$Reader" 183 yX3_readValue ∈ ztb ∧ Cond.instanceMethod yX3_readValue ∈ ztb ∧ Cond.selects yX3_readValue.cls yX3_readValue yX3_readValue ∈ ztb := ⟨ztb_t (zt3 _ (List.mem_of_getElem? (i := 122) rfl)) rfl, ztb_t (zt3 _ (List.mem_of_getElem? (i := 124) rfl)) rfl, sX3_readValue⟩
theorem sX3_readSign : Cond.selects yX3_readSign.cls yX3_readSign yX3_readSign ∈ ztb := zsel (q := (yX3_readSign, 9)) (List.mem_of_getElem? (i := 23) rfl) rfl
theorem gX3_186 : Cond.methodLink "SmellAbbey$Reader" 186 yX3_readSign ∈ ztb ∧ Cond.instanceMethod yX3_readSign ∈ ztb ∧ Cond.selects yX3_readSign.cls yX3_readSign yX3_readSign ∈ ztb := ⟨ztb_t (zt3 _ (List.mem_of_getElem? (i := 137) rfl)) rfl, ztb_t (zt3 _ (List.mem_of_getElem? (i := 139) rfl)) rfl, sX3_readSign⟩
theorem sX3_putOff : Cond.selects yX3_putOff.cls yX3_putOff yX3_putOff ∈ ztb := zsel (q := (yX3_putOff, 9)) (List.mem_of_getElem? (i := 22) rfl) rfl
theorem gX3_189 : Cond.methodLink "SmellAbbey$Reader" 189 yX3_putOff ∈ ztb ∧ Cond.instanceMethod yX3_putOff ∈ ztb ∧ Cond.selects yX3_putOff.cls yX3_putOff yX3_putOff ∈ ztb := ⟨ztb_t (zt3 _ (List.mem_of_getElem? (i := 126) rfl)) rfl, ztb_t (zt3 _ (List.mem_of_getElem? (i := 128) rfl)) rfl, sX3_putOff⟩
theorem sX3_topStrength : Cond.selects yX3_topStrength.cls yX3_topStrength yX3_topStrength ∈ ztb := zsel (q := (yX3_topStrength, 9)) (List.mem_of_getElem? (i := 20) rfl) rfl
theorem gX3_192 : Cond.methodLink "SmellAbbey$Reader" 192 yX3_topStrength ∈ ztb ∧ Cond.instanceMethod yX3_topStrength ∈ ztb ∧ Cond.selects yX3_topStrength.cls yX3_topStrength yX3_topStrength ∈ ztb := ⟨ztb_t (zt3 _ (List.mem_of_getElem? (i := 114) rfl)) rfl, ztb_t (zt3 _ (List.mem_of_getElem? (i := 116) rfl)) rfl, sX3_topStrength⟩
theorem gX3_195 : Cond.methodLink "SmellAbbey$Reader" 195 yX6_strength ∈ ztb ∧ Cond.static yX6_strength ∈ ztb := ⟨ztb_t (zt3 _ (List.mem_of_getElem? (i := 130) rfl)) rfl, ztb_t (zt3 _ (List.mem_of_getElem? (i := 131) rfl)) rfl⟩
theorem sX0_addKnot : Cond.selects yX0_addKnot.cls yX0_addKnot yX0_addKnot ∈ ztb := ztb_t (zt3 _ (List.mem_of_getElem? (i := 135) rfl)) rfl
theorem gX3_198 : Cond.methodLink "SmellAbbey$Reader" 198 yX0_addKnot ∈ ztb ∧ Cond.instanceMethod yX0_addKnot ∈ ztb ∧ Cond.selects yX0_addKnot.cls yX0_addKnot yX0_addKnot ∈ ztb := ⟨ztb_t (zt3 _ (List.mem_of_getElem? (i := 133) rfl)) rfl, ztb_t (zt3 _ (List.mem_of_getElem? (i := 134) rfl)) rfl, sX0_addKnot⟩
theorem sX0_append : Cond.selects yX0_append.cls yX0_append yX0_append ∈ ztb := ztb_t (zt3 _ (List.mem_of_getElem? (i := 120) rfl)) rfl
theorem gX3_202 : Cond.methodLink "SmellAbbey$Reader" 202 yX0_append ∈ ztb ∧ Cond.instanceMethod yX0_append ∈ ztb ∧ Cond.selects yX0_append.cls yX0_append yX0_append ∈ ztb := ⟨ztb_t (zt3 _ (List.mem_of_getElem? (i := 118) rfl)) rfl, ztb_t (zt3 _ (List.mem_of_getElem? (i := 119) rfl)) rfl, sX0_append⟩
theorem gX4_43 : Cond.methodLink "SmellAbbey$Scanner" 43 yX4_advance ∈ ztb ∧ Cond.instanceMethod yX4_advance ∈ ztb ∧ Cond.selects yX4_advance.cls yX4_advance yX4_advance ∈ ztb := ⟨ztb_t (zt3 _ (List.mem_of_getElem? (i := 3) rfl)) rfl, ztb_t (zt3 _ (List.mem_of_getElem? (i := 4) rfl)) rfl, sX4_advance⟩
theorem gX4_52 : Cond.methodLink "SmellAbbey$Scanner" 52 yX4_isLetter ∈ ztb ∧ Cond.static yX4_isLetter ∈ ztb := ⟨ztb_t (zt3 _ (List.mem_of_getElem? (i := 7) rfl)) rfl, ztb_t (zt3 _ (List.mem_of_getElem? (i := 8) rfl)) rfl⟩
theorem sX4_readWord : Cond.selects yX4_readWord.cls yX4_readWord yX4_readWord ∈ ztb := zsel (q := (yX4_readWord, 8)) (List.mem_of_getElem? (i := 1) rfl) rfl
theorem gX4_56 : Cond.methodLink "SmellAbbey$Scanner" 56 yX4_readWord ∈ ztb ∧ Cond.instanceMethod yX4_readWord ∈ ztb ∧ Cond.selects yX4_readWord.cls yX4_readWord yX4_readWord ∈ ztb := ⟨ztb_t (zt3 _ (List.mem_of_getElem? (i := 10) rfl)) rfl, ztb_t (zt3 _ (List.mem_of_getElem? (i := 12) rfl)) rfl, sX4_readWord⟩
theorem gX4_59 : Cond.methodLink "SmellAbbey$Scanner" 59 yX4_isDigit ∈ ztb ∧ Cond.static yX4_isDigit ∈ ztb := ⟨ztb_t (zt3 _ (List.mem_of_getElem? (i := 14) rfl)) rfl, ztb_t (zt3 _ (List.mem_of_getElem? (i := 15) rfl)) rfl⟩
theorem sX4_readNumber : Cond.selects yX4_readNumber.cls yX4_readNumber yX4_readNumber ∈ ztb := zsel (q := (yX4_readNumber, 8)) (List.mem_of_getElem? (i := 2) rfl) rfl
theorem gX4_62 : Cond.methodLink "SmellAbbey$Scanner" 62 yX4_readNumber ∈ ztb ∧ Cond.instanceMethod yX4_readNumber ∈ ztb ∧ Cond.selects yX4_readNumber.cls yX4_readNumber yX4_readNumber ∈ ztb := ⟨ztb_t (zt3 _ (List.mem_of_getElem? (i := 17) rfl)) rfl, ztb_t (zt3 _ (List.mem_of_getElem? (i := 19) rfl)) rfl, sX4_readNumber⟩
theorem sX4_signOf : Cond.selects yX4_signOf.cls yX4_signOf yX4_signOf ∈ ztb := zsel (q := (yX4_signOf, 8)) (List.mem_of_getElem? (i := 3) rfl) rfl
theorem gX4_65 : Cond.methodLink "SmellAbbey$Scanner" 65 yX4_signOf ∈ ztb ∧ Cond.instanceMethod yX4_signOf ∈ ztb ∧ Cond.selects yX4_signOf.cls yX4_signOf yX4_signOf ∈ ztb := ⟨ztb_t (zt3 _ (List.mem_of_getElem? (i := 22) rfl)) rfl, ztb_t (zt3 _ (List.mem_of_getElem? (i := 24) rfl)) rfl, sX4_signOf⟩
theorem sX4_takes : Cond.selects yX4_takes.cls yX4_takes yX4_takes ∈ ztb := zsel (q := (yX4_takes, 8)) (List.mem_of_getElem? (i := 4) rfl) rfl
theorem gX4_76 : Cond.methodLink "SmellAbbey$Scanner" 76 yX4_takes ∈ ztb ∧ Cond.instanceMethod yX4_takes ∈ ztb ∧ Cond.selects yX4_takes.cls yX4_takes yX4_takes ∈ ztb := ⟨ztb_t (zt3 _ (List.mem_of_getElem? (i := 26) rfl)) rfl, ztb_t (zt3 _ (List.mem_of_getElem? (i := 28) rfl)) rfl, sX4_takes⟩
theorem gX5_52 : Cond.methodLink "SmellAbbey$State" 52 yX5_clearAir ∈ ztb ∧ Cond.instanceMethod yX5_clearAir ∈ ztb ∧ Cond.selects yX5_clearAir.cls yX5_clearAir yX5_clearAir ∈ ztb := ⟨ztb_t (zt2 _ (List.mem_of_getElem? (i := 165) rfl)) rfl, ztb_t (zt2 _ (List.mem_of_getElem? (i := 166) rfl)) rfl, sX5_clearAir⟩
theorem gX5_77 : Cond.methodLink "SmellAbbey$State" 77 yX5_takeOut ∈ ztb ∧ Cond.instanceMethod yX5_takeOut ∈ ztb ∧ Cond.selects yX5_takeOut.cls yX5_takeOut yX5_takeOut ∈ ztb := ⟨ztb_t (zt4 _ (List.mem_of_getElem? (i := 48) rfl)) rfl, ztb_t (zt4 _ (List.mem_of_getElem? (i := 49) rfl)) rfl, sX5_takeOut⟩
theorem sX5_drift : Cond.selects yX5_drift.cls yX5_drift yX5_drift ∈ ztb := zsel (q := (yX5_drift, 15)) (List.mem_of_getElem? (i := 27) rfl) rfl
theorem gX5_81 : Cond.methodLink "SmellAbbey$State" 81 yX5_drift ∈ ztb ∧ Cond.instanceMethod yX5_drift ∈ ztb ∧ Cond.selects yX5_drift.cls yX5_drift yX5_drift ∈ ztb := ⟨ztb_t (zt4 _ (List.mem_of_getElem? (i := 57) rfl)) rfl, ztb_t (zt4 _ (List.mem_of_getElem? (i := 59) rfl)) rfl, sX5_drift⟩
theorem gX5_84 : Cond.methodLink "SmellAbbey$State" 84 yX5_keenOf ∈ ztb ∧ Cond.instanceMethod yX5_keenOf ∈ ztb ∧ Cond.selects yX5_keenOf.cls yX5_keenOf yX5_keenOf ∈ ztb := ⟨ztb_t (zt4 _ (List.mem_of_getElem? (i := 62) rfl)) rfl, ztb_t (zt3 _ (List.mem_of_getElem? (i := 230) rfl)) rfl, sX5_keenOf⟩
theorem sX5_smellAndThink : Cond.selects yX5_smellAndThink.cls yX5_smellAndThink yX5_smellAndThink ∈ ztb := zsel (q := (yX5_smellAndThink, 15)) (List.mem_of_getElem? (i := 28) rfl) rfl
theorem gX5_88 : Cond.methodLink "SmellAbbey$State" 88 yX5_smellAndThink ∈ ztb ∧ Cond.instanceMethod yX5_smellAndThink ∈ ztb ∧ Cond.selects yX5_smellAndThink.cls yX5_smellAndThink yX5_smellAndThink ∈ ztb := ⟨ztb_t (zt4 _ (List.mem_of_getElem? (i := 63) rfl)) rfl, ztb_t (zt4 _ (List.mem_of_getElem? (i := 65) rfl)) rfl, sX5_smellAndThink⟩
theorem sX5_vote : Cond.selects yX5_vote.cls yX5_vote yX5_vote ∈ ztb := zsel (q := (yX5_vote, 15)) (List.mem_of_getElem? (i := 29) rfl) rfl
theorem gX5_92 : Cond.methodLink "SmellAbbey$State" 92 yX5_vote ∈ ztb ∧ Cond.instanceMethod yX5_vote ∈ ztb ∧ Cond.selects yX5_vote.cls yX5_vote yX5_vote ∈ ztb := ⟨ztb_t (zt4 _ (List.mem_of_getElem? (i := 68) rfl)) rfl, ztb_t (zt4 _ (List.mem_of_getElem? (i := 70) rfl)) rfl, sX5_vote⟩
theorem gX5_95 : Cond.methodLink "SmellAbbey$State" 95 yX7_mixedOn ∈ ztb ∧ Cond.instanceMethod yX7_mixedOn ∈ ztb ∧ Cond.selects yX7_mixedOn.cls yX7_mixedOn yX7_mixedOn ∈ ztb := ⟨ztb_t (zt4 _ (List.mem_of_getElem? (i := 52) rfl)) rfl, ztb_t (zt4 _ (List.mem_of_getElem? (i := 53) rfl)) rfl, sX7_mixedOn⟩
theorem gX5_104 : Cond.methodLink "SmellAbbey$State" 104 yX5_airLaw ∈ ztb ∧ Cond.instanceMethod yX5_airLaw ∈ ztb ∧ Cond.selects yX5_airLaw.cls yX5_airLaw yX5_airLaw ∈ ztb := ⟨ztb_t (zt4 _ (List.mem_of_getElem? (i := 61) rfl)) rfl, ztb_t (zt4 _ (List.mem_of_getElem? (i := 10) rfl)) rfl, sX5_airLaw⟩
theorem gX5_113 : Cond.methodLink "SmellAbbey$State" 113 yX5_within ∈ ztb ∧ Cond.static yX5_within ∈ ztb := ⟨ztb_t (zt3 _ (List.mem_of_getElem? (i := 200) rfl)) rfl, ztb_t (zt3 _ (List.mem_of_getElem? (i := 201) rfl)) rfl⟩
theorem gX5_117 : Cond.methodLink "SmellAbbey$State" 117 yX7_smelt ∈ ztb ∧ Cond.instanceMethod yX7_smelt ∈ ztb ∧ Cond.selects yX7_smelt.cls yX7_smelt yX7_smelt ∈ ztb := ⟨ztb_t (zt4 _ (List.mem_of_getElem? (i := 1) rfl)) rfl, ztb_t (zt4 _ (List.mem_of_getElem? (i := 2) rfl)) rfl, sX7_smelt⟩
theorem gX5_121 : Cond.methodLink "SmellAbbey$State" 121 yX5_markOf ∈ ztb ∧ Cond.instanceMethod yX5_markOf ∈ ztb ∧ Cond.selects yX5_markOf.cls yX5_markOf yX5_markOf ∈ ztb := ⟨ztb_t (zt4 _ (List.mem_of_getElem? (i := 67) rfl)) rfl, ztb_t (zt3 _ (List.mem_of_getElem? (i := 238) rfl)) rfl, sX5_markOf⟩
theorem sX5_mostThought : Cond.selects yX5_mostThought.cls yX5_mostThought yX5_mostThought ∈ ztb := zsel (q := (yX5_mostThought, 15)) (List.mem_of_getElem? (i := 30) rfl) rfl
theorem gX5_125 : Cond.methodLink "SmellAbbey$State" 125 yX5_mostThought ∈ ztb ∧ Cond.instanceMethod yX5_mostThought ∈ ztb ∧ Cond.selects yX5_mostThought.cls yX5_mostThought yX5_mostThought ∈ ztb := ⟨ztb_t (zt4 _ (List.mem_of_getElem? (i := 72) rfl)) rfl, ztb_t (zt4 _ (List.mem_of_getElem? (i := 74) rfl)) rfl, sX5_mostThought⟩
theorem sX0_setNames : Cond.selects yX0_setNames.cls yX0_setNames yX0_setNames ∈ ztb := ztb_t (zt3 _ (List.mem_of_getElem? (i := 184) rfl)) rfl
theorem gX5_140 : Cond.methodLink "SmellAbbey$State" 140 yX0_setNames ∈ ztb ∧ Cond.instanceMethod yX0_setNames ∈ ztb ∧ Cond.selects yX0_setNames.cls yX0_setNames yX0_setNames ∈ ztb := ⟨ztb_t (zt3 _ (List.mem_of_getElem? (i := 182) rfl)) rfl, ztb_t (zt3 _ (List.mem_of_getElem? (i := 183) rfl)) rfl, sX0_setNames⟩
theorem sX0_workOut : Cond.selects yX0_workOut.cls yX0_workOut yX0_workOut ∈ ztb := ztb_t (zt3 _ (List.mem_of_getElem? (i := 188) rfl)) rfl
theorem gX5_146 : Cond.methodLink "SmellAbbey$State" 146 yX0_workOut ∈ ztb ∧ Cond.instanceMethod yX0_workOut ∈ ztb ∧ Cond.selects yX0_workOut.cls yX0_workOut yX0_workOut ∈ ztb := ⟨ztb_t (zt3 _ (List.mem_of_getElem? (i := 186) rfl)) rfl, ztb_t (zt3 _ (List.mem_of_getElem? (i := 187) rfl)) rfl, sX0_workOut⟩
theorem gX5_153 : Cond.methodLink "SmellAbbey$State" 153 yX5_keenLaw ∈ ztb ∧ Cond.instanceMethod yX5_keenLaw ∈ ztb ∧ Cond.selects yX5_keenLaw.cls yX5_keenLaw yX5_keenLaw ∈ ztb := ⟨ztb_t (zt3 _ (List.mem_of_getElem? (i := 233) rfl)) rfl, ztb_t (zt3 _ (List.mem_of_getElem? (i := 234) rfl)) rfl, sX5_keenLaw⟩
theorem gX5_157 : Cond.methodLink "SmellAbbey$State" 157 yX5_worthLaw ∈ ztb ∧ Cond.instanceMethod yX5_worthLaw ∈ ztb ∧ Cond.selects yX5_worthLaw.cls yX5_worthLaw yX5_worthLaw ∈ ztb := ⟨ztb_t (zt3 _ (List.mem_of_getElem? (i := 178) rfl)) rfl, ztb_t (zt3 _ (List.mem_of_getElem? (i := 179) rfl)) rfl, sX5_worthLaw⟩
theorem sX0_clear : Cond.selects yX0_clear.cls yX0_clear yX0_clear ∈ ztb := ztb_t (zt2 _ (List.mem_of_getElem? (i := 234) rfl)) rfl
theorem gX7_46 : Cond.methodLink "SmellAbbey$Told" 46 yX0_clear ∈ ztb ∧ Cond.instanceMethod yX0_clear ∈ ztb ∧ Cond.selects yX0_clear.cls yX0_clear yX0_clear ∈ ztb := ⟨ztb_t (zt2 _ (List.mem_of_getElem? (i := 232) rfl)) rfl, ztb_t (zt2 _ (List.mem_of_getElem? (i := 233) rfl)) rfl, sX0_clear⟩
theorem sX8_forgetOldest : Cond.selects yX8_forgetOldest.cls yX8_forgetOldest yX8_forgetOldest ∈ ztb := zsel (q := (yX8_forgetOldest, 4)) (List.mem_of_getElem? (i := 26) rfl) rfl
theorem gX8_25 : Cond.methodLink "SmellAbbey$Undoing" 25 yX8_forgetOldest ∈ ztb ∧ Cond.instanceMethod yX8_forgetOldest ∈ ztb ∧ Cond.selects yX8_forgetOldest.cls yX8_forgetOldest yX8_forgetOldest ∈ ztb := ⟨ztb_t (zt4 _ (List.mem_of_getElem? (i := 24) rfl)) rfl, ztb_t (zt4 _ (List.mem_of_getElem? (i := 26) rfl)) rfl, sX8_forgetOldest⟩
theorem sX9_monk : Cond.selects yX9_monk.cls yX9_monk yX9_monk ∈ ztb := ztb_t (zt5 _ (List.mem_of_getElem? (i := 49) rfl)) rfl
theorem gL_7 : Cond.methodLink "SmellAbbeyLaw" 7 yX9_monk ∈ ztb ∧ Cond.instanceMethod yX9_monk ∈ ztb ∧ Cond.selects yX9_monk.cls yX9_monk yX9_monk ∈ ztb := ⟨ztb_t (zt5 _ (List.mem_of_getElem? (i := 47) rfl)) rfl, ztb_t (zt5 _ (List.mem_of_getElem? (i := 48) rfl)) rfl, sX9_monk⟩
theorem sX9_feed : Cond.selects yX9_feed.cls yX9_feed yX9_feed ∈ ztb := ztb_t (zt2 _ (List.mem_of_getElem? (i := 214) rfl)) rfl
theorem gL_21 : Cond.methodLink "SmellAbbeyLaw" 21 yX9_feed ∈ ztb ∧ Cond.instanceMethod yX9_feed ∈ ztb ∧ Cond.selects yX9_feed.cls yX9_feed yX9_feed ∈ ztb := ⟨ztb_t (zt2 _ (List.mem_of_getElem? (i := 212) rfl)) rfl, ztb_t (zt2 _ (List.mem_of_getElem? (i := 213) rfl)) rfl, sX9_feed⟩
theorem sX10_feed : Cond.selects yX10_feed.cls yX10_feed yX10_feed ∈ ztb := ztb_t (zt6 _ (List.mem_of_getElem? (i := 118) rfl)) rfl
theorem gL_25 : Cond.methodLink "SmellAbbeyLaw" 25 yX10_feed ∈ ztb ∧ Cond.instanceMethod yX10_feed ∈ ztb ∧ Cond.selects yX10_feed.cls yX10_feed yX10_feed ∈ ztb := ⟨ztb_t (zt6 _ (List.mem_of_getElem? (i := 116) rfl)) rfl, ztb_t (zt6 _ (List.mem_of_getElem? (i := 117) rfl)) rfl, sX10_feed⟩
theorem sX9_text : Cond.selects yX9_text.cls yX9_text yX9_text ∈ ztb := ztb_t (zt2 _ (List.mem_of_getElem? (i := 222) rfl)) rfl
theorem gL_26 : Cond.methodLink "SmellAbbeyLaw" 26 yX9_text ∈ ztb ∧ Cond.instanceMethod yX9_text ∈ ztb ∧ Cond.selects yX9_text.cls yX9_text yX9_text ∈ ztb := ⟨ztb_t (zt2 _ (List.mem_of_getElem? (i := 220) rfl)) rfl, ztb_t (zt2 _ (List.mem_of_getElem? (i := 221) rfl)) rfl, sX9_text⟩
theorem sX10_text : Cond.selects yX10_text.cls yX10_text yX10_text ∈ ztb := ztb_t (zt6 _ (List.mem_of_getElem? (i := 122) rfl)) rfl
theorem gL_30 : Cond.methodLink "SmellAbbeyLaw" 30 yX10_text ∈ ztb ∧ Cond.instanceMethod yX10_text ∈ ztb ∧ Cond.selects yX10_text.cls yX10_text yX10_text ∈ ztb := ⟨ztb_t (zt6 _ (List.mem_of_getElem? (i := 120) rfl)) rfl, ztb_t (zt6 _ (List.mem_of_getElem? (i := 121) rfl)) rfl, sX10_text⟩
theorem sX9_fault : Cond.selects yX9_fault.cls yX9_fault yX9_fault ∈ ztb := ztb_t (zt3 _ (List.mem_of_getElem? (i := 159) rfl)) rfl
theorem gL_31 : Cond.methodLink "SmellAbbeyLaw" 31 yX9_fault ∈ ztb ∧ Cond.instanceMethod yX9_fault ∈ ztb ∧ Cond.selects yX9_fault.cls yX9_fault yX9_fault ∈ ztb := ⟨ztb_t (zt3 _ (List.mem_of_getElem? (i := 157) rfl)) rfl, ztb_t (zt3 _ (List.mem_of_getElem? (i := 158) rfl)) rfl, sX9_fault⟩
theorem sX10_fault : Cond.selects yX10_fault.cls yX10_fault yX10_fault ∈ ztb := ztb_t (zt7 _ (List.mem_of_getElem? (i := 10) rfl)) rfl
theorem gL_34 : Cond.methodLink "SmellAbbeyLaw" 34 yX10_fault ∈ ztb ∧ Cond.instanceMethod yX10_fault ∈ ztb ∧ Cond.selects yX10_fault.cls yX10_fault yX10_fault ∈ ztb := ⟨ztb_t (zt7 _ (List.mem_of_getElem? (i := 8) rfl)) rfl, ztb_t (zt7 _ (List.mem_of_getElem? (i := 9) rfl)) rfl, sX10_fault⟩
theorem sX9_named : Cond.selects yX9_named.cls yX9_named yX9_named ∈ ztb := ztb_t (zt3 _ (List.mem_of_getElem? (i := 163) rfl)) rfl
theorem gL_35 : Cond.methodLink "SmellAbbeyLaw" 35 yX9_named ∈ ztb ∧ Cond.instanceMethod yX9_named ∈ ztb ∧ Cond.selects yX9_named.cls yX9_named yX9_named ∈ ztb := ⟨ztb_t (zt3 _ (List.mem_of_getElem? (i := 161) rfl)) rfl, ztb_t (zt3 _ (List.mem_of_getElem? (i := 162) rfl)) rfl, sX9_named⟩
theorem sX10_named : Cond.selects yX10_named.cls yX10_named yX10_named ∈ ztb := ztb_t (zt7 _ (List.mem_of_getElem? (i := 14) rfl)) rfl
theorem gL_38 : Cond.methodLink "SmellAbbeyLaw" 38 yX10_named ∈ ztb ∧ Cond.instanceMethod yX10_named ∈ ztb ∧ Cond.selects yX10_named.cls yX10_named yX10_named ∈ ztb := ⟨ztb_t (zt7 _ (List.mem_of_getElem? (i := 12) rfl)) rfl, ztb_t (zt7 _ (List.mem_of_getElem? (i := 13) rfl)) rfl, sX10_named⟩
theorem sX10_monk : Cond.selects yX10_monk.cls yX10_monk yX10_monk ∈ ztb := ztb_t (zt7 _ (List.mem_of_getElem? (i := 18) rfl)) rfl
theorem gL_44 : Cond.methodLink "SmellAbbeyLaw" 44 yX10_monk ∈ ztb ∧ Cond.instanceMethod yX10_monk ∈ ztb ∧ Cond.selects yX10_monk.cls yX10_monk yX10_monk ∈ ztb := ⟨ztb_t (zt7 _ (List.mem_of_getElem? (i := 16) rfl)) rfl, ztb_t (zt7 _ (List.mem_of_getElem? (i := 17) rfl)) rfl, sX10_monk⟩
theorem sX10_thrown : Cond.selects yX10_thrown.cls yX10_thrown yX10_thrown ∈ ztb := ztb_t (zt6 _ (List.mem_of_getElem? (i := 114) rfl)) rfl
theorem gL_45 : Cond.methodLink "SmellAbbeyLaw" 45 yX10_thrown ∈ ztb ∧ Cond.instanceMethod yX10_thrown ∈ ztb ∧ Cond.selects yX10_thrown.cls yX10_thrown yX10_thrown ∈ ztb := ⟨ztb_t (zt6 _ (List.mem_of_getElem? (i := 112) rfl)) rfl, ztb_t (zt6 _ (List.mem_of_getElem? (i := 113) rfl)) rfl, sX10_thrown⟩
theorem sX9_stuff : Cond.selects yX9_stuff.cls yX9_stuff yX9_stuff ∈ ztb := ztb_t (zt3 _ (List.mem_of_getElem? (i := 168) rfl)) rfl
theorem gL_49 : Cond.methodLink "SmellAbbeyLaw" 49 yX9_stuff ∈ ztb ∧ Cond.instanceMethod yX9_stuff ∈ ztb ∧ Cond.selects yX9_stuff.cls yX9_stuff yX9_stuff ∈ ztb := ⟨ztb_t (zt3 _ (List.mem_of_getElem? (i := 166) rfl)) rfl, ztb_t (zt3 _ (List.mem_of_getElem? (i := 167) rfl)) rfl, sX9_stuff⟩
theorem sX10_stuff : Cond.selects yX10_stuff.cls yX10_stuff yX10_stuff ∈ ztb := ztb_t (zt7 _ (List.mem_of_getElem? (i := 26) rfl)) rfl
theorem gL_52 : Cond.methodLink "SmellAbbeyLaw" 52 yX10_stuff ∈ ztb ∧ Cond.instanceMethod yX10_stuff ∈ ztb ∧ Cond.selects yX10_stuff.cls yX10_stuff yX10_stuff ∈ ztb := ⟨ztb_t (zt7 _ (List.mem_of_getElem? (i := 24) rfl)) rfl, ztb_t (zt7 _ (List.mem_of_getElem? (i := 25) rfl)) rfl, sX10_stuff⟩
theorem sX9_mix : Cond.selects yX9_mix.cls yX9_mix yX9_mix ∈ ztb := ztb_t (zt3 _ (List.mem_of_getElem? (i := 211) rfl)) rfl
theorem gL_53 : Cond.methodLink "SmellAbbeyLaw" 53 yX9_mix ∈ ztb ∧ Cond.instanceMethod yX9_mix ∈ ztb ∧ Cond.selects yX9_mix.cls yX9_mix yX9_mix ∈ ztb := ⟨ztb_t (zt3 _ (List.mem_of_getElem? (i := 209) rfl)) rfl, ztb_t (zt3 _ (List.mem_of_getElem? (i := 210) rfl)) rfl, sX9_mix⟩
theorem sX10_mix : Cond.selects yX10_mix.cls yX10_mix yX10_mix ∈ ztb := ztb_t (zt7 _ (List.mem_of_getElem? (i := 68) rfl)) rfl
theorem gL_56 : Cond.methodLink "SmellAbbeyLaw" 56 yX10_mix ∈ ztb ∧ Cond.instanceMethod yX10_mix ∈ ztb ∧ Cond.selects yX10_mix.cls yX10_mix yX10_mix ∈ ztb := ⟨ztb_t (zt7 _ (List.mem_of_getElem? (i := 66) rfl)) rfl, ztb_t (zt7 _ (List.mem_of_getElem? (i := 67) rfl)) rfl, sX10_mix⟩
theorem sX9_feast : Cond.selects yX9_feast.cls yX9_feast yX9_feast ∈ ztb := ztb_t (zt3 _ (List.mem_of_getElem? (i := 215) rfl)) rfl
theorem gL_57 : Cond.methodLink "SmellAbbeyLaw" 57 yX9_feast ∈ ztb ∧ Cond.instanceMethod yX9_feast ∈ ztb ∧ Cond.selects yX9_feast.cls yX9_feast yX9_feast ∈ ztb := ⟨ztb_t (zt3 _ (List.mem_of_getElem? (i := 213) rfl)) rfl, ztb_t (zt3 _ (List.mem_of_getElem? (i := 214) rfl)) rfl, sX9_feast⟩
theorem sX10_feast : Cond.selects yX10_feast.cls yX10_feast yX10_feast ∈ ztb := ztb_t (zt7 _ (List.mem_of_getElem? (i := 76) rfl)) rfl
theorem gL_60 : Cond.methodLink "SmellAbbeyLaw" 60 yX10_feast ∈ ztb ∧ Cond.instanceMethod yX10_feast ∈ ztb ∧ Cond.selects yX10_feast.cls yX10_feast yX10_feast ∈ ztb := ⟨ztb_t (zt7 _ (List.mem_of_getElem? (i := 74) rfl)) rfl, ztb_t (zt7 _ (List.mem_of_getElem? (i := 75) rfl)) rfl, sX10_feast⟩
theorem sX9_air : Cond.selects yX9_air.cls yX9_air yX9_air ∈ ztb := ztb_t (zt3 _ (List.mem_of_getElem? (i := 219) rfl)) rfl
theorem gL_61 : Cond.methodLink "SmellAbbeyLaw" 61 yX9_air ∈ ztb ∧ Cond.instanceMethod yX9_air ∈ ztb ∧ Cond.selects yX9_air.cls yX9_air yX9_air ∈ ztb := ⟨ztb_t (zt3 _ (List.mem_of_getElem? (i := 217) rfl)) rfl, ztb_t (zt3 _ (List.mem_of_getElem? (i := 218) rfl)) rfl, sX9_air⟩
theorem sX10_air : Cond.selects yX10_air.cls yX10_air yX10_air ∈ ztb := ztb_t (zt7 _ (List.mem_of_getElem? (i := 80) rfl)) rfl
theorem gL_64 : Cond.methodLink "SmellAbbeyLaw" 64 yX10_air ∈ ztb ∧ Cond.instanceMethod yX10_air ∈ ztb ∧ Cond.selects yX10_air.cls yX10_air yX10_air ∈ ztb := ⟨ztb_t (zt7 _ (List.mem_of_getElem? (i := 78) rfl)) rfl, ztb_t (zt7 _ (List.mem_of_getElem? (i := 79) rfl)) rfl, sX10_air⟩
theorem sX9_mark : Cond.selects yX9_mark.cls yX9_mark yX9_mark ∈ ztb := ztb_t (zt3 _ (List.mem_of_getElem? (i := 223) rfl)) rfl
theorem gL_65 : Cond.methodLink "SmellAbbeyLaw" 65 yX9_mark ∈ ztb ∧ Cond.instanceMethod yX9_mark ∈ ztb ∧ Cond.selects yX9_mark.cls yX9_mark yX9_mark ∈ ztb := ⟨ztb_t (zt3 _ (List.mem_of_getElem? (i := 221) rfl)) rfl, ztb_t (zt3 _ (List.mem_of_getElem? (i := 222) rfl)) rfl, sX9_mark⟩
theorem sX10_mark : Cond.selects yX10_mark.cls yX10_mark yX10_mark ∈ ztb := ztb_t (zt7 _ (List.mem_of_getElem? (i := 88) rfl)) rfl
theorem gL_68 : Cond.methodLink "SmellAbbeyLaw" 68 yX10_mark ∈ ztb ∧ Cond.instanceMethod yX10_mark ∈ ztb ∧ Cond.selects yX10_mark.cls yX10_mark yX10_mark ∈ ztb := ⟨ztb_t (zt7 _ (List.mem_of_getElem? (i := 86) rfl)) rfl, ztb_t (zt7 _ (List.mem_of_getElem? (i := 87) rfl)) rfl, sX10_mark⟩
theorem sX9_law : Cond.selects yX9_law.cls yX9_law yX9_law ∈ ztb := ztb_t (zt4 _ (List.mem_of_getElem? (i := 7) rfl)) rfl
theorem gL_69 : Cond.methodLink "SmellAbbeyLaw" 69 yX9_law ∈ ztb ∧ Cond.instanceMethod yX9_law ∈ ztb ∧ Cond.selects yX9_law.cls yX9_law yX9_law ∈ ztb := ⟨ztb_t (zt4 _ (List.mem_of_getElem? (i := 5) rfl)) rfl, ztb_t (zt4 _ (List.mem_of_getElem? (i := 6) rfl)) rfl, sX9_law⟩
theorem sX10_law : Cond.selects yX10_law.cls yX10_law yX10_law ∈ ztb := ztb_t (zt7 _ (List.mem_of_getElem? (i := 120) rfl)) rfl
theorem gL_73 : Cond.methodLink "SmellAbbeyLaw" 73 yX10_law ∈ ztb ∧ Cond.instanceMethod yX10_law ∈ ztb ∧ Cond.selects yX10_law.cls yX10_law yX10_law ∈ ztb := ⟨ztb_t (zt7 _ (List.mem_of_getElem? (i := 118) rfl)) rfl, ztb_t (zt7 _ (List.mem_of_getElem? (i := 119) rfl)) rfl, sX10_law⟩
theorem sX9_cold : Cond.selects yX9_cold.cls yX9_cold yX9_cold ∈ ztb := ztb_t (zt4 _ (List.mem_of_getElem? (i := 18) rfl)) rfl
theorem gL_74 : Cond.methodLink "SmellAbbeyLaw" 74 yX9_cold ∈ ztb ∧ Cond.instanceMethod yX9_cold ∈ ztb ∧ Cond.selects yX9_cold.cls yX9_cold yX9_cold ∈ ztb := ⟨ztb_t (zt4 _ (List.mem_of_getElem? (i := 16) rfl)) rfl, ztb_t (zt4 _ (List.mem_of_getElem? (i := 17) rfl)) rfl, sX9_cold⟩
theorem sX10_cold : Cond.selects yX10_cold.cls yX10_cold yX10_cold ∈ ztb := ztb_t (zt7 _ (List.mem_of_getElem? (i := 125) rfl)) rfl
theorem gL_78 : Cond.methodLink "SmellAbbeyLaw" 78 yX10_cold ∈ ztb ∧ Cond.instanceMethod yX10_cold ∈ ztb ∧ Cond.selects yX10_cold.cls yX10_cold yX10_cold ∈ ztb := ⟨ztb_t (zt7 _ (List.mem_of_getElem? (i := 123) rfl)) rfl, ztb_t (zt7 _ (List.mem_of_getElem? (i := 124) rfl)) rfl, sX10_cold⟩
theorem sX9_wind : Cond.selects yX9_wind.cls yX9_wind yX9_wind ∈ ztb := ztb_t (zt4 _ (List.mem_of_getElem? (i := 30) rfl)) rfl
theorem gL_79 : Cond.methodLink "SmellAbbeyLaw" 79 yX9_wind ∈ ztb ∧ Cond.instanceMethod yX9_wind ∈ ztb ∧ Cond.selects yX9_wind.cls yX9_wind yX9_wind ∈ ztb := ⟨ztb_t (zt4 _ (List.mem_of_getElem? (i := 28) rfl)) rfl, ztb_t (zt4 _ (List.mem_of_getElem? (i := 29) rfl)) rfl, sX9_wind⟩
theorem sX10_wind : Cond.selects yX10_wind.cls yX10_wind yX10_wind ∈ ztb := ztb_t (zt7 _ (List.mem_of_getElem? (i := 137) rfl)) rfl
theorem gL_83 : Cond.methodLink "SmellAbbeyLaw" 83 yX10_wind ∈ ztb ∧ Cond.instanceMethod yX10_wind ∈ ztb ∧ Cond.selects yX10_wind.cls yX10_wind yX10_wind ∈ ztb := ⟨ztb_t (zt7 _ (List.mem_of_getElem? (i := 135) rfl)) rfl, ztb_t (zt7 _ (List.mem_of_getElem? (i := 136) rfl)) rfl, sX10_wind⟩
theorem sX9_buy : Cond.selects yX9_buy.cls yX9_buy yX9_buy ∈ ztb := ztb_t (zt4 _ (List.mem_of_getElem? (i := 34) rfl)) rfl
theorem gL_84 : Cond.methodLink "SmellAbbeyLaw" 84 yX9_buy ∈ ztb ∧ Cond.instanceMethod yX9_buy ∈ ztb ∧ Cond.selects yX9_buy.cls yX9_buy yX9_buy ∈ ztb := ⟨ztb_t (zt4 _ (List.mem_of_getElem? (i := 32) rfl)) rfl, ztb_t (zt4 _ (List.mem_of_getElem? (i := 33) rfl)) rfl, sX9_buy⟩
theorem sX10_buy : Cond.selects yX10_buy.cls yX10_buy yX10_buy ∈ ztb := ztb_t (zt7 _ (List.mem_of_getElem? (i := 141) rfl)) rfl
theorem gL_87 : Cond.methodLink "SmellAbbeyLaw" 87 yX10_buy ∈ ztb ∧ Cond.instanceMethod yX10_buy ∈ ztb ∧ Cond.selects yX10_buy.cls yX10_buy yX10_buy ∈ ztb := ⟨ztb_t (zt7 _ (List.mem_of_getElem? (i := 139) rfl)) rfl, ztb_t (zt7 _ (List.mem_of_getElem? (i := 140) rfl)) rfl, sX10_buy⟩
theorem sX9_goes : Cond.selects yX9_goes.cls yX9_goes yX9_goes ∈ ztb := ztb_t (zt4 _ (List.mem_of_getElem? (i := 38) rfl)) rfl
theorem gL_88 : Cond.methodLink "SmellAbbeyLaw" 88 yX9_goes ∈ ztb ∧ Cond.instanceMethod yX9_goes ∈ ztb ∧ Cond.selects yX9_goes.cls yX9_goes yX9_goes ∈ ztb := ⟨ztb_t (zt4 _ (List.mem_of_getElem? (i := 36) rfl)) rfl, ztb_t (zt4 _ (List.mem_of_getElem? (i := 37) rfl)) rfl, sX9_goes⟩
theorem sX10_goes : Cond.selects yX10_goes.cls yX10_goes yX10_goes ∈ ztb := ztb_t (zt7 _ (List.mem_of_getElem? (i := 145) rfl)) rfl
theorem gL_91 : Cond.methodLink "SmellAbbeyLaw" 91 yX10_goes ∈ ztb ∧ Cond.instanceMethod yX10_goes ∈ ztb ∧ Cond.selects yX10_goes.cls yX10_goes yX10_goes ∈ ztb := ⟨ztb_t (zt7 _ (List.mem_of_getElem? (i := 143) rfl)) rfl, ztb_t (zt7 _ (List.mem_of_getElem? (i := 144) rfl)) rfl, sX10_goes⟩
theorem sX9_go : Cond.selects yX9_go.cls yX9_go yX9_go ∈ ztb := ztb_t (zt4 _ (List.mem_of_getElem? (i := 42) rfl)) rfl
theorem gL_92 : Cond.methodLink "SmellAbbeyLaw" 92 yX9_go ∈ ztb ∧ Cond.instanceMethod yX9_go ∈ ztb ∧ Cond.selects yX9_go.cls yX9_go yX9_go ∈ ztb := ⟨ztb_t (zt4 _ (List.mem_of_getElem? (i := 40) rfl)) rfl, ztb_t (zt4 _ (List.mem_of_getElem? (i := 41) rfl)) rfl, sX9_go⟩
theorem sX10_go : Cond.selects yX10_go.cls yX10_go yX10_go ∈ ztb := ztb_t (zt7 _ (List.mem_of_getElem? (i := 149) rfl)) rfl
theorem gL_95 : Cond.methodLink "SmellAbbeyLaw" 95 yX10_go ∈ ztb ∧ Cond.instanceMethod yX10_go ∈ ztb ∧ Cond.selects yX10_go.cls yX10_go yX10_go ∈ ztb := ⟨ztb_t (zt7 _ (List.mem_of_getElem? (i := 147) rfl)) rfl, ztb_t (zt7 _ (List.mem_of_getElem? (i := 148) rfl)) rfl, sX10_go⟩
theorem sX9_mixedUp : Cond.selects yX9_mixedUp.cls yX9_mixedUp yX9_mixedUp ∈ ztb := ztb_t (zt4 _ (List.mem_of_getElem? (i := 78) rfl)) rfl
theorem gL_96 : Cond.methodLink "SmellAbbeyLaw" 96 yX9_mixedUp ∈ ztb ∧ Cond.instanceMethod yX9_mixedUp ∈ ztb ∧ Cond.selects yX9_mixedUp.cls yX9_mixedUp yX9_mixedUp ∈ ztb := ⟨ztb_t (zt4 _ (List.mem_of_getElem? (i := 76) rfl)) rfl, ztb_t (zt4 _ (List.mem_of_getElem? (i := 77) rfl)) rfl, sX9_mixedUp⟩
theorem sX10_mixedUp : Cond.selects yX10_mixedUp.cls yX10_mixedUp yX10_mixedUp ∈ ztb := ztb_t (zt7 _ (List.mem_of_getElem? (i := 178) rfl)) rfl
theorem gL_99 : Cond.methodLink "SmellAbbeyLaw" 99 yX10_mixedUp ∈ ztb ∧ Cond.instanceMethod yX10_mixedUp ∈ ztb ∧ Cond.selects yX10_mixedUp.cls yX10_mixedUp yX10_mixedUp ∈ ztb := ⟨ztb_t (zt7 _ (List.mem_of_getElem? (i := 176) rfl)) rfl, ztb_t (zt7 _ (List.mem_of_getElem? (i := 177) rfl)) rfl, sX10_mixedUp⟩
theorem sX9_pair : Cond.selects yX9_pair.cls yX9_pair yX9_pair ∈ ztb := ztb_t (zt4 _ (List.mem_of_getElem? (i := 91) rfl)) rfl
theorem gL_100 : Cond.methodLink "SmellAbbeyLaw" 100 yX9_pair ∈ ztb ∧ Cond.instanceMethod yX9_pair ∈ ztb ∧ Cond.selects yX9_pair.cls yX9_pair yX9_pair ∈ ztb := ⟨ztb_t (zt4 _ (List.mem_of_getElem? (i := 89) rfl)) rfl, ztb_t (zt4 _ (List.mem_of_getElem? (i := 90) rfl)) rfl, sX9_pair⟩
theorem sX10_pair : Cond.selects yX10_pair.cls yX10_pair yX10_pair ∈ ztb := ztb_t (zt7 _ (List.mem_of_getElem? (i := 190) rfl)) rfl
theorem gL_103 : Cond.methodLink "SmellAbbeyLaw" 103 yX10_pair ∈ ztb ∧ Cond.instanceMethod yX10_pair ∈ ztb ∧ Cond.selects yX10_pair.cls yX10_pair yX10_pair ∈ ztb := ⟨ztb_t (zt7 _ (List.mem_of_getElem? (i := 188) rfl)) rfl, ztb_t (zt7 _ (List.mem_of_getElem? (i := 189) rfl)) rfl, sX10_pair⟩
theorem sX9_mending : Cond.selects yX9_mending.cls yX9_mending yX9_mending ∈ ztb := ztb_t (zt4 _ (List.mem_of_getElem? (i := 95) rfl)) rfl
theorem gL_104 : Cond.methodLink "SmellAbbeyLaw" 104 yX9_mending ∈ ztb ∧ Cond.instanceMethod yX9_mending ∈ ztb ∧ Cond.selects yX9_mending.cls yX9_mending yX9_mending ∈ ztb := ⟨ztb_t (zt4 _ (List.mem_of_getElem? (i := 93) rfl)) rfl, ztb_t (zt4 _ (List.mem_of_getElem? (i := 94) rfl)) rfl, sX9_mending⟩
theorem sX10_mending : Cond.selects yX10_mending.cls yX10_mending yX10_mending ∈ ztb := ztb_t (zt7 _ (List.mem_of_getElem? (i := 194) rfl)) rfl
theorem gL_108 : Cond.methodLink "SmellAbbeyLaw" 108 yX10_mending ∈ ztb ∧ Cond.instanceMethod yX10_mending ∈ ztb ∧ Cond.selects yX10_mending.cls yX10_mending yX10_mending ∈ ztb := ⟨ztb_t (zt7 _ (List.mem_of_getElem? (i := 192) rfl)) rfl, ztb_t (zt7 _ (List.mem_of_getElem? (i := 193) rfl)) rfl, sX10_mending⟩
theorem sX9_placeTo : Cond.selects yX9_placeTo.cls yX9_placeTo yX9_placeTo ∈ ztb := ztb_t (zt4 _ (List.mem_of_getElem? (i := 106) rfl)) rfl
theorem gL_109 : Cond.methodLink "SmellAbbeyLaw" 109 yX9_placeTo ∈ ztb ∧ Cond.instanceMethod yX9_placeTo ∈ ztb ∧ Cond.selects yX9_placeTo.cls yX9_placeTo yX9_placeTo ∈ ztb := ⟨ztb_t (zt4 _ (List.mem_of_getElem? (i := 104) rfl)) rfl, ztb_t (zt4 _ (List.mem_of_getElem? (i := 105) rfl)) rfl, sX9_placeTo⟩
theorem sX10_placeTo : Cond.selects yX10_placeTo.cls yX10_placeTo yX10_placeTo ∈ ztb := ztb_t (zt7 _ (List.mem_of_getElem? (i := 199) rfl)) rfl
theorem gL_112 : Cond.methodLink "SmellAbbeyLaw" 112 yX10_placeTo ∈ ztb ∧ Cond.instanceMethod yX10_placeTo ∈ ztb ∧ Cond.selects yX10_placeTo.cls yX10_placeTo yX10_placeTo ∈ ztb := ⟨ztb_t (zt7 _ (List.mem_of_getElem? (i := 197) rfl)) rfl, ztb_t (zt7 _ (List.mem_of_getElem? (i := 198) rfl)) rfl, sX10_placeTo⟩
theorem sX9_lasts : Cond.selects yX9_lasts.cls yX9_lasts yX9_lasts ∈ ztb := ztb_t (zt4 _ (List.mem_of_getElem? (i := 114) rfl)) rfl
theorem gL_113 : Cond.methodLink "SmellAbbeyLaw" 113 yX9_lasts ∈ ztb ∧ Cond.instanceMethod yX9_lasts ∈ ztb ∧ Cond.selects yX9_lasts.cls yX9_lasts yX9_lasts ∈ ztb := ⟨ztb_t (zt4 _ (List.mem_of_getElem? (i := 112) rfl)) rfl, ztb_t (zt4 _ (List.mem_of_getElem? (i := 113) rfl)) rfl, sX9_lasts⟩
theorem sX10_lasts : Cond.selects yX10_lasts.cls yX10_lasts yX10_lasts ∈ ztb := ztb_t (zt7 _ (List.mem_of_getElem? (i := 203) rfl)) rfl
theorem gL_116 : Cond.methodLink "SmellAbbeyLaw" 116 yX10_lasts ∈ ztb ∧ Cond.instanceMethod yX10_lasts ∈ ztb ∧ Cond.selects yX10_lasts.cls yX10_lasts yX10_lasts ∈ ztb := ⟨ztb_t (zt7 _ (List.mem_of_getElem? (i := 201) rfl)) rfl, ztb_t (zt7 _ (List.mem_of_getElem? (i := 202) rfl)) rfl, sX10_lasts⟩
theorem sX9_needs : Cond.selects yX9_needs.cls yX9_needs yX9_needs ∈ ztb := ztb_t (zt4 _ (List.mem_of_getElem? (i := 130) rfl)) rfl
theorem gL_117 : Cond.methodLink "SmellAbbeyLaw" 117 yX9_needs ∈ ztb ∧ Cond.instanceMethod yX9_needs ∈ ztb ∧ Cond.selects yX9_needs.cls yX9_needs yX9_needs ∈ ztb := ⟨ztb_t (zt4 _ (List.mem_of_getElem? (i := 128) rfl)) rfl, ztb_t (zt4 _ (List.mem_of_getElem? (i := 129) rfl)) rfl, sX9_needs⟩
theorem sX10_needs : Cond.selects yX10_needs.cls yX10_needs yX10_needs ∈ ztb := ztb_t (zt7 _ (List.mem_of_getElem? (i := 207) rfl)) rfl
theorem gL_120 : Cond.methodLink "SmellAbbeyLaw" 120 yX10_needs ∈ ztb ∧ Cond.instanceMethod yX10_needs ∈ ztb ∧ Cond.selects yX10_needs.cls yX10_needs yX10_needs ∈ ztb := ⟨ztb_t (zt7 _ (List.mem_of_getElem? (i := 205) rfl)) rfl, ztb_t (zt7 _ (List.mem_of_getElem? (i := 206) rfl)) rfl, sX10_needs⟩
theorem sX9_dearest : Cond.selects yX9_dearest.cls yX9_dearest yX9_dearest ∈ ztb := ztb_t (zt4 _ (List.mem_of_getElem? (i := 135) rfl)) rfl
theorem gL_121 : Cond.methodLink "SmellAbbeyLaw" 121 yX9_dearest ∈ ztb ∧ Cond.instanceMethod yX9_dearest ∈ ztb ∧ Cond.selects yX9_dearest.cls yX9_dearest yX9_dearest ∈ ztb := ⟨ztb_t (zt4 _ (List.mem_of_getElem? (i := 133) rfl)) rfl, ztb_t (zt4 _ (List.mem_of_getElem? (i := 134) rfl)) rfl, sX9_dearest⟩
theorem sX10_dearest : Cond.selects yX10_dearest.cls yX10_dearest yX10_dearest ∈ ztb := ztb_t (zt7 _ (List.mem_of_getElem? (i := 211) rfl)) rfl
theorem gL_124 : Cond.methodLink "SmellAbbeyLaw" 124 yX10_dearest ∈ ztb ∧ Cond.instanceMethod yX10_dearest ∈ ztb ∧ Cond.selects yX10_dearest.cls yX10_dearest yX10_dearest ∈ ztb := ⟨ztb_t (zt7 _ (List.mem_of_getElem? (i := 209) rfl)) rfl, ztb_t (zt7 _ (List.mem_of_getElem? (i := 210) rfl)) rfl, sX10_dearest⟩
theorem sX9_inPlace : Cond.selects yX9_inPlace.cls yX9_inPlace yX9_inPlace ∈ ztb := ztb_t (zt4 _ (List.mem_of_getElem? (i := 139) rfl)) rfl
theorem gL_125 : Cond.methodLink "SmellAbbeyLaw" 125 yX9_inPlace ∈ ztb ∧ Cond.instanceMethod yX9_inPlace ∈ ztb ∧ Cond.selects yX9_inPlace.cls yX9_inPlace yX9_inPlace ∈ ztb := ⟨ztb_t (zt4 _ (List.mem_of_getElem? (i := 137) rfl)) rfl, ztb_t (zt4 _ (List.mem_of_getElem? (i := 138) rfl)) rfl, sX9_inPlace⟩
theorem sX10_inPlace : Cond.selects yX10_inPlace.cls yX10_inPlace yX10_inPlace ∈ ztb := ztb_t (zt7 _ (List.mem_of_getElem? (i := 215) rfl)) rfl
theorem gL_128 : Cond.methodLink "SmellAbbeyLaw" 128 yX10_inPlace ∈ ztb ∧ Cond.instanceMethod yX10_inPlace ∈ ztb ∧ Cond.selects yX10_inPlace.cls yX10_inPlace yX10_inPlace ∈ ztb := ⟨ztb_t (zt7 _ (List.mem_of_getElem? (i := 213) rfl)) rfl, ztb_t (zt7 _ (List.mem_of_getElem? (i := 214) rfl)) rfl, sX10_inPlace⟩
theorem sX9_letter : Cond.selects yX9_letter.cls yX9_letter yX9_letter ∈ ztb := ztb_t (zt4 _ (List.mem_of_getElem? (i := 148) rfl)) rfl
theorem gL_129 : Cond.methodLink "SmellAbbeyLaw" 129 yX9_letter ∈ ztb ∧ Cond.instanceMethod yX9_letter ∈ ztb ∧ Cond.selects yX9_letter.cls yX9_letter yX9_letter ∈ ztb := ⟨ztb_t (zt4 _ (List.mem_of_getElem? (i := 146) rfl)) rfl, ztb_t (zt4 _ (List.mem_of_getElem? (i := 147) rfl)) rfl, sX9_letter⟩
theorem sX10_letter : Cond.selects yX10_letter.cls yX10_letter yX10_letter ∈ ztb := ztb_t (zt7 _ (List.mem_of_getElem? (i := 219) rfl)) rfl
theorem gL_133 : Cond.methodLink "SmellAbbeyLaw" 133 yX10_letter ∈ ztb ∧ Cond.instanceMethod yX10_letter ∈ ztb ∧ Cond.selects yX10_letter.cls yX10_letter yX10_letter ∈ ztb := ⟨ztb_t (zt7 _ (List.mem_of_getElem? (i := 217) rfl)) rfl, ztb_t (zt7 _ (List.mem_of_getElem? (i := 218) rfl)) rfl, sX10_letter⟩
theorem sX9_firstWrong : Cond.selects yX9_firstWrong.cls yX9_firstWrong yX9_firstWrong ∈ ztb := ztb_t (zt4 _ (List.mem_of_getElem? (i := 152) rfl)) rfl
theorem gL_134 : Cond.methodLink "SmellAbbeyLaw" 134 yX9_firstWrong ∈ ztb ∧ Cond.instanceMethod yX9_firstWrong ∈ ztb ∧ Cond.selects yX9_firstWrong.cls yX9_firstWrong yX9_firstWrong ∈ ztb := ⟨ztb_t (zt4 _ (List.mem_of_getElem? (i := 150) rfl)) rfl, ztb_t (zt4 _ (List.mem_of_getElem? (i := 151) rfl)) rfl, sX9_firstWrong⟩
theorem sX10_firstWrong : Cond.selects yX10_firstWrong.cls yX10_firstWrong yX10_firstWrong ∈ ztb := ztb_t (zt7 _ (List.mem_of_getElem? (i := 223) rfl)) rfl
theorem gL_137 : Cond.methodLink "SmellAbbeyLaw" 137 yX10_firstWrong ∈ ztb ∧ Cond.instanceMethod yX10_firstWrong ∈ ztb ∧ Cond.selects yX10_firstWrong.cls yX10_firstWrong yX10_firstWrong ∈ ztb := ⟨ztb_t (zt7 _ (List.mem_of_getElem? (i := 221) rfl)) rfl, ztb_t (zt7 _ (List.mem_of_getElem? (i := 222) rfl)) rfl, sX10_firstWrong⟩
theorem sX9_rests : Cond.selects yX9_rests.cls yX9_rests yX9_rests ∈ ztb := ztb_t (zt4 _ (List.mem_of_getElem? (i := 156) rfl)) rfl
theorem gL_138 : Cond.methodLink "SmellAbbeyLaw" 138 yX9_rests ∈ ztb ∧ Cond.instanceMethod yX9_rests ∈ ztb ∧ Cond.selects yX9_rests.cls yX9_rests yX9_rests ∈ ztb := ⟨ztb_t (zt4 _ (List.mem_of_getElem? (i := 154) rfl)) rfl, ztb_t (zt4 _ (List.mem_of_getElem? (i := 155) rfl)) rfl, sX9_rests⟩
theorem sX10_rests : Cond.selects yX10_rests.cls yX10_rests yX10_rests ∈ ztb := ztb_t (zt7 _ (List.mem_of_getElem? (i := 227) rfl)) rfl
theorem gL_141 : Cond.methodLink "SmellAbbeyLaw" 141 yX10_rests ∈ ztb ∧ Cond.instanceMethod yX10_rests ∈ ztb ∧ Cond.selects yX10_rests.cls yX10_rests yX10_rests ∈ ztb := ⟨ztb_t (zt7 _ (List.mem_of_getElem? (i := 225) rfl)) rfl, ztb_t (zt7 _ (List.mem_of_getElem? (i := 226) rfl)) rfl, sX10_rests⟩
theorem sX9_rest : Cond.selects yX9_rest.cls yX9_rest yX9_rest ∈ ztb := ztb_t (zt4 _ (List.mem_of_getElem? (i := 176) rfl)) rfl
theorem gL_142 : Cond.methodLink "SmellAbbeyLaw" 142 yX9_rest ∈ ztb ∧ Cond.instanceMethod yX9_rest ∈ ztb ∧ Cond.selects yX9_rest.cls yX9_rest yX9_rest ∈ ztb := ⟨ztb_t (zt4 _ (List.mem_of_getElem? (i := 174) rfl)) rfl, ztb_t (zt4 _ (List.mem_of_getElem? (i := 175) rfl)) rfl, sX9_rest⟩
theorem sX10_rest : Cond.selects yX10_rest.cls yX10_rest yX10_rest ∈ ztb := ztb_t (zt8 _ (List.mem_of_getElem? (i := 7) rfl)) rfl
theorem gL_145 : Cond.methodLink "SmellAbbeyLaw" 145 yX10_rest ∈ ztb ∧ Cond.instanceMethod yX10_rest ∈ ztb ∧ Cond.selects yX10_rest.cls yX10_rest yX10_rest ∈ ztb := ⟨ztb_t (zt8 _ (List.mem_of_getElem? (i := 5) rfl)) rfl, ztb_t (zt8 _ (List.mem_of_getElem? (i := 6) rfl)) rfl, sX10_rest⟩
theorem sX9_note : Cond.selects yX9_note.cls yX9_note yX9_note ∈ ztb := ztb_t (zt4 _ (List.mem_of_getElem? (i := 180) rfl)) rfl
theorem gL_146 : Cond.methodLink "SmellAbbeyLaw" 146 yX9_note ∈ ztb ∧ Cond.instanceMethod yX9_note ∈ ztb ∧ Cond.selects yX9_note.cls yX9_note yX9_note ∈ ztb := ⟨ztb_t (zt4 _ (List.mem_of_getElem? (i := 178) rfl)) rfl, ztb_t (zt4 _ (List.mem_of_getElem? (i := 179) rfl)) rfl, sX9_note⟩
theorem sX10_note : Cond.selects yX10_note.cls yX10_note yX10_note ∈ ztb := ztb_t (zt8 _ (List.mem_of_getElem? (i := 11) rfl)) rfl
theorem gL_150 : Cond.methodLink "SmellAbbeyLaw" 150 yX10_note ∈ ztb ∧ Cond.instanceMethod yX10_note ∈ ztb ∧ Cond.selects yX10_note.cls yX10_note yX10_note ∈ ztb := ⟨ztb_t (zt8 _ (List.mem_of_getElem? (i := 9) rfl)) rfl, ztb_t (zt8 _ (List.mem_of_getElem? (i := 10) rfl)) rfl, sX10_note⟩
theorem sX9_out : Cond.selects yX9_out.cls yX9_out yX9_out ∈ ztb := ztb_t (zt4 _ (List.mem_of_getElem? (i := 188) rfl)) rfl
theorem gL_151 : Cond.methodLink "SmellAbbeyLaw" 151 yX9_out ∈ ztb ∧ Cond.instanceMethod yX9_out ∈ ztb ∧ Cond.selects yX9_out.cls yX9_out yX9_out ∈ ztb := ⟨ztb_t (zt4 _ (List.mem_of_getElem? (i := 186) rfl)) rfl, ztb_t (zt4 _ (List.mem_of_getElem? (i := 187) rfl)) rfl, sX9_out⟩
theorem sX10_out : Cond.selects yX10_out.cls yX10_out yX10_out ∈ ztb := ztb_t (zt8 _ (List.mem_of_getElem? (i := 15) rfl)) rfl
theorem gL_154 : Cond.methodLink "SmellAbbeyLaw" 154 yX10_out ∈ ztb ∧ Cond.instanceMethod yX10_out ∈ ztb ∧ Cond.selects yX10_out.cls yX10_out yX10_out ∈ ztb := ⟨ztb_t (zt8 _ (List.mem_of_getElem? (i := 13) rfl)) rfl, ztb_t (zt8 _ (List.mem_of_getElem? (i := 14) rfl)) rfl, sX10_out⟩
theorem sX9_known : Cond.selects yX9_known.cls yX9_known yX9_known ∈ ztb := ztb_t (zt4 _ (List.mem_of_getElem? (i := 196) rfl)) rfl
theorem gL_155 : Cond.methodLink "SmellAbbeyLaw" 155 yX9_known ∈ ztb ∧ Cond.instanceMethod yX9_known ∈ ztb ∧ Cond.selects yX9_known.cls yX9_known yX9_known ∈ ztb := ⟨ztb_t (zt4 _ (List.mem_of_getElem? (i := 194) rfl)) rfl, ztb_t (zt4 _ (List.mem_of_getElem? (i := 195) rfl)) rfl, sX9_known⟩
theorem sX10_known : Cond.selects yX10_known.cls yX10_known yX10_known ∈ ztb := ztb_t (zt8 _ (List.mem_of_getElem? (i := 19) rfl)) rfl
theorem gL_159 : Cond.methodLink "SmellAbbeyLaw" 159 yX10_known ∈ ztb ∧ Cond.instanceMethod yX10_known ∈ ztb ∧ Cond.selects yX10_known.cls yX10_known yX10_known ∈ ztb := ⟨ztb_t (zt8 _ (List.mem_of_getElem? (i := 17) rfl)) rfl, ztb_t (zt8 _ (List.mem_of_getElem? (i := 18) rfl)) rfl, sX10_known⟩
theorem sX9_colds : Cond.selects yX9_colds.cls yX9_colds yX9_colds ∈ ztb := ztb_t (zt4 _ (List.mem_of_getElem? (i := 200) rfl)) rfl
theorem gL_160 : Cond.methodLink "SmellAbbeyLaw" 160 yX9_colds ∈ ztb ∧ Cond.instanceMethod yX9_colds ∈ ztb ∧ Cond.selects yX9_colds.cls yX9_colds yX9_colds ∈ ztb := ⟨ztb_t (zt4 _ (List.mem_of_getElem? (i := 198) rfl)) rfl, ztb_t (zt4 _ (List.mem_of_getElem? (i := 199) rfl)) rfl, sX9_colds⟩
theorem sX10_colds : Cond.selects yX10_colds.cls yX10_colds yX10_colds ∈ ztb := ztb_t (zt8 _ (List.mem_of_getElem? (i := 23) rfl)) rfl
theorem gL_163 : Cond.methodLink "SmellAbbeyLaw" 163 yX10_colds ∈ ztb ∧ Cond.instanceMethod yX10_colds ∈ ztb ∧ Cond.selects yX10_colds.cls yX10_colds yX10_colds ∈ ztb := ⟨ztb_t (zt8 _ (List.mem_of_getElem? (i := 21) rfl)) rfl, ztb_t (zt8 _ (List.mem_of_getElem? (i := 22) rfl)) rfl, sX10_colds⟩
theorem sX9_chance : Cond.selects yX9_chance.cls yX9_chance yX9_chance ∈ ztb := ztb_t (zt4 _ (List.mem_of_getElem? (i := 229) rfl)) rfl
theorem gL_164 : Cond.methodLink "SmellAbbeyLaw" 164 yX9_chance ∈ ztb ∧ Cond.instanceMethod yX9_chance ∈ ztb ∧ Cond.selects yX9_chance.cls yX9_chance yX9_chance ∈ ztb := ⟨ztb_t (zt4 _ (List.mem_of_getElem? (i := 227) rfl)) rfl, ztb_t (zt4 _ (List.mem_of_getElem? (i := 228) rfl)) rfl, sX9_chance⟩
theorem sX10_chance : Cond.selects yX10_chance.cls yX10_chance yX10_chance ∈ ztb := ztb_t (zt8 _ (List.mem_of_getElem? (i := 39) rfl)) rfl
theorem gL_167 : Cond.methodLink "SmellAbbeyLaw" 167 yX10_chance ∈ ztb ∧ Cond.instanceMethod yX10_chance ∈ ztb ∧ Cond.selects yX10_chance.cls yX10_chance yX10_chance ∈ ztb := ⟨ztb_t (zt8 _ (List.mem_of_getElem? (i := 37) rfl)) rfl, ztb_t (zt8 _ (List.mem_of_getElem? (i := 38) rfl)) rfl, sX10_chance⟩
theorem sX9_tried : Cond.selects yX9_tried.cls yX9_tried yX9_tried ∈ ztb := ztb_t (zt5 _ (List.mem_of_getElem? (i := 9) rfl)) rfl
theorem gL_168 : Cond.methodLink "SmellAbbeyLaw" 168 yX9_tried ∈ ztb ∧ Cond.instanceMethod yX9_tried ∈ ztb ∧ Cond.selects yX9_tried.cls yX9_tried yX9_tried ∈ ztb := ⟨ztb_t (zt5 _ (List.mem_of_getElem? (i := 7) rfl)) rfl, ztb_t (zt5 _ (List.mem_of_getElem? (i := 8) rfl)) rfl, sX9_tried⟩
theorem sX10_tried : Cond.selects yX10_tried.cls yX10_tried yX10_tried ∈ ztb := ztb_t (zt8 _ (List.mem_of_getElem? (i := 49) rfl)) rfl
theorem gL_171 : Cond.methodLink "SmellAbbeyLaw" 171 yX10_tried ∈ ztb ∧ Cond.instanceMethod yX10_tried ∈ ztb ∧ Cond.selects yX10_tried.cls yX10_tried yX10_tried ∈ ztb := ⟨ztb_t (zt8 _ (List.mem_of_getElem? (i := 47) rfl)) rfl, ztb_t (zt8 _ (List.mem_of_getElem? (i := 48) rfl)) rfl, sX10_tried⟩
theorem sX9_undo : Cond.selects yX9_undo.cls yX9_undo yX9_undo ∈ ztb := ztb_t (zt5 _ (List.mem_of_getElem? (i := 19) rfl)) rfl
theorem gL_172 : Cond.methodLink "SmellAbbeyLaw" 172 yX9_undo ∈ ztb ∧ Cond.instanceMethod yX9_undo ∈ ztb ∧ Cond.selects yX9_undo.cls yX9_undo yX9_undo ∈ ztb := ⟨ztb_t (zt5 _ (List.mem_of_getElem? (i := 17) rfl)) rfl, ztb_t (zt5 _ (List.mem_of_getElem? (i := 18) rfl)) rfl, sX9_undo⟩
theorem sX10_undo : Cond.selects yX10_undo.cls yX10_undo yX10_undo ∈ ztb := ztb_t (zt8 _ (List.mem_of_getElem? (i := 53) rfl)) rfl
theorem gL_175 : Cond.methodLink "SmellAbbeyLaw" 175 yX10_undo ∈ ztb ∧ Cond.instanceMethod yX10_undo ∈ ztb ∧ Cond.selects yX10_undo.cls yX10_undo yX10_undo ∈ ztb := ⟨ztb_t (zt8 _ (List.mem_of_getElem? (i := 51) rfl)) rfl, ztb_t (zt8 _ (List.mem_of_getElem? (i := 52) rfl)) rfl, sX10_undo⟩
theorem sX9_keep : Cond.selects yX9_keep.cls yX9_keep yX9_keep ∈ ztb := ztb_t (zt5 _ (List.mem_of_getElem? (i := 27) rfl)) rfl
theorem gL_176 : Cond.methodLink "SmellAbbeyLaw" 176 yX9_keep ∈ ztb ∧ Cond.instanceMethod yX9_keep ∈ ztb ∧ Cond.selects yX9_keep.cls yX9_keep yX9_keep ∈ ztb := ⟨ztb_t (zt5 _ (List.mem_of_getElem? (i := 25) rfl)) rfl, ztb_t (zt5 _ (List.mem_of_getElem? (i := 26) rfl)) rfl, sX9_keep⟩
theorem sX10_keep : Cond.selects yX10_keep.cls yX10_keep yX10_keep ∈ ztb := ztb_t (zt8 _ (List.mem_of_getElem? (i := 57) rfl)) rfl
theorem gL_179 : Cond.methodLink "SmellAbbeyLaw" 179 yX10_keep ∈ ztb ∧ Cond.instanceMethod yX10_keep ∈ ztb ∧ Cond.selects yX10_keep.cls yX10_keep yX10_keep ∈ ztb := ⟨ztb_t (zt8 _ (List.mem_of_getElem? (i := 55) rfl)) rfl, ztb_t (zt8 _ (List.mem_of_getElem? (i := 56) rfl)) rfl, sX10_keep⟩
theorem sX9_back : Cond.selects yX9_back.cls yX9_back yX9_back ∈ ztb := ztb_t (zt5 _ (List.mem_of_getElem? (i := 31) rfl)) rfl
theorem gL_180 : Cond.methodLink "SmellAbbeyLaw" 180 yX9_back ∈ ztb ∧ Cond.instanceMethod yX9_back ∈ ztb ∧ Cond.selects yX9_back.cls yX9_back yX9_back ∈ ztb := ⟨ztb_t (zt5 _ (List.mem_of_getElem? (i := 29) rfl)) rfl, ztb_t (zt5 _ (List.mem_of_getElem? (i := 30) rfl)) rfl, sX9_back⟩
theorem sX10_back : Cond.selects yX10_back.cls yX10_back yX10_back ∈ ztb := ztb_t (zt8 _ (List.mem_of_getElem? (i := 61) rfl)) rfl
theorem gL_183 : Cond.methodLink "SmellAbbeyLaw" 183 yX10_back ∈ ztb ∧ Cond.instanceMethod yX10_back ∈ ztb ∧ Cond.selects yX10_back.cls yX10_back yX10_back ∈ ztb := ⟨ztb_t (zt8 _ (List.mem_of_getElem? (i := 59) rfl)) rfl, ztb_t (zt8 _ (List.mem_of_getElem? (i := 60) rfl)) rfl, sX10_back⟩
theorem sX9_count : Cond.selects yX9_count.cls yX9_count yX9_count ∈ ztb := ztb_t (zt5 _ (List.mem_of_getElem? (i := 35) rfl)) rfl
theorem gL_184 : Cond.methodLink "SmellAbbeyLaw" 184 yX9_count ∈ ztb ∧ Cond.instanceMethod yX9_count ∈ ztb ∧ Cond.selects yX9_count.cls yX9_count yX9_count ∈ ztb := ⟨ztb_t (zt5 _ (List.mem_of_getElem? (i := 33) rfl)) rfl, ztb_t (zt5 _ (List.mem_of_getElem? (i := 34) rfl)) rfl, sX9_count⟩
theorem sX10_count : Cond.selects yX10_count.cls yX10_count yX10_count ∈ ztb := ztb_t (zt8 _ (List.mem_of_getElem? (i := 65) rfl)) rfl
theorem gL_187 : Cond.methodLink "SmellAbbeyLaw" 187 yX10_count ∈ ztb ∧ Cond.instanceMethod yX10_count ∈ ztb ∧ Cond.selects yX10_count.cls yX10_count yX10_count ∈ ztb := ⟨ztb_t (zt8 _ (List.mem_of_getElem? (i := 63) rfl)) rfl, ztb_t (zt8 _ (List.mem_of_getElem? (i := 64) rfl)) rfl, sX10_count⟩
theorem sX10_begins : Cond.selects yX10_begins.cls yX10_begins yX10_begins ∈ ztb := zsel (q := (yX10_begins, 68)) (List.mem_of_getElem? (i := 45) rfl) rfl
theorem gX10_157 : Cond.methodLink "SmellAbbeyModel" 157 yX10_begins ∈ ztb ∧ Cond.instanceMethod yX10_begins ∈ ztb ∧ Cond.selects yX10_begins.cls yX10_begins yX10_begins ∈ ztb := ⟨ztb_t (zt5 _ (List.mem_of_getElem? (i := 139) rfl)) rfl, ztb_t (zt5 _ (List.mem_of_getElem? (i := 141) rfl)) rfl, sX10_begins⟩
theorem sX10_here : Cond.selects yX10_here.cls yX10_here yX10_here ∈ ztb := zsel (q := (yX10_here, 68)) (List.mem_of_getElem? (i := 49) rfl) rfl
theorem gX10_172 : Cond.methodLink "SmellAbbeyModel" 172 yX10_here ∈ ztb ∧ Cond.instanceMethod yX10_here ∈ ztb ∧ Cond.selects yX10_here.cls yX10_here yX10_here ∈ ztb := ⟨ztb_t (zt6 _ (List.mem_of_getElem? (i := 132) rfl)) rfl, ztb_t (zt6 _ (List.mem_of_getElem? (i := 134) rfl)) rfl, sX10_here⟩
theorem gX10_182 : Cond.methodLink "SmellAbbeyModel" 182 yX10_isSmall ∈ ztb ∧ Cond.static yX10_isSmall ∈ ztb := ⟨ztb_t (zt6 _ (List.mem_of_getElem? (i := 136) rfl)) rfl, ztb_t (zt6 _ (List.mem_of_getElem? (i := 137) rfl)) rfl⟩
theorem sX10_word : Cond.selects yX10_word.cls yX10_word yX10_word ∈ ztb := zsel (q := (yX10_word, 68)) (List.mem_of_getElem? (i := 50) rfl) rfl
theorem gX10_186 : Cond.methodLink "SmellAbbeyModel" 186 yX10_word ∈ ztb ∧ Cond.instanceMethod yX10_word ∈ ztb ∧ Cond.selects yX10_word.cls yX10_word yX10_word ∈ ztb := ⟨ztb_t (zt6 _ (List.mem_of_getElem? (i := 139) rfl)) rfl, ztb_t (zt6 _ (List.mem_of_getElem? (i := 141) rfl)) rfl, sX10_word⟩
theorem sX10_name : Cond.selects yX10_name.cls yX10_name yX10_name ∈ ztb := zsel (q := (yX10_name, 68)) (List.mem_of_getElem? (i := 51) rfl) rfl
theorem gX10_192 : Cond.methodLink "SmellAbbeyModel" 192 yX10_name ∈ ztb ∧ Cond.instanceMethod yX10_name ∈ ztb ∧ Cond.selects yX10_name.cls yX10_name yX10_name ∈ ztb := ⟨ztb_t (zt6 _ (List.mem_of_getElem? (i := 146) rfl)) rfl, ztb_t (zt6 _ (List.mem_of_getElem? (i := 148) rfl)) rfl, sX10_name⟩
theorem gX10_195 : Cond.methodLink "SmellAbbeyModel" 195 yX10_isDigit ∈ ztb ∧ Cond.static yX10_isDigit ∈ ztb := ⟨ztb_t (zt6 _ (List.mem_of_getElem? (i := 150) rfl)) rfl, ztb_t (zt6 _ (List.mem_of_getElem? (i := 151) rfl)) rfl⟩
theorem sX10_sign : Cond.selects yX10_sign.cls yX10_sign yX10_sign ∈ ztb := zsel (q := (yX10_sign, 68)) (List.mem_of_getElem? (i := 52) rfl) rfl
theorem gX10_199 : Cond.methodLink "SmellAbbeyModel" 199 yX10_sign ∈ ztb ∧ Cond.instanceMethod yX10_sign ∈ ztb ∧ Cond.selects yX10_sign.cls yX10_sign yX10_sign ∈ ztb := ⟨ztb_t (zt6 _ (List.mem_of_getElem? (i := 154) rfl)) rfl, ztb_t (zt6 _ (List.mem_of_getElem? (i := 156) rfl)) rfl, sX10_sign⟩
theorem sX10_token : Cond.selects yX10_token.cls yX10_token yX10_token ∈ ztb := zsel (q := (yX10_token, 68)) (List.mem_of_getElem? (i := 48) rfl) rfl
theorem gX10_220 : Cond.methodLink "SmellAbbeyModel" 220 yX10_token ∈ ztb ∧ Cond.instanceMethod yX10_token ∈ ztb ∧ Cond.selects yX10_token.cls yX10_token yX10_token ∈ ztb := ⟨ztb_t (zt6 _ (List.mem_of_getElem? (i := 128) rfl)) rfl, ztb_t (zt6 _ (List.mem_of_getElem? (i := 130) rfl)) rfl, sX10_token⟩
theorem sX10_wrong : Cond.selects yX10_wrong.cls yX10_wrong yX10_wrong ∈ ztb := zsel (q := (yX10_wrong, 68)) (List.mem_of_getElem? (i := 54) rfl) rfl
theorem gX10_223 : Cond.methodLink "SmellAbbeyModel" 223 yX10_wrong ∈ ztb ∧ Cond.instanceMethod yX10_wrong ∈ ztb ∧ Cond.selects yX10_wrong.cls yX10_wrong yX10_wrong ∈ ztb := ⟨ztb_t (zt6 _ (List.mem_of_getElem? (i := 162) rfl)) rfl, ztb_t (zt6 _ (List.mem_of_getElem? (i := 164) rfl)) rfl, sX10_wrong⟩
theorem gX10_226 : Cond.methodLink "SmellAbbeyModel" 226 yX10_found ∈ ztb ∧ Cond.static yX10_found ∈ ztb := ⟨ztb_t (zt6 _ (List.mem_of_getElem? (i := 178) rfl)) rfl, ztb_t (zt6 _ (List.mem_of_getElem? (i := 179) rfl)) rfl⟩
theorem sX10_fresher : Cond.selects yX10_fresher.cls yX10_fresher yX10_fresher ∈ ztb := zsel (q := (yX10_fresher, 68)) (List.mem_of_getElem? (i := 56) rfl) rfl
theorem gX10_230 : Cond.methodLink "SmellAbbeyModel" 230 yX10_fresher ∈ ztb ∧ Cond.instanceMethod yX10_fresher ∈ ztb ∧ Cond.selects yX10_fresher.cls yX10_fresher yX10_fresher ∈ ztb := ⟨ztb_t (zt6 _ (List.mem_of_getElem? (i := 170) rfl)) rfl, ztb_t (zt6 _ (List.mem_of_getElem? (i := 172) rfl)) rfl, sX10_fresher⟩
theorem sX10_isFull : Cond.selects yX10_isFull.cls yX10_isFull yX10_isFull ∈ ztb := zsel (q := (yX10_isFull, 68)) (List.mem_of_getElem? (i := 55) rfl) rfl
theorem gX10_234 : Cond.methodLink "SmellAbbeyModel" 234 yX10_isFull ∈ ztb ∧ Cond.instanceMethod yX10_isFull ∈ ztb ∧ Cond.selects yX10_isFull.cls yX10_isFull yX10_isFull ∈ ztb := ⟨ztb_t (zt6 _ (List.mem_of_getElem? (i := 166) rfl)) rfl, ztb_t (zt6 _ (List.mem_of_getElem? (i := 168) rfl)) rfl, sX10_isFull⟩
theorem sX10_fresh : Cond.selects yX10_fresh.cls yX10_fresh yX10_fresh ∈ ztb := zsel (q := (yX10_fresh, 68)) (List.mem_of_getElem? (i := 57) rfl) rfl
theorem gX10_240 : Cond.methodLink "SmellAbbeyModel" 240 yX10_fresh ∈ ztb ∧ Cond.instanceMethod yX10_fresh ∈ ztb ∧ Cond.selects yX10_fresh.cls yX10_fresh yX10_fresh ∈ ztb := ⟨ztb_t (zt6 _ (List.mem_of_getElem? (i := 174) rfl)) rfl, ztb_t (zt6 _ (List.mem_of_getElem? (i := 176) rfl)) rfl, sX10_fresh⟩
theorem sX10_numeral : Cond.selects yX10_numeral.cls yX10_numeral yX10_numeral ∈ ztb := zsel (q := (yX10_numeral, 68)) (List.mem_of_getElem? (i := 58) rfl) rfl
theorem gX10_244 : Cond.methodLink "SmellAbbeyModel" 244 yX10_numeral ∈ ztb ∧ Cond.instanceMethod yX10_numeral ∈ ztb ∧ Cond.selects yX10_numeral.cls yX10_numeral yX10_numeral ∈ ztb := ⟨ztb_t (zt6 _ (List.mem_of_getElem? (i := 181) rfl)) rfl, ztb_t (zt6 _ (List.mem_of_getElem? (i := 183) rfl)) rfl, sX10_numeral⟩
theorem sX10_reads : Cond.selects yX10_reads.cls yX10_reads yX10_reads ∈ ztb := zsel (q := (yX10_reads, 68)) (List.mem_of_getElem? (i := 47) rfl) rfl
theorem gX10_248 : Cond.methodLink "SmellAbbeyModel" 248 yX10_reads ∈ ztb ∧ Cond.instanceMethod yX10_reads ∈ ztb ∧ Cond.selects yX10_reads.cls yX10_reads yX10_reads ∈ ztb := ⟨ztb_t (zt6 _ (List.mem_of_getElem? (i := 124) rfl)) rfl, ztb_t (zt6 _ (List.mem_of_getElem? (i := 126) rfl)) rfl, sX10_reads⟩
theorem sX10_dayLine : Cond.selects yX10_dayLine.cls yX10_dayLine yX10_dayLine ∈ ztb := zsel (q := (yX10_dayLine, 68)) (List.mem_of_getElem? (i := 59) rfl) rfl
theorem gX10_252 : Cond.methodLink "SmellAbbeyModel" 252 yX10_dayLine ∈ ztb ∧ Cond.instanceMethod yX10_dayLine ∈ ztb ∧ Cond.selects yX10_dayLine.cls yX10_dayLine yX10_dayLine ∈ ztb := ⟨ztb_t (zt6 _ (List.mem_of_getElem? (i := 185) rfl)) rfl, ztb_t (zt6 _ (List.mem_of_getElem? (i := 187) rfl)) rfl, sX10_dayLine⟩
theorem sX10_mixLine : Cond.selects yX10_mixLine.cls yX10_mixLine yX10_mixLine ∈ ztb := zsel (q := (yX10_mixLine, 68)) (List.mem_of_getElem? (i := 61) rfl) rfl
theorem gX10_255 : Cond.methodLink "SmellAbbeyModel" 255 yX10_mixLine ∈ ztb ∧ Cond.instanceMethod yX10_mixLine ∈ ztb ∧ Cond.selects yX10_mixLine.cls yX10_mixLine yX10_mixLine ∈ ztb := ⟨ztb_t (zt6 _ (List.mem_of_getElem? (i := 193) rfl)) rfl, ztb_t (zt6 _ (List.mem_of_getElem? (i := 195) rfl)) rfl, sX10_mixLine⟩
theorem sX10_toldAhead : Cond.selects yX10_toldAhead.cls yX10_toldAhead yX10_toldAhead ∈ ztb := zsel (q := (yX10_toldAhead, 68)) (List.mem_of_getElem? (i := 62) rfl) rfl
theorem gX10_258 : Cond.methodLink "SmellAbbeyModel" 258 yX10_toldAhead ∈ ztb ∧ Cond.instanceMethod yX10_toldAhead ∈ ztb ∧ Cond.selects yX10_toldAhead.cls yX10_toldAhead yX10_toldAhead ∈ ztb := ⟨ztb_t (zt6 _ (List.mem_of_getElem? (i := 197) rfl)) rfl, ztb_t (zt6 _ (List.mem_of_getElem? (i := 199) rfl)) rfl, sX10_toldAhead⟩
theorem sX10_goOn : Cond.selects yX10_goOn.cls yX10_goOn yX10_goOn ∈ ztb := zsel (q := (yX10_goOn, 68)) (List.mem_of_getElem? (i := 63) rfl) rfl
theorem gX10_261 : Cond.methodLink "SmellAbbeyModel" 261 yX10_goOn ∈ ztb ∧ Cond.instanceMethod yX10_goOn ∈ ztb ∧ Cond.selects yX10_goOn.cls yX10_goOn yX10_goOn ∈ ztb := ⟨ztb_t (zt6 _ (List.mem_of_getElem? (i := 201) rfl)) rfl, ztb_t (zt6 _ (List.mem_of_getElem? (i := 203) rfl)) rfl, sX10_goOn⟩
theorem sX10_lawLine : Cond.selects yX10_lawLine.cls yX10_lawLine yX10_lawLine ∈ ztb := zsel (q := (yX10_lawLine, 68)) (List.mem_of_getElem? (i := 64) rfl) rfl
theorem gX10_264 : Cond.methodLink "SmellAbbeyModel" 264 yX10_lawLine ∈ ztb ∧ Cond.instanceMethod yX10_lawLine ∈ ztb ∧ Cond.selects yX10_lawLine.cls yX10_lawLine yX10_lawLine ∈ ztb := ⟨ztb_t (zt6 _ (List.mem_of_getElem? (i := 205) rfl)) rfl, ztb_t (zt6 _ (List.mem_of_getElem? (i := 207) rfl)) rfl, sX10_lawLine⟩
theorem sX10_isSign : Cond.selects yX10_isSign.cls yX10_isSign yX10_isSign ∈ ztb := zsel (q := (yX10_isSign, 68)) (List.mem_of_getElem? (i := 73) rfl) rfl
theorem gX10_267 : Cond.methodLink "SmellAbbeyModel" 267 yX10_isSign ∈ ztb ∧ Cond.instanceMethod yX10_isSign ∈ ztb ∧ Cond.selects yX10_isSign.cls yX10_isSign yX10_isSign ∈ ztb := ⟨ztb_t (zt7 _ (List.mem_of_getElem? (i := 1) rfl)) rfl, ztb_t (zt7 _ (List.mem_of_getElem? (i := 3) rfl)) rfl, sX10_isSign⟩
theorem sX10_isWord : Cond.selects yX10_isWord.cls yX10_isWord yX10_isWord ∈ ztb := zsel (q := (yX10_isWord, 68)) (List.mem_of_getElem? (i := 60) rfl) rfl
theorem gX10_273 : Cond.methodLink "SmellAbbeyModel" 273 yX10_isWord ∈ ztb ∧ Cond.instanceMethod yX10_isWord ∈ ztb ∧ Cond.selects yX10_isWord.cls yX10_isWord yX10_isWord ∈ ztb := ⟨ztb_t (zt6 _ (List.mem_of_getElem? (i := 189) rfl)) rfl, ztb_t (zt6 _ (List.mem_of_getElem? (i := 191) rfl)) rfl, sX10_isWord⟩
theorem sX10_expression : Cond.selects yX10_expression.cls yX10_expression yX10_expression ∈ ztb := zsel (q := (yX10_expression, 68)) (List.mem_of_getElem? (i := 65) rfl) rfl
theorem gX10_276 : Cond.methodLink "SmellAbbeyModel" 276 yX10_expression ∈ ztb ∧ Cond.instanceMethod yX10_expression ∈ ztb ∧ Cond.selects yX10_expression.cls yX10_expression yX10_expression ∈ ztb := ⟨ztb_t (zt6 _ (List.mem_of_getElem? (i := 209) rfl)) rfl, ztb_t (zt6 _ (List.mem_of_getElem? (i := 211) rfl)) rfl, sX10_expression⟩
theorem sX10_conjunction : Cond.selects yX10_conjunction.cls yX10_conjunction yX10_conjunction ∈ ztb := zsel (q := (yX10_conjunction, 68)) (List.mem_of_getElem? (i := 66) rfl) rfl
theorem gX10_282 : Cond.methodLink "SmellAbbeyModel" 282 yX10_conjunction ∈ ztb ∧ Cond.instanceMethod yX10_conjunction ∈ ztb ∧ Cond.selects yX10_conjunction.cls yX10_conjunction yX10_conjunction ∈ ztb := ⟨ztb_t (zt6 _ (List.mem_of_getElem? (i := 213) rfl)) rfl, ztb_t (zt6 _ (List.mem_of_getElem? (i := 215) rfl)) rfl, sX10_conjunction⟩
theorem sX10_knot : Cond.selects yX10_knot.cls yX10_knot yX10_knot ∈ ztb := zsel (q := (yX10_knot, 68)) (List.mem_of_getElem? (i := 68) rfl) rfl
theorem gX10_285 : Cond.methodLink "SmellAbbeyModel" 285 yX10_knot ∈ ztb ∧ Cond.instanceMethod yX10_knot ∈ ztb ∧ Cond.selects yX10_knot.cls yX10_knot yX10_knot ∈ ztb := ⟨ztb_t (zt6 _ (List.mem_of_getElem? (i := 221) rfl)) rfl, ztb_t (zt6 _ (List.mem_of_getElem? (i := 223) rfl)) rfl, sX10_knot⟩
theorem sX10_puts : Cond.selects yX10_puts.cls yX10_puts yX10_puts ∈ ztb := zsel (q := (yX10_puts, 68)) (List.mem_of_getElem? (i := 69) rfl) rfl
theorem gX10_288 : Cond.methodLink "SmellAbbeyModel" 288 yX10_puts ∈ ztb ∧ Cond.instanceMethod yX10_puts ∈ ztb ∧ Cond.selects yX10_puts.cls yX10_puts yX10_puts ∈ ztb := ⟨ztb_t (zt6 _ (List.mem_of_getElem? (i := 225) rfl)) rfl, ztb_t (zt6 _ (List.mem_of_getElem? (i := 227) rfl)) rfl, sX10_puts⟩
theorem sX10_negation : Cond.selects yX10_negation.cls yX10_negation yX10_negation ∈ ztb := zsel (q := (yX10_negation, 68)) (List.mem_of_getElem? (i := 67) rfl) rfl
theorem gX10_291 : Cond.methodLink "SmellAbbeyModel" 291 yX10_negation ∈ ztb ∧ Cond.instanceMethod yX10_negation ∈ ztb ∧ Cond.selects yX10_negation.cls yX10_negation yX10_negation ∈ ztb := ⟨ztb_t (zt6 _ (List.mem_of_getElem? (i := 217) rfl)) rfl, ztb_t (zt6 _ (List.mem_of_getElem? (i := 219) rfl)) rfl, sX10_negation⟩
theorem sX10_sum : Cond.selects yX10_sum.cls yX10_sum yX10_sum ∈ ztb := zsel (q := (yX10_sum, 68)) (List.mem_of_getElem? (i := 70) rfl) rfl
theorem gX10_294 : Cond.methodLink "SmellAbbeyModel" 294 yX10_sum ∈ ztb ∧ Cond.instanceMethod yX10_sum ∈ ztb ∧ Cond.selects yX10_sum.cls yX10_sum yX10_sum ∈ ztb := ⟨ztb_t (zt6 _ (List.mem_of_getElem? (i := 229) rfl)) rfl, ztb_t (zt6 _ (List.mem_of_getElem? (i := 231) rfl)) rfl, sX10_sum⟩
theorem sX10_product : Cond.selects yX10_product.cls yX10_product yX10_product ∈ ztb := zsel (q := (yX10_product, 68)) (List.mem_of_getElem? (i := 71) rfl) rfl
theorem gX10_297 : Cond.methodLink "SmellAbbeyModel" 297 yX10_product ∈ ztb ∧ Cond.instanceMethod yX10_product ∈ ztb ∧ Cond.selects yX10_product.cls yX10_product yX10_product ∈ ztb := ⟨ztb_t (zt6 _ (List.mem_of_getElem? (i := 233) rfl)) rfl, ztb_t (zt6 _ (List.mem_of_getElem? (i := 235) rfl)) rfl, sX10_product⟩
theorem sX10_primary : Cond.selects yX10_primary.cls yX10_primary yX10_primary ∈ ztb := zsel (q := (yX10_primary, 68)) (List.mem_of_getElem? (i := 72) rfl) rfl
theorem gX10_300 : Cond.methodLink "SmellAbbeyModel" 300 yX10_primary ∈ ztb ∧ Cond.instanceMethod yX10_primary ∈ ztb ∧ Cond.selects yX10_primary.cls yX10_primary yX10_primary ∈ ztb := ⟨ztb_t (zt6 _ (List.mem_of_getElem? (i := 237) rfl)) rfl, ztb_t (zt6 _ (List.mem_of_getElem? (i := 239) rfl)) rfl, sX10_primary⟩
theorem sX10_line : Cond.selects yX10_line.cls yX10_line yX10_line ∈ ztb := zsel (q := (yX10_line, 68)) (List.mem_of_getElem? (i := 53) rfl) rfl
theorem gX10_306 : Cond.methodLink "SmellAbbeyModel" 306 yX10_line ∈ ztb ∧ Cond.instanceMethod yX10_line ∈ ztb ∧ Cond.selects yX10_line.cls yX10_line yX10_line ∈ ztb := ⟨ztb_t (zt6 _ (List.mem_of_getElem? (i := 158) rfl)) rfl, ztb_t (zt6 _ (List.mem_of_getElem? (i := 160) rfl)) rfl, sX10_line⟩
theorem gX10_312 : Cond.methodLink "SmellAbbeyModel" 312 yX10_half ∈ ztb ∧ Cond.static yX10_half ∈ ztb := ⟨ztb_t (zt7 _ (List.mem_of_getElem? (i := 5) rfl)) rfl, ztb_t (zt7 _ (List.mem_of_getElem? (i := 6) rfl)) rfl⟩
theorem gX10_329 : Cond.methodLink "SmellAbbeyModel" 329 yX10_is ∈ ztb ∧ Cond.static yX10_is ∈ ztb := ⟨ztb_t (zt7 _ (List.mem_of_getElem? (i := 56) rfl)) rfl, ztb_t (zt7 _ (List.mem_of_getElem? (i := 57) rfl)) rfl⟩
theorem sX10_works : Cond.selects yX10_works.cls yX10_works yX10_works ∈ ztb := zsel (q := (yX10_works, 68)) (List.mem_of_getElem? (i := 81) rfl) rfl
theorem gX10_343 : Cond.methodLink "SmellAbbeyModel" 343 yX10_works ∈ ztb ∧ Cond.instanceMethod yX10_works ∈ ztb ∧ Cond.selects yX10_works.cls yX10_works yX10_works ∈ ztb := ⟨ztb_t (zt7 _ (List.mem_of_getElem? (i := 52) rfl)) rfl, ztb_t (zt7 _ (List.mem_of_getElem? (i := 54) rfl)) rfl, sX10_works⟩
theorem sX10_starts : Cond.selects yX10_starts.cls yX10_starts yX10_starts ∈ ztb := zsel (q := (yX10_starts, 68)) (List.mem_of_getElem? (i := 46) rfl) rfl
theorem gX10_346 : Cond.methodLink "SmellAbbeyModel" 346 yX10_starts ∈ ztb ∧ Cond.instanceMethod yX10_starts ∈ ztb ∧ Cond.selects yX10_starts.cls yX10_starts yX10_starts ∈ ztb := ⟨ztb_t (zt5 _ (List.mem_of_getElem? (i := 143) rfl)) rfl, ztb_t (zt5 _ (List.mem_of_getElem? (i := 145) rfl)) rfl, sX10_starts⟩
theorem sX10_hasLaw : Cond.selects yX10_hasLaw.cls yX10_hasLaw yX10_hasLaw ∈ ztb := zsel (q := (yX10_hasLaw, 68)) (List.mem_of_getElem? (i := 79) rfl) rfl
theorem gX10_355 : Cond.methodLink "SmellAbbeyModel" 355 yX10_hasLaw ∈ ztb ∧ Cond.instanceMethod yX10_hasLaw ∈ ztb ∧ Cond.selects yX10_hasLaw.cls yX10_hasLaw yX10_hasLaw ∈ ztb := ⟨ztb_t (zt7 _ (List.mem_of_getElem? (i := 44) rfl)) rfl, ztb_t (zt7 _ (List.mem_of_getElem? (i := 46) rfl)) rfl, sX10_hasLaw⟩
theorem sX10_comesOut : Cond.selects yX10_comesOut.cls yX10_comesOut yX10_comesOut ∈ ztb := zsel (q := (yX10_comesOut, 68)) (List.mem_of_getElem? (i := 80) rfl) rfl
theorem gX10_358 : Cond.methodLink "SmellAbbeyModel" 358 yX10_comesOut ∈ ztb ∧ Cond.instanceMethod yX10_comesOut ∈ ztb ∧ Cond.selects yX10_comesOut.cls yX10_comesOut yX10_comesOut ∈ ztb := ⟨ztb_t (zt7 _ (List.mem_of_getElem? (i := 48) rfl)) rfl, ztb_t (zt7 _ (List.mem_of_getElem? (i := 50) rfl)) rfl, sX10_comesOut⟩
theorem sX10_partIn : Cond.selects yX10_partIn.cls yX10_partIn yX10_partIn ∈ ztb := zsel (q := (yX10_partIn, 68)) (List.mem_of_getElem? (i := 87) rfl) rfl
theorem gX10_368 : Cond.methodLink "SmellAbbeyModel" 368 yX10_partIn ∈ ztb ∧ Cond.instanceMethod yX10_partIn ∈ ztb ∧ Cond.selects yX10_partIn.cls yX10_partIn yX10_partIn ∈ ztb := ⟨ztb_t (zt7 _ (List.mem_of_getElem? (i := 102) rfl)) rfl, ztb_t (zt7 _ (List.mem_of_getElem? (i := 104) rfl)) rfl, sX10_partIn⟩
theorem sX10_calls : Cond.selects yX10_calls.cls yX10_calls yX10_calls ∈ ztb := zsel (q := (yX10_calls, 68)) (List.mem_of_getElem? (i := 77) rfl) rfl
theorem gX10_371 : Cond.methodLink "SmellAbbeyModel" 371 yX10_calls ∈ ztb ∧ Cond.instanceMethod yX10_calls ∈ ztb ∧ Cond.selects yX10_calls.cls yX10_calls yX10_calls ∈ ztb := ⟨ztb_t (zt7 _ (List.mem_of_getElem? (i := 36) rfl)) rfl, ztb_t (zt7 _ (List.mem_of_getElem? (i := 38) rfl)) rfl, sX10_calls⟩
theorem sX10_within : Cond.selects yX10_within.cls yX10_within yX10_within ∈ ztb := zsel (q := (yX10_within, 68)) (List.mem_of_getElem? (i := 78) rfl) rfl
theorem gX10_375 : Cond.methodLink "SmellAbbeyModel" 375 yX10_within ∈ ztb ∧ Cond.instanceMethod yX10_within ∈ ztb ∧ Cond.selects yX10_within.cls yX10_within yX10_within ∈ ztb := ⟨ztb_t (zt7 _ (List.mem_of_getElem? (i := 40) rfl)) rfl, ztb_t (zt7 _ (List.mem_of_getElem? (i := 42) rfl)) rfl, sX10_within⟩
theorem sX10_keenIn : Cond.selects yX10_keenIn.cls yX10_keenIn yX10_keenIn ∈ ztb := zsel (q := (yX10_keenIn, 68)) (List.mem_of_getElem? (i := 86) rfl) rfl
theorem gX10_379 : Cond.methodLink "SmellAbbeyModel" 379 yX10_keenIn ∈ ztb ∧ Cond.instanceMethod yX10_keenIn ∈ ztb ∧ Cond.selects yX10_keenIn.cls yX10_keenIn yX10_keenIn ∈ ztb := ⟨ztb_t (zt7 _ (List.mem_of_getElem? (i := 98) rfl)) rfl, ztb_t (zt7 _ (List.mem_of_getElem? (i := 100) rfl)) rfl, sX10_keenIn⟩
theorem sX10_mixOf : Cond.selects yX10_mixOf.cls yX10_mixOf yX10_mixOf ∈ ztb := zsel (q := (yX10_mixOf, 68)) (List.mem_of_getElem? (i := 90) rfl) rfl
theorem gX10_383 : Cond.methodLink "SmellAbbeyModel" 383 yX10_mixOf ∈ ztb ∧ Cond.instanceMethod yX10_mixOf ∈ ztb ∧ Cond.selects yX10_mixOf.cls yX10_mixOf yX10_mixOf ∈ ztb := ⟨ztb_t (zt7 _ (List.mem_of_getElem? (i := 114) rfl)) rfl, ztb_t (zt7 _ (List.mem_of_getElem? (i := 116) rfl)) rfl, sX10_mixOf⟩
theorem sX10_keenOf : Cond.selects yX10_keenOf.cls yX10_keenOf yX10_keenOf ∈ ztb := zsel (q := (yX10_keenOf, 68)) (List.mem_of_getElem? (i := 85) rfl) rfl
theorem gX10_386 : Cond.methodLink "SmellAbbeyModel" 386 yX10_keenOf ∈ ztb ∧ Cond.instanceMethod yX10_keenOf ∈ ztb ∧ Cond.selects yX10_keenOf.cls yX10_keenOf yX10_keenOf ∈ ztb := ⟨ztb_t (zt7 _ (List.mem_of_getElem? (i := 94) rfl)) rfl, ztb_t (zt7 _ (List.mem_of_getElem? (i := 96) rfl)) rfl, sX10_keenOf⟩
theorem sX10_coldsOf : Cond.selects yX10_coldsOf.cls yX10_coldsOf yX10_coldsOf ∈ ztb := zsel (q := (yX10_coldsOf, 68)) (List.mem_of_getElem? (i := 88) rfl) rfl
theorem gX10_389 : Cond.methodLink "SmellAbbeyModel" 389 yX10_coldsOf ∈ ztb ∧ Cond.instanceMethod yX10_coldsOf ∈ ztb ∧ Cond.selects yX10_coldsOf.cls yX10_coldsOf yX10_coldsOf ∈ ztb := ⟨ztb_t (zt7 _ (List.mem_of_getElem? (i := 106) rfl)) rfl, ztb_t (zt7 _ (List.mem_of_getElem? (i := 108) rfl)) rfl, sX10_coldsOf⟩
theorem sX10_markBy : Cond.selects yX10_markBy.cls yX10_markBy yX10_markBy ∈ ztb := zsel (q := (yX10_markBy, 68)) (List.mem_of_getElem? (i := 89) rfl) rfl
theorem gX10_392 : Cond.methodLink "SmellAbbeyModel" 392 yX10_markBy ∈ ztb ∧ Cond.instanceMethod yX10_markBy ∈ ztb ∧ Cond.selects yX10_markBy.cls yX10_markBy yX10_markBy ∈ ztb := ⟨ztb_t (zt7 _ (List.mem_of_getElem? (i := 110) rfl)) rfl, ztb_t (zt7 _ (List.mem_of_getElem? (i := 112) rfl)) rfl, sX10_markBy⟩
theorem sX10_markOf : Cond.selects yX10_markOf.cls yX10_markOf yX10_markOf ∈ ztb := zsel (q := (yX10_markOf, 68)) (List.mem_of_getElem? (i := 84) rfl) rfl
theorem gX10_397 : Cond.methodLink "SmellAbbeyModel" 397 yX10_markOf ∈ ztb ∧ Cond.instanceMethod yX10_markOf ∈ ztb ∧ Cond.selects yX10_markOf.cls yX10_markOf yX10_markOf ∈ ztb := ⟨ztb_t (zt7 _ (List.mem_of_getElem? (i := 90) rfl)) rfl, ztb_t (zt7 _ (List.mem_of_getElem? (i := 92) rfl)) rfl, sX10_markOf⟩
theorem sX10_mixes : Cond.selects yX10_mixes.cls yX10_mixes yX10_mixes ∈ ztb := zsel (q := (yX10_mixes, 68)) (List.mem_of_getElem? (i := 94) rfl) rfl
theorem gX10_400 : Cond.methodLink "SmellAbbeyModel" 400 yX10_mixes ∈ ztb ∧ Cond.instanceMethod yX10_mixes ∈ ztb ∧ Cond.selects yX10_mixes.cls yX10_mixes yX10_mixes ∈ ztb := ⟨ztb_t (zt7 _ (List.mem_of_getElem? (i := 155) rfl)) rfl, ztb_t (zt7 _ (List.mem_of_getElem? (i := 157) rfl)) rfl, sX10_mixes⟩
theorem sX10_drifts : Cond.selects yX10_drifts.cls yX10_drifts yX10_drifts ∈ ztb := zsel (q := (yX10_drifts, 68)) (List.mem_of_getElem? (i := 95) rfl) rfl
theorem gX10_403 : Cond.methodLink "SmellAbbeyModel" 403 yX10_drifts ∈ ztb ∧ Cond.instanceMethod yX10_drifts ∈ ztb ∧ Cond.selects yX10_drifts.cls yX10_drifts yX10_drifts ∈ ztb := ⟨ztb_t (zt7 _ (List.mem_of_getElem? (i := 160) rfl)) rfl, ztb_t (zt7 _ (List.mem_of_getElem? (i := 162) rfl)) rfl, sX10_drifts⟩
theorem sX10_smells : Cond.selects yX10_smells.cls yX10_smells yX10_smells ∈ ztb := zsel (q := (yX10_smells, 68)) (List.mem_of_getElem? (i := 96) rfl) rfl
theorem gX10_406 : Cond.methodLink "SmellAbbeyModel" 406 yX10_smells ∈ ztb ∧ Cond.instanceMethod yX10_smells ∈ ztb ∧ Cond.selects yX10_smells.cls yX10_smells yX10_smells ∈ ztb := ⟨ztb_t (zt7 _ (List.mem_of_getElem? (i := 164) rfl)) rfl, ztb_t (zt7 _ (List.mem_of_getElem? (i := 166) rfl)) rfl, sX10_smells⟩
theorem sX10_thinks : Cond.selects yX10_thinks.cls yX10_thinks yX10_thinks ∈ ztb := zsel (q := (yX10_thinks, 68)) (List.mem_of_getElem? (i := 97) rfl) rfl
theorem gX10_409 : Cond.methodLink "SmellAbbeyModel" 409 yX10_thinks ∈ ztb ∧ Cond.instanceMethod yX10_thinks ∈ ztb ∧ Cond.selects yX10_thinks.cls yX10_thinks yX10_thinks ∈ ztb := ⟨ztb_t (zt7 _ (List.mem_of_getElem? (i := 168) rfl)) rfl, ztb_t (zt7 _ (List.mem_of_getElem? (i := 170) rfl)) rfl, sX10_thinks⟩
theorem sX10_keepsHouse : Cond.selects yX10_keepsHouse.cls yX10_keepsHouse yX10_keepsHouse ∈ ztb := zsel (q := (yX10_keepsHouse, 68)) (List.mem_of_getElem? (i := 98) rfl) rfl
theorem gX10_412 : Cond.methodLink "SmellAbbeyModel" 412 yX10_keepsHouse ∈ ztb ∧ Cond.instanceMethod yX10_keepsHouse ∈ ztb ∧ Cond.selects yX10_keepsHouse.cls yX10_keepsHouse yX10_keepsHouse ∈ ztb := ⟨ztb_t (zt7 _ (List.mem_of_getElem? (i := 172) rfl)) rfl, ztb_t (zt7 _ (List.mem_of_getElem? (i := 174) rfl)) rfl, sX10_keepsHouse⟩
theorem sX10_isMonk : Cond.selects yX10_isMonk.cls yX10_isMonk yX10_isMonk ∈ ztb := zsel (q := (yX10_isMonk, 68)) (List.mem_of_getElem? (i := 74) rfl) rfl
theorem gX10_415 : Cond.methodLink "SmellAbbeyModel" 415 yX10_isMonk ∈ ztb ∧ Cond.instanceMethod yX10_isMonk ∈ ztb ∧ Cond.selects yX10_isMonk.cls yX10_isMonk yX10_isMonk ∈ ztb := ⟨ztb_t (zt7 _ (List.mem_of_getElem? (i := 20) rfl)) rfl, ztb_t (zt7 _ (List.mem_of_getElem? (i := 22) rfl)) rfl, sX10_isMonk⟩
theorem sX10_isStuff : Cond.selects yX10_isStuff.cls yX10_isStuff yX10_isStuff ∈ ztb := zsel (q := (yX10_isStuff, 68)) (List.mem_of_getElem? (i := 75) rfl) rfl
theorem gX10_418 : Cond.methodLink "SmellAbbeyModel" 418 yX10_isStuff ∈ ztb ∧ Cond.instanceMethod yX10_isStuff ∈ ztb ∧ Cond.selects yX10_isStuff.cls yX10_isStuff yX10_isStuff ∈ ztb := ⟨ztb_t (zt7 _ (List.mem_of_getElem? (i := 28) rfl)) rfl, ztb_t (zt7 _ (List.mem_of_getElem? (i := 30) rfl)) rfl, sX10_isStuff⟩
theorem sX10_worthOf : Cond.selects yX10_worthOf.cls yX10_worthOf yX10_worthOf ∈ ztb := zsel (q := (yX10_worthOf, 68)) (List.mem_of_getElem? (i := 76) rfl) rfl
theorem gX10_421 : Cond.methodLink "SmellAbbeyModel" 421 yX10_worthOf ∈ ztb ∧ Cond.instanceMethod yX10_worthOf ∈ ztb ∧ Cond.selects yX10_worthOf.cls yX10_worthOf yX10_worthOf ∈ ztb := ⟨ztb_t (zt7 _ (List.mem_of_getElem? (i := 32) rfl)) rfl, ztb_t (zt7 _ (List.mem_of_getElem? (i := 34) rfl)) rfl, sX10_worthOf⟩
theorem sX10_isDay : Cond.selects yX10_isDay.cls yX10_isDay yX10_isDay ∈ ztb := zsel (q := (yX10_isDay, 68)) (List.mem_of_getElem? (i := 82) rfl) rfl
theorem gX10_424 : Cond.methodLink "SmellAbbeyModel" 424 yX10_isDay ∈ ztb ∧ Cond.instanceMethod yX10_isDay ∈ ztb ∧ Cond.selects yX10_isDay.cls yX10_isDay yX10_isDay ∈ ztb := ⟨ztb_t (zt7 _ (List.mem_of_getElem? (i := 70) rfl)) rfl, ztb_t (zt7 _ (List.mem_of_getElem? (i := 72) rfl)) rfl, sX10_isDay⟩
theorem sX10_isRoom : Cond.selects yX10_isRoom.cls yX10_isRoom yX10_isRoom ∈ ztb := zsel (q := (yX10_isRoom, 68)) (List.mem_of_getElem? (i := 83) rfl) rfl
theorem gX10_427 : Cond.methodLink "SmellAbbeyModel" 427 yX10_isRoom ∈ ztb ∧ Cond.instanceMethod yX10_isRoom ∈ ztb ∧ Cond.selects yX10_isRoom.cls yX10_isRoom yX10_isRoom ∈ ztb := ⟨ztb_t (zt7 _ (List.mem_of_getElem? (i := 82) rfl)) rfl, ztb_t (zt7 _ (List.mem_of_getElem? (i := 84) rfl)) rfl, sX10_isRoom⟩
theorem sX10_copies : Cond.selects yX10_copies.cls yX10_copies yX10_copies ∈ ztb := zsel (q := (yX10_copies, 68)) (List.mem_of_getElem? (i := 92) rfl) rfl
theorem gX10_434 : Cond.methodLink "SmellAbbeyModel" 434 yX10_copies ∈ ztb ∧ Cond.instanceMethod yX10_copies ∈ ztb ∧ Cond.selects yX10_copies.cls yX10_copies yX10_copies ∈ ztb := ⟨ztb_t (zt7 _ (List.mem_of_getElem? (i := 131) rfl)) rfl, ztb_t (zt7 _ (List.mem_of_getElem? (i := 133) rfl)) rfl, sX10_copies⟩
theorem sX10_keepNow : Cond.selects yX10_keepNow.cls yX10_keepNow yX10_keepNow ∈ ztb := zsel (q := (yX10_keepNow, 68)) (List.mem_of_getElem? (i := 91) rfl) rfl
theorem gX10_437 : Cond.methodLink "SmellAbbeyModel" 437 yX10_keepNow ∈ ztb ∧ Cond.instanceMethod yX10_keepNow ∈ ztb ∧ Cond.selects yX10_keepNow.cls yX10_keepNow yX10_keepNow ∈ ztb := ⟨ztb_t (zt7 _ (List.mem_of_getElem? (i := 127) rfl)) rfl, ztb_t (zt7 _ (List.mem_of_getElem? (i := 129) rfl)) rfl, sX10_keepNow⟩
theorem sX10_passes : Cond.selects yX10_passes.cls yX10_passes yX10_passes ∈ ztb := zsel (q := (yX10_passes, 68)) (List.mem_of_getElem? (i := 93) rfl) rfl
theorem gX10_440 : Cond.methodLink "SmellAbbeyModel" 440 yX10_passes ∈ ztb ∧ Cond.instanceMethod yX10_passes ∈ ztb ∧ Cond.selects yX10_passes.cls yX10_passes yX10_passes ∈ ztb := ⟨ztb_t (zt7 _ (List.mem_of_getElem? (i := 151) rfl)) rfl, ztb_t (zt7 _ (List.mem_of_getElem? (i := 153) rfl)) rfl, sX10_passes⟩
theorem sX10_layMarks : Cond.selects yX10_layMarks.cls yX10_layMarks yX10_layMarks ∈ ztb := zsel (q := (yX10_layMarks, 68)) (List.mem_of_getElem? (i := 100) rfl) rfl
theorem gX10_443 : Cond.methodLink "SmellAbbeyModel" 443 yX10_layMarks ∈ ztb ∧ Cond.instanceMethod yX10_layMarks ∈ ztb ∧ Cond.selects yX10_layMarks.cls yX10_layMarks yX10_layMarks ∈ ztb := ⟨ztb_t (zt7 _ (List.mem_of_getElem? (i := 184) rfl)) rfl, ztb_t (zt7 _ (List.mem_of_getElem? (i := 186) rfl)) rfl, sX10_layMarks⟩
theorem sX10_pairOf : Cond.selects yX10_pairOf.cls yX10_pairOf yX10_pairOf ∈ ztb := zsel (q := (yX10_pairOf, 68)) (List.mem_of_getElem? (i := 99) rfl) rfl
theorem gX10_446 : Cond.methodLink "SmellAbbeyModel" 446 yX10_pairOf ∈ ztb ∧ Cond.instanceMethod yX10_pairOf ∈ ztb ∧ Cond.selects yX10_pairOf.cls yX10_pairOf yX10_pairOf ∈ ztb := ⟨ztb_t (zt7 _ (List.mem_of_getElem? (i := 180) rfl)) rfl, ztb_t (zt7 _ (List.mem_of_getElem? (i := 182) rfl)) rfl, sX10_pairOf⟩
theorem sX10_laySextons : Cond.selects yX10_laySextons.cls yX10_laySextons yX10_laySextons ∈ ztb := zsel (q := (yX10_laySextons, 68)) (List.mem_of_getElem? (i := 103) rfl) rfl
theorem gX10_451 : Cond.methodLink "SmellAbbeyModel" 451 yX10_laySextons ∈ ztb ∧ Cond.instanceMethod yX10_laySextons ∈ ztb ∧ Cond.selects yX10_laySextons.cls yX10_laySextons yX10_laySextons ∈ ztb := ⟨ztb_t (zt7 _ (List.mem_of_getElem? (i := 237) rfl)) rfl, ztb_t (zt7 _ (List.mem_of_getElem? (i := 239) rfl)) rfl, sX10_laySextons⟩
theorem sX10_isRest : Cond.selects yX10_isRest.cls yX10_isRest yX10_isRest ∈ ztb := zsel (q := (yX10_isRest, 68)) (List.mem_of_getElem? (i := 104) rfl) rfl
theorem gX10_454 : Cond.methodLink "SmellAbbeyModel" 454 yX10_isRest ∈ ztb ∧ Cond.instanceMethod yX10_isRest ∈ ztb ∧ Cond.selects yX10_isRest.cls yX10_isRest yX10_isRest ∈ ztb := ⟨ztb_t (zt8 _ (List.mem_of_getElem? (i := 1) rfl)) rfl, ztb_t (zt8 _ (List.mem_of_getElem? (i := 3) rfl)) rfl, sX10_isRest⟩
theorem sX10_areSextons : Cond.selects yX10_areSextons.cls yX10_areSextons yX10_areSextons ∈ ztb := zsel (q := (yX10_areSextons, 68)) (List.mem_of_getElem? (i := 101) rfl) rfl
theorem gX10_458 : Cond.methodLink "SmellAbbeyModel" 458 yX10_areSextons ∈ ztb ∧ Cond.instanceMethod yX10_areSextons ∈ ztb ∧ Cond.selects yX10_areSextons.cls yX10_areSextons yX10_areSextons ∈ ztb := ⟨ztb_t (zt7 _ (List.mem_of_getElem? (i := 229) rfl)) rfl, ztb_t (zt7 _ (List.mem_of_getElem? (i := 231) rfl)) rfl, sX10_areSextons⟩
theorem sX10_restOf : Cond.selects yX10_restOf.cls yX10_restOf yX10_restOf ∈ ztb := zsel (q := (yX10_restOf, 68)) (List.mem_of_getElem? (i := 102) rfl) rfl
theorem gX10_461 : Cond.methodLink "SmellAbbeyModel" 461 yX10_restOf ∈ ztb ∧ Cond.instanceMethod yX10_restOf ∈ ztb ∧ Cond.selects yX10_restOf.cls yX10_restOf yX10_restOf ∈ ztb := ⟨ztb_t (zt7 _ (List.mem_of_getElem? (i := 233) rfl)) rfl, ztb_t (zt7 _ (List.mem_of_getElem? (i := 235) rfl)) rfl, sX10_restOf⟩
theorem sX10_knownMany : Cond.selects yX10_knownMany.cls yX10_knownMany yX10_knownMany ∈ ztb := zsel (q := (yX10_knownMany, 68)) (List.mem_of_getElem? (i := 105) rfl) rfl
theorem gX10_464 : Cond.methodLink "SmellAbbeyModel" 464 yX10_knownMany ∈ ztb ∧ Cond.instanceMethod yX10_knownMany ∈ ztb ∧ Cond.selects yX10_knownMany.cls yX10_knownMany yX10_knownMany ∈ ztb := ⟨ztb_t (zt8 _ (List.mem_of_getElem? (i := 25) rfl)) rfl, ztb_t (zt8 _ (List.mem_of_getElem? (i := 27) rfl)) rfl, sX10_knownMany⟩
theorem sX10_isSo : Cond.selects yX10_isSo.cls yX10_isSo yX10_isSo ∈ ztb := zsel (q := (yX10_isSo, 68)) (List.mem_of_getElem? (i := 107) rfl) rfl
theorem gX10_467 : Cond.methodLink "SmellAbbeyModel" 467 yX10_isSo ∈ ztb ∧ Cond.instanceMethod yX10_isSo ∈ ztb ∧ Cond.selects yX10_isSo.cls yX10_isSo yX10_isSo ∈ ztb := ⟨ztb_t (zt8 _ (List.mem_of_getElem? (i := 33) rfl)) rfl, ztb_t (zt8 _ (List.mem_of_getElem? (i := 35) rfl)) rfl, sX10_isSo⟩
theorem sX10_fitsCold : Cond.selects yX10_fitsCold.cls yX10_fitsCold yX10_fitsCold ∈ ztb := zsel (q := (yX10_fitsCold, 68)) (List.mem_of_getElem? (i := 106) rfl) rfl
theorem gX10_470 : Cond.methodLink "SmellAbbeyModel" 470 yX10_fitsCold ∈ ztb ∧ Cond.instanceMethod yX10_fitsCold ∈ ztb ∧ Cond.selects yX10_fitsCold.cls yX10_fitsCold yX10_fitsCold ∈ ztb := ⟨ztb_t (zt8 _ (List.mem_of_getElem? (i := 29) rfl)) rfl, ztb_t (zt8 _ (List.mem_of_getElem? (i := 31) rfl)) rfl, sX10_fitsCold⟩
theorem sX10_draw : Cond.selects yX10_draw.cls yX10_draw yX10_draw ∈ ztb := zsel (q := (yX10_draw, 68)) (List.mem_of_getElem? (i := 108) rfl) rfl
theorem gX10_478 : Cond.methodLink "SmellAbbeyModel" 478 yX10_draw ∈ ztb ∧ Cond.instanceMethod yX10_draw ∈ ztb ∧ Cond.selects yX10_draw.cls yX10_draw yX10_draw ∈ ztb := ⟨ztb_t (zt8 _ (List.mem_of_getElem? (i := 41) rfl)) rfl, ztb_t (zt8 _ (List.mem_of_getElem? (i := 43) rfl)) rfl, sX10_draw⟩
theorem kX9_313 : Cond.constant "SmellAbbey" 313 (1000000) ∈ ztb := ztb_t (zt5 _ (List.mem_of_getElem? (i := 15) rfl)) rfl
theorem kX3_132 : Cond.constant "SmellAbbey$Reader" 132 (99999) ∈ ztb := ztb_t (zt3 _ (List.mem_of_getElem? (i := 93) rfl)) rfl
theorem kX4_75 : Cond.constant "SmellAbbey$Scanner" 75 (1000000) ∈ ztb := ztb_t (zt3 _ (List.mem_of_getElem? (i := 21) rfl)) rfl
theorem kX10_198 : Cond.constant "SmellAbbeyModel" 198 (99999) ∈ ztb := ztb_t (zt6 _ (List.mem_of_getElem? (i := 153) rfl)) rfl
theorem kX10_474 : Cond.constant "SmellAbbeyModel" 474 (1103515245) ∈ ztb := ztb_t (zt8 _ (List.mem_of_getElem? (i := 45) rfl)) rfl
theorem kX10_477 : Cond.constant "SmellAbbeyModel" 477 (2147483647) ∈ ztb := ztb_t (zt8 _ (List.mem_of_getElem? (i := 46) rfl)) rfl
theorem kX9_181 : Cond.constantLong "SmellAbbey" 181 (-9223372036854775808) ∈ ztb := ztb_t (zt4 _ (List.mem_of_getElem? (i := 13) rfl)) rfl
theorem kX0_44 : Cond.constantLong "SmellAbbey$Laws" 44 (-9223372036854775808) ∈ ztb := ztb_t (zt3 _ (List.mem_of_getElem? (i := 190) rfl)) rfl
theorem kX0_54 : Cond.constantLong "SmellAbbey$Laws" 54 (1000000000000) ∈ ztb := ztb_t (zt3 _ (List.mem_of_getElem? (i := 194) rfl)) rfl
theorem kX0_56 : Cond.constantLong "SmellAbbey$Laws" 56 (-1000000000000) ∈ ztb := ztb_t (zt3 _ (List.mem_of_getElem? (i := 198) rfl)) rfl
theorem kX2_13 : Cond.constantLong "SmellAbbey$Numbers" 13 (1103515245) ∈ ztb := ztb_t (zt5 _ (List.mem_of_getElem? (i := 3) rfl)) rfl
theorem kX2_15 : Cond.constantLong "SmellAbbey$Numbers" 15 (12345) ∈ ztb := ztb_t (zt5 _ (List.mem_of_getElem? (i := 4) rfl)) rfl
theorem kX2_17 : Cond.constantLong "SmellAbbey$Numbers" 17 (2147483647) ∈ ztb := ztb_t (zt5 _ (List.mem_of_getElem? (i := 5) rfl)) rfl
theorem kX2_19 : Cond.constantLong "SmellAbbey$Numbers" 19 (65536) ∈ ztb := ztb_t (zt5 _ (List.mem_of_getElem? (i := 6) rfl)) rfl
theorem kX5_111 : Cond.constantLong "SmellAbbey$State" 111 (-9223372036854775808) ∈ ztb := ztb_t (zt3 _ (List.mem_of_getElem? (i := 199) rfl)) rfl
theorem kX10_339 : Cond.constantLong "SmellAbbeyModel" 339 (1000000000000) ∈ ztb := ztb_t (zt7 _ (List.mem_of_getElem? (i := 62) rfl)) rfl
theorem kX10_341 : Cond.constantLong "SmellAbbeyModel" 341 (-1000000000000) ∈ ztb := ztb_t (zt7 _ (List.mem_of_getElem? (i := 63) rfl)) rfl
theorem kX10_432 : Cond.constantLong "SmellAbbeyModel" 432 (-9223372036854775808) ∈ ztb := ztb_t (zt7 _ (List.mem_of_getElem? (i := 122) rfl)) rfl
