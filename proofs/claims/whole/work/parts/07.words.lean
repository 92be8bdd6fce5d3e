abbrev gaT_4 : vw_C := (RX4, TX4, 10)
set_option maxRecDepth 20000 in
theorem lRJx4a65c_9 : ga_fld RJx4a65c 9 7 1 := ⟨(RJx4a65c, TJx4a65c, 3), "java/util/ArrayList", rfl, by decide, ga_tb (List.mem_append_right _ (List.mem_append_left _ (List.mem_of_getElem? (i := 68) rfl))) rfl, .inl rfl⟩
set_option maxRecDepth 20000 in
theorem lRJx4a65c_48 : ga_fld RJx4a65c 48 7 2 := ⟨(RJx4a65c, TJx4a65c, 3), "java/util/ArrayList", rfl, by decide, ga_tb (List.mem_append_right _ (List.mem_append_left _ (List.mem_of_getElem? (i := 69) rfl))) rfl, .inl rfl⟩
set_option maxRecDepth 20000 in
theorem lRX0_9 : ga_fld RX0 9 0 0 := ⟨(RX0, TX0, 5), "GreenHours$Plan", rfl, by decide, ga_tb (List.mem_append_right _ (List.mem_append_left _ (List.mem_of_getElem? (i := 86) rfl))) rfl, .inl rfl⟩
set_option maxRecDepth 20000 in
theorem lRX0_15 : ga_fld RX0 15 0 1 := ⟨(RX0, TX0, 5), "GreenHours$Plan", rfl, by decide, ga_tb (List.mem_append_right _ (List.mem_append_left _ (List.mem_of_getElem? (i := 88) rfl))) rfl, .inl rfl⟩
set_option maxRecDepth 20000 in
theorem lRX0_18 : ga_fld RX0 18 0 2 := ⟨(RX0, TX0, 5), "GreenHours$Plan", rfl, by decide, ga_tb (List.mem_append_right _ (List.mem_append_left _ (List.mem_of_getElem? (i := 90) rfl))) rfl, .inl rfl⟩
set_option maxRecDepth 20000 in
theorem lRX0_21 : ga_fld RX0 21 0 3 := ⟨(RX0, TX0, 5), "GreenHours$Plan", rfl, by decide, ga_tb (List.mem_append_right _ (List.mem_append_left _ (List.mem_of_getElem? (i := 91) rfl))) rfl, .inl rfl⟩
set_option maxRecDepth 20000 in
theorem lRX0_25 : ga_fld RX0 25 0 4 := ⟨(RX0, TX0, 5), "GreenHours$Plan", rfl, by decide, ga_tb (List.mem_append_right _ (List.mem_append_left _ (List.mem_of_getElem? (i := 93) rfl))) rfl, .inl rfl⟩
set_option maxRecDepth 20000 in
theorem lRX1_11 : ga_fld RX1 11 1 0 := ⟨(RX1, TX1, 7), "GreenHours$Prices", rfl, by decide, ga_tb (List.mem_append_right _ (List.mem_append_left _ (List.mem_of_getElem? (i := 113) rfl))) rfl, .inl rfl⟩
set_option maxRecDepth 20000 in
theorem lRX1_16 : ga_fld RX1 16 1 1 := ⟨(RX1, TX1, 7), "GreenHours$Prices", rfl, by decide, ga_tb (List.mem_append_right _ (List.mem_append_left _ (List.mem_of_getElem? (i := 115) rfl))) rfl, .inl rfl⟩
set_option maxRecDepth 20000 in
theorem lRX1_20 : ga_fld RX1 20 1 2 := ⟨(RX1, TX1, 7), "GreenHours$Prices", rfl, by decide, ga_tb (List.mem_append_right _ (List.mem_append_left _ (List.mem_of_getElem? (i := 117) rfl))) rfl, .inl rfl⟩
set_option maxRecDepth 20000 in
theorem lRX1_23 : ga_fld RX1 23 1 3 := ⟨(RX1, TX1, 7), "GreenHours$Prices", rfl, by decide, ga_tb (List.mem_append_right _ (List.mem_append_left _ (List.mem_of_getElem? (i := 119) rfl))) rfl, .inl rfl⟩
set_option maxRecDepth 20000 in
theorem lRX1_26 : ga_fld RX1 26 1 4 := ⟨(RX1, TX1, 7), "GreenHours$Prices", rfl, by decide, ga_tb (List.mem_append_right _ (List.mem_append_left _ (List.mem_of_getElem? (i := 121) rfl))) rfl, .inl rfl⟩
set_option maxRecDepth 20000 in
theorem lRX1_29 : ga_fld RX1 29 1 5 := ⟨(RX1, TX1, 7), "GreenHours$Prices", rfl, by decide, ga_tb (List.mem_append_right _ (List.mem_append_left _ (List.mem_of_getElem? (i := 123) rfl))) rfl, .inl rfl⟩
set_option maxRecDepth 20000 in
theorem lRX1_32 : ga_fld RX1 32 1 6 := ⟨(RX1, TX1, 7), "GreenHours$Prices", rfl, by decide, ga_tb (List.mem_append_right _ (List.mem_append_left _ (List.mem_of_getElem? (i := 125) rfl))) rfl, .inl rfl⟩
set_option maxRecDepth 20000 in
theorem lRX1_35 : ga_fld RX1 35 2 0 := ⟨(RX2, TX2, 4), "GreenHours$Sites", rfl, by decide, ga_tb (List.mem_append_right _ (List.mem_append_left _ (List.mem_of_getElem? (i := 34) rfl))) rfl, .inl rfl⟩
set_option maxRecDepth 20000 in
theorem lRX1_38 : ga_fld RX1 38 4 2 := ⟨(RX4, TX4, 10), "GreenHours$Work", rfl, by decide, ga_tb (List.mem_append_right _ (List.mem_append_right _ (List.mem_append_left _ (List.mem_of_getElem? (i := 29) rfl)))) rfl, .inl rfl⟩
set_option maxRecDepth 20000 in
theorem lRX1_47 : ga_fld RX1 47 2 2 := ⟨(RX2, TX2, 4), "GreenHours$Sites", rfl, by decide, ga_tb (List.mem_append_right _ (List.mem_append_left _ (List.mem_of_getElem? (i := 39) rfl))) rfl, .inl rfl⟩
set_option maxRecDepth 20000 in
theorem lRX1_50 : ga_fld RX1 50 2 3 := ⟨(RX2, TX2, 4), "GreenHours$Sites", rfl, by decide, ga_tb (List.mem_append_right _ (List.mem_append_left _ (List.mem_of_getElem? (i := 42) rfl))) rfl, .inl rfl⟩
set_option maxRecDepth 20000 in
theorem lRX2_9 : ga_fld RX2 9 2 0 := ⟨(RX2, TX2, 4), "GreenHours$Sites", rfl, by decide, ga_tb (List.mem_append_right _ (List.mem_append_left _ (List.mem_of_getElem? (i := 33) rfl))) rfl, .inl rfl⟩
set_option maxRecDepth 20000 in
theorem lRX2_17 : ga_fld RX2 17 2 1 := ⟨(RX2, TX2, 4), "GreenHours$Sites", rfl, by decide, ga_tb (List.mem_append_right _ (List.mem_append_left _ (List.mem_of_getElem? (i := 36) rfl))) rfl, .inl rfl⟩
set_option maxRecDepth 20000 in
theorem lRX2_20 : ga_fld RX2 20 2 2 := ⟨(RX2, TX2, 4), "GreenHours$Sites", rfl, by decide, ga_tb (List.mem_append_right _ (List.mem_append_left _ (List.mem_of_getElem? (i := 38) rfl))) rfl, .inl rfl⟩
set_option maxRecDepth 20000 in
theorem lRX2_23 : ga_fld RX2 23 2 3 := ⟨(RX2, TX2, 4), "GreenHours$Sites", rfl, by decide, ga_tb (List.mem_append_right _ (List.mem_append_left _ (List.mem_of_getElem? (i := 41) rfl))) rfl, .inl rfl⟩
set_option maxRecDepth 20000 in
theorem lRX2_26 : ga_fld RX2 26 4 5 := ⟨(RX4, TX4, 10), "GreenHours$Work", rfl, by decide, ga_tb (List.mem_append_right _ (List.mem_append_right _ (List.mem_append_left _ (List.mem_of_getElem? (i := 38) rfl)))) rfl, .inl rfl⟩
set_option maxRecDepth 20000 in
theorem lRX2_31 : ga_fld RX2 31 4 1 := ⟨(RX4, TX4, 10), "GreenHours$Work", rfl, by decide, ga_tb (List.mem_append_right _ (List.mem_append_right _ (List.mem_append_left _ (List.mem_of_getElem? (i := 26) rfl)))) rfl, .inl rfl⟩
set_option maxRecDepth 20000 in
theorem lRX2_38 : ga_fld RX2 38 4 2 := ⟨(RX4, TX4, 10), "GreenHours$Work", rfl, by decide, ga_tb (List.mem_append_right _ (List.mem_append_right _ (List.mem_append_left _ (List.mem_of_getElem? (i := 31) rfl)))) rfl, .inl rfl⟩
set_option maxRecDepth 20000 in
theorem lRX3_13 : ga_fld RX3 13 3 0 := ⟨(RX3, TX3, 6), "GreenHours$Trio", rfl, by decide, ga_tb (List.mem_append_right _ (List.mem_append_left _ (List.mem_of_getElem? (i := 149) rfl))) rfl, .inl rfl⟩
set_option maxRecDepth 20000 in
theorem lRX3_16 : ga_fld RX3 16 3 1 := ⟨(RX3, TX3, 6), "GreenHours$Trio", rfl, by decide, ga_tb (List.mem_append_right _ (List.mem_append_left _ (List.mem_of_getElem? (i := 150) rfl))) rfl, .inl rfl⟩
set_option maxRecDepth 20000 in
theorem lRX3_19 : ga_fld RX3 19 3 2 := ⟨(RX3, TX3, 6), "GreenHours$Trio", rfl, by decide, ga_tb (List.mem_append_right _ (List.mem_append_left _ (List.mem_of_getElem? (i := 151) rfl))) rfl, .inl rfl⟩
set_option maxRecDepth 20000 in
theorem lRX3_22 : ga_fld RX3 22 3 3 := ⟨(RX3, TX3, 6), "GreenHours$Trio", rfl, by decide, ga_tb (List.mem_append_right _ (List.mem_append_left _ (List.mem_of_getElem? (i := 152) rfl))) rfl, .inl rfl⟩
set_option maxRecDepth 20000 in
theorem lRX3_26 : ga_fld RX3 26 3 4 := ⟨(RX3, TX3, 6), "GreenHours$Trio", rfl, by decide, ga_tb (List.mem_append_right _ (List.mem_append_left _ (List.mem_of_getElem? (i := 153) rfl))) rfl, .inl rfl⟩
set_option maxRecDepth 20000 in
theorem lRX3_29 : ga_fld RX3 29 3 5 := ⟨(RX3, TX3, 6), "GreenHours$Trio", rfl, by decide, ga_tb (List.mem_append_right _ (List.mem_append_left _ (List.mem_of_getElem? (i := 154) rfl))) rfl, .inl rfl⟩
set_option maxRecDepth 20000 in
theorem lRX3_33 : ga_fld RX3 33 4 2 := ⟨(RX4, TX4, 10), "GreenHours$Work", rfl, by decide, ga_tb (List.mem_append_right _ (List.mem_append_right _ (List.mem_append_left _ (List.mem_of_getElem? (i := 30) rfl)))) rfl, .inl rfl⟩
set_option maxRecDepth 20000 in
theorem lRX3_38 : ga_fld RX3 38 1 1 := ⟨(RX1, TX1, 7), "GreenHours$Prices", rfl, by decide, ga_tb (List.mem_append_right _ (List.mem_append_left _ (List.mem_of_getElem? (i := 116) rfl))) rfl, .inl rfl⟩
set_option maxRecDepth 20000 in
theorem lRX3_43 : ga_fld RX3 43 1 2 := ⟨(RX1, TX1, 7), "GreenHours$Prices", rfl, by decide, ga_tb (List.mem_append_right _ (List.mem_append_left _ (List.mem_of_getElem? (i := 118) rfl))) rfl, .inl rfl⟩
set_option maxRecDepth 20000 in
theorem lRX3_46 : ga_fld RX3 46 1 3 := ⟨(RX1, TX1, 7), "GreenHours$Prices", rfl, by decide, ga_tb (List.mem_append_right _ (List.mem_append_left _ (List.mem_of_getElem? (i := 120) rfl))) rfl, .inl rfl⟩
set_option maxRecDepth 20000 in
theorem lRX3_49 : ga_fld RX3 49 1 0 := ⟨(RX1, TX1, 7), "GreenHours$Prices", rfl, by decide, ga_tb (List.mem_append_right _ (List.mem_append_left _ (List.mem_of_getElem? (i := 114) rfl))) rfl, .inl rfl⟩
set_option maxRecDepth 20000 in
theorem lRX4_9 : ga_fld RX4 9 4 0 := ⟨(RX4, TX4, 10), "GreenHours$Work", rfl, by decide, ga_tb (List.mem_append_right _ (List.mem_append_right _ (List.mem_append_left _ (List.mem_of_getElem? (i := 23) rfl)))) rfl, .inl rfl⟩
set_option maxRecDepth 20000 in
theorem lRX4_15 : ga_fld RX4 15 4 1 := ⟨(RX4, TX4, 10), "GreenHours$Work", rfl, by decide, ga_tb (List.mem_append_right _ (List.mem_append_right _ (List.mem_append_left _ (List.mem_of_getElem? (i := 25) rfl)))) rfl, .inl rfl⟩
set_option maxRecDepth 20000 in
theorem lRX4_18 : ga_fld RX4 18 4 2 := ⟨(RX4, TX4, 10), "GreenHours$Work", rfl, by decide, ga_tb (List.mem_append_right _ (List.mem_append_right _ (List.mem_append_left _ (List.mem_of_getElem? (i := 28) rfl)))) rfl, .inl rfl⟩
set_option maxRecDepth 20000 in
theorem lRX4_21 : ga_fld RX4 21 4 3 := ⟨(RX4, TX4, 10), "GreenHours$Work", rfl, by decide, ga_tb (List.mem_append_right _ (List.mem_append_right _ (List.mem_append_left _ (List.mem_of_getElem? (i := 33) rfl)))) rfl, .inl rfl⟩
set_option maxRecDepth 20000 in
theorem lRX4_24 : ga_fld RX4 24 4 4 := ⟨(RX4, TX4, 10), "GreenHours$Work", rfl, by decide, ga_tb (List.mem_append_right _ (List.mem_append_right _ (List.mem_append_left _ (List.mem_of_getElem? (i := 35) rfl)))) rfl, .inl rfl⟩
set_option maxRecDepth 20000 in
theorem lRX4_27 : ga_fld RX4 27 4 5 := ⟨(RX4, TX4, 10), "GreenHours$Work", rfl, by decide, ga_tb (List.mem_append_right _ (List.mem_append_right _ (List.mem_append_left _ (List.mem_of_getElem? (i := 37) rfl)))) rfl, .inl rfl⟩
set_option maxRecDepth 20000 in
theorem lRX4_30 : ga_fld RX4 30 4 6 := ⟨(RX4, TX4, 10), "GreenHours$Work", rfl, by decide, ga_tb (List.mem_append_right _ (List.mem_append_right _ (List.mem_append_left _ (List.mem_of_getElem? (i := 39) rfl)))) rfl, .inl rfl⟩
set_option maxRecDepth 20000 in
theorem lRX4_33 : ga_fld RX4 33 4 7 := ⟨(RX4, TX4, 10), "GreenHours$Work", rfl, by decide, ga_tb (List.mem_append_right _ (List.mem_append_right _ (List.mem_append_left _ (List.mem_of_getElem? (i := 41) rfl)))) rfl, .inl rfl⟩
set_option maxRecDepth 20000 in
theorem lRX4_36 : ga_fld RX4 36 4 8 := ⟨(RX4, TX4, 10), "GreenHours$Work", rfl, by decide, ga_tb (List.mem_append_right _ (List.mem_append_right _ (List.mem_append_left _ (List.mem_of_getElem? (i := 43) rfl)))) rfl, .inl rfl⟩
set_option maxRecDepth 20000 in
theorem lRX4_39 : ga_fld RX4 39 4 9 := ⟨(RX4, TX4, 10), "GreenHours$Work", rfl, by decide, ga_tb (List.mem_append_right _ (List.mem_append_right _ (List.mem_append_left _ (List.mem_of_getElem? (i := 45) rfl)))) rfl, .inl rfl⟩
set_option maxRecDepth 20000 in
theorem lRX5_10 : ga_fld RX5 10 5 0 := ⟨(RX5, TX5, 11), "GreenHours", rfl, by decide, ga_tb (List.mem_append_right _ (List.mem_append_left _ (List.mem_of_getElem? (i := 168) rfl))) rfl, .inl rfl⟩
set_option maxRecDepth 20000 in
theorem lRX5_19 : ga_fld RX5 19 5 1 := ⟨(RX5, TX5, 11), "GreenHours", rfl, by decide, ga_tb (List.mem_append_right _ (List.mem_append_left _ (List.mem_of_getElem? (i := 169) rfl))) rfl, .inl rfl⟩
set_option maxRecDepth 20000 in
theorem lRX5_23 : ga_fld RX5 23 5 2 := ⟨(RX5, TX5, 11), "GreenHours", rfl, by decide, ga_tb (List.mem_append_right _ (List.mem_append_left _ (List.mem_of_getElem? (i := 170) rfl))) rfl, .inl rfl⟩
set_option maxRecDepth 20000 in
theorem lRX5_30 : ga_fld RX5 30 5 3 := ⟨(RX5, TX5, 11), "GreenHours", rfl, by decide, ga_tb (List.mem_append_right _ (List.mem_append_left _ (List.mem_of_getElem? (i := 171) rfl))) rfl, .inl rfl⟩
set_option maxRecDepth 20000 in
theorem lRX5_34 : ga_fld RX5 34 5 4 := ⟨(RX5, TX5, 11), "GreenHours", rfl, by decide, ga_tb (List.mem_append_right _ (List.mem_append_left _ (List.mem_of_getElem? (i := 172) rfl))) rfl, .inl rfl⟩
set_option maxRecDepth 20000 in
theorem lRX5_40 : ga_fld RX5 40 5 5 := ⟨(RX5, TX5, 11), "GreenHours", rfl, by decide, ga_tb (List.mem_append_right _ (List.mem_append_left _ (List.mem_of_getElem? (i := 173) rfl))) rfl, .inl rfl⟩
set_option maxRecDepth 20000 in
theorem lRX5_47 : ga_fld RX5 47 5 6 := ⟨(RX5, TX5, 11), "GreenHours", rfl, by decide, ga_tb (List.mem_append_right _ (List.mem_append_left _ (List.mem_of_getElem? (i := 174) rfl))) rfl, .inl rfl⟩
set_option maxRecDepth 20000 in
theorem lRX5_51 : ga_fld RX5 51 5 7 := ⟨(RX5, TX5, 11), "GreenHours", rfl, by decide, ga_tb (List.mem_append_right _ (List.mem_append_left _ (List.mem_of_getElem? (i := 175) rfl))) rfl, .inl rfl⟩
set_option maxRecDepth 20000 in
theorem lRX5_54 : ga_fld RX5 54 5 8 := ⟨(RX5, TX5, 11), "GreenHours", rfl, by decide, ga_tb (List.mem_append_right _ (List.mem_append_left _ (List.mem_of_getElem? (i := 176) rfl))) rfl, .inl rfl⟩
set_option maxRecDepth 20000 in
theorem lRX5_58 : ga_fld RX5 58 5 9 := ⟨(RX5, TX5, 11), "GreenHours", rfl, by decide, ga_tb (List.mem_append_right _ (List.mem_append_left _ (List.mem_of_getElem? (i := 177) rfl))) rfl, .inl rfl⟩
set_option maxRecDepth 20000 in
theorem lRX5_61 : ga_fld RX5 61 5 10 := ⟨(RX5, TX5, 11), "GreenHours", rfl, by decide, ga_tb (List.mem_append_right _ (List.mem_append_left _ (List.mem_of_getElem? (i := 178) rfl))) rfl, .inl rfl⟩
set_option maxRecDepth 20000 in
theorem lRX5_75 : ga_fld RX5 75 2 0 := ⟨(RX2, TX2, 4), "GreenHours$Sites", rfl, by decide, ga_tb (List.mem_append_right _ (List.mem_append_left _ (List.mem_of_getElem? (i := 35) rfl))) rfl, .inl rfl⟩
set_option maxRecDepth 20000 in
theorem lRX5_82 : ga_fld RX5 82 2 1 := ⟨(RX2, TX2, 4), "GreenHours$Sites", rfl, by decide, ga_tb (List.mem_append_right _ (List.mem_append_left _ (List.mem_of_getElem? (i := 37) rfl))) rfl, .inl rfl⟩
set_option maxRecDepth 20000 in
theorem lRX5_94 : ga_fld RX5 94 2 2 := ⟨(RX2, TX2, 4), "GreenHours$Sites", rfl, by decide, ga_tb (List.mem_append_right _ (List.mem_append_left _ (List.mem_of_getElem? (i := 40) rfl))) rfl, .inl rfl⟩
set_option maxRecDepth 20000 in
theorem lRX5_120 : ga_fld RX5 120 4 6 := ⟨(RX4, TX4, 10), "GreenHours$Work", rfl, by decide, ga_tb (List.mem_append_right _ (List.mem_append_right _ (List.mem_append_left _ (List.mem_of_getElem? (i := 40) rfl)))) rfl, .inl rfl⟩
set_option maxRecDepth 20000 in
theorem lRX5_133 : ga_fld RX5 133 0 3 := ⟨(RX0, TX0, 5), "GreenHours$Plan", rfl, by decide, ga_tb (List.mem_append_right _ (List.mem_append_left _ (List.mem_of_getElem? (i := 92) rfl))) rfl, .inl rfl⟩
set_option maxRecDepth 20000 in
theorem lRX5_138 : ga_fld RX5 138 0 4 := ⟨(RX0, TX0, 5), "GreenHours$Plan", rfl, by decide, ga_tb (List.mem_append_right _ (List.mem_append_left _ (List.mem_of_getElem? (i := 94) rfl))) rfl, .inl rfl⟩
set_option maxRecDepth 20000 in
theorem lRX5_147 : ga_fld RX5 147 2 3 := ⟨(RX2, TX2, 4), "GreenHours$Sites", rfl, by decide, ga_tb (List.mem_append_right _ (List.mem_append_left _ (List.mem_of_getElem? (i := 43) rfl))) rfl, .inl rfl⟩
set_option maxRecDepth 20000 in
theorem lRX5_159 : ga_fld RX5 159 4 9 := ⟨(RX4, TX4, 10), "GreenHours$Work", rfl, by decide, ga_tb (List.mem_append_right _ (List.mem_append_right _ (List.mem_append_left _ (List.mem_of_getElem? (i := 46) rfl)))) rfl, .inl rfl⟩
set_option maxRecDepth 20000 in
theorem lRX5_162 : ga_fld RX5 162 4 1 := ⟨(RX4, TX4, 10), "GreenHours$Work", rfl, by decide, ga_tb (List.mem_append_right _ (List.mem_append_right _ (List.mem_append_left _ (List.mem_of_getElem? (i := 27) rfl)))) rfl, .inl rfl⟩
set_option maxRecDepth 20000 in
theorem lRX5_165 : ga_fld RX5 165 4 3 := ⟨(RX4, TX4, 10), "GreenHours$Work", rfl, by decide, ga_tb (List.mem_append_right _ (List.mem_append_right _ (List.mem_append_left _ (List.mem_of_getElem? (i := 34) rfl)))) rfl, .inl rfl⟩
set_option maxRecDepth 20000 in
theorem lRX5_182 : ga_fld RX5 182 4 4 := ⟨(RX4, TX4, 10), "GreenHours$Work", rfl, by decide, ga_tb (List.mem_append_right _ (List.mem_append_right _ (List.mem_append_left _ (List.mem_of_getElem? (i := 36) rfl)))) rfl, .inl rfl⟩
set_option maxRecDepth 20000 in
theorem lRX5_185 : ga_fld RX5 185 4 2 := ⟨(RX4, TX4, 10), "GreenHours$Work", rfl, by decide, ga_tb (List.mem_append_right _ (List.mem_append_right _ (List.mem_append_left _ (List.mem_of_getElem? (i := 32) rfl)))) rfl, .inl rfl⟩
set_option maxRecDepth 20000 in
theorem lRX5_200 : ga_fld RX5 200 1 6 := ⟨(RX1, TX1, 7), "GreenHours$Prices", rfl, by decide, ga_tb (List.mem_append_right _ (List.mem_append_left _ (List.mem_of_getElem? (i := 126) rfl))) rfl, .inl rfl⟩
set_option maxRecDepth 20000 in
theorem lRX5_214 : ga_fld RX5 214 0 0 := ⟨(RX0, TX0, 5), "GreenHours$Plan", rfl, by decide, ga_tb (List.mem_append_right _ (List.mem_append_left _ (List.mem_of_getElem? (i := 87) rfl))) rfl, .inl rfl⟩
set_option maxRecDepth 20000 in
theorem lRX5_217 : ga_fld RX5 217 0 1 := ⟨(RX0, TX0, 5), "GreenHours$Plan", rfl, by decide, ga_tb (List.mem_append_right _ (List.mem_append_left _ (List.mem_of_getElem? (i := 89) rfl))) rfl, .inl rfl⟩
set_option maxRecDepth 20000 in
theorem lRX5_227 : ga_fld RX5 227 4 0 := ⟨(RX4, TX4, 10), "GreenHours$Work", rfl, by decide, ga_tb (List.mem_append_right _ (List.mem_append_right _ (List.mem_append_left _ (List.mem_of_getElem? (i := 24) rfl)))) rfl, .inl rfl⟩
set_option maxRecDepth 20000 in
theorem lRX5_233 : ga_fld RX5 233 1 4 := ⟨(RX1, TX1, 7), "GreenHours$Prices", rfl, by decide, ga_tb (List.mem_append_right _ (List.mem_append_left _ (List.mem_of_getElem? (i := 122) rfl))) rfl, .inl rfl⟩
set_option maxRecDepth 20000 in
theorem lRX5_236 : ga_fld RX5 236 1 5 := ⟨(RX1, TX1, 7), "GreenHours$Prices", rfl, by decide, ga_tb (List.mem_append_right _ (List.mem_append_left _ (List.mem_of_getElem? (i := 124) rfl))) rfl, .inl rfl⟩
set_option maxRecDepth 20000 in
theorem lRX5_266 : ga_fld RX5 266 4 7 := ⟨(RX4, TX4, 10), "GreenHours$Work", rfl, by decide, ga_tb (List.mem_append_right _ (List.mem_append_right _ (List.mem_append_left _ (List.mem_of_getElem? (i := 42) rfl)))) rfl, .inl rfl⟩
set_option maxRecDepth 20000 in
theorem lRX5_267 : ga_fld RX5 267 4 8 := ⟨(RX4, TX4, 10), "GreenHours$Work", rfl, by decide, ga_tb (List.mem_append_right _ (List.mem_append_right _ (List.mem_append_left _ (List.mem_of_getElem? (i := 44) rfl)))) rfl, .inl rfl⟩
set_option maxRecDepth 20000 in
theorem lRX6_1 : ga_fld RX6 1 6 0 := ⟨(RX6, TX6, 35), "GreenHoursModel", rfl, by decide, ga_tb (List.mem_append_right _ (List.mem_append_right _ (List.mem_append_right _ (List.mem_append_left _ (List.mem_of_getElem? (i := 130) rfl))))) rfl, .inl rfl⟩
set_option maxRecDepth 20000 in
theorem lRX6_7 : ga_fld RX6 7 6 1 := ⟨(RX6, TX6, 35), "GreenHoursModel", rfl, by decide, ga_tb (List.mem_append_right _ (List.mem_append_right _ (List.mem_append_right _ (List.mem_append_left _ (List.mem_of_getElem? (i := 131) rfl))))) rfl, .inl rfl⟩
set_option maxRecDepth 20000 in
theorem lRX6_16 : ga_fld RX6 16 6 5 := ⟨(RX6, TX6, 35), "GreenHoursModel", rfl, by decide, ga_tb (List.mem_append_right _ (List.mem_append_right _ (List.mem_append_right _ (List.mem_append_left _ (List.mem_of_getElem? (i := 135) rfl))))) rfl, .inl rfl⟩
set_option maxRecDepth 20000 in
theorem lRX6_19 : ga_fld RX6 19 6 6 := ⟨(RX6, TX6, 35), "GreenHoursModel", rfl, by decide, ga_tb (List.mem_append_right _ (List.mem_append_right _ (List.mem_append_right _ (List.mem_append_left _ (List.mem_of_getElem? (i := 136) rfl))))) rfl, .inl rfl⟩
set_option maxRecDepth 20000 in
theorem lRX6_23 : ga_fld RX6 23 6 7 := ⟨(RX6, TX6, 35), "GreenHoursModel", rfl, by decide, ga_tb (List.mem_append_right _ (List.mem_append_right _ (List.mem_append_right _ (List.mem_append_left _ (List.mem_of_getElem? (i := 137) rfl))))) rfl, .inl rfl⟩
set_option maxRecDepth 20000 in
theorem lRX6_26 : ga_fld RX6 26 6 8 := ⟨(RX6, TX6, 35), "GreenHoursModel", rfl, by decide, ga_tb (List.mem_append_right _ (List.mem_append_right _ (List.mem_append_right _ (List.mem_append_left _ (List.mem_of_getElem? (i := 138) rfl))))) rfl, .inl rfl⟩
set_option maxRecDepth 20000 in
theorem lRX6_29 : ga_fld RX6 29 6 9 := ⟨(RX6, TX6, 35), "GreenHoursModel", rfl, by decide, ga_tb (List.mem_append_right _ (List.mem_append_right _ (List.mem_append_right _ (List.mem_append_left _ (List.mem_of_getElem? (i := 139) rfl))))) rfl, .inl rfl⟩
set_option maxRecDepth 20000 in
theorem lRX6_32 : ga_fld RX6 32 6 10 := ⟨(RX6, TX6, 35), "GreenHoursModel", rfl, by decide, ga_tb (List.mem_append_right _ (List.mem_append_right _ (List.mem_append_right _ (List.mem_append_left _ (List.mem_of_getElem? (i := 140) rfl))))) rfl, .inl rfl⟩
set_option maxRecDepth 20000 in
theorem lRX6_35 : ga_fld RX6 35 6 11 := ⟨(RX6, TX6, 35), "GreenHoursModel", rfl, by decide, ga_tb (List.mem_append_right _ (List.mem_append_right _ (List.mem_append_right _ (List.mem_append_left _ (List.mem_of_getElem? (i := 141) rfl))))) rfl, .inl rfl⟩
set_option maxRecDepth 20000 in
theorem lRX6_38 : ga_fld RX6 38 6 12 := ⟨(RX6, TX6, 35), "GreenHoursModel", rfl, by decide, ga_tb (List.mem_append_right _ (List.mem_append_right _ (List.mem_append_right _ (List.mem_append_left _ (List.mem_of_getElem? (i := 142) rfl))))) rfl, .inl rfl⟩
set_option maxRecDepth 20000 in
theorem lRX6_41 : ga_fld RX6 41 6 13 := ⟨(RX6, TX6, 35), "GreenHoursModel", rfl, by decide, ga_tb (List.mem_append_right _ (List.mem_append_right _ (List.mem_append_right _ (List.mem_append_left _ (List.mem_of_getElem? (i := 143) rfl))))) rfl, .inl rfl⟩
set_option maxRecDepth 20000 in
theorem lRX6_44 : ga_fld RX6 44 6 14 := ⟨(RX6, TX6, 35), "GreenHoursModel", rfl, by decide, ga_tb (List.mem_append_right _ (List.mem_append_right _ (List.mem_append_right _ (List.mem_append_left _ (List.mem_of_getElem? (i := 144) rfl))))) rfl, .inl rfl⟩
set_option maxRecDepth 20000 in
theorem lRX6_47 : ga_fld RX6 47 6 15 := ⟨(RX6, TX6, 35), "GreenHoursModel", rfl, by decide, ga_tb (List.mem_append_right _ (List.mem_append_right _ (List.mem_append_right _ (List.mem_append_left _ (List.mem_of_getElem? (i := 145) rfl))))) rfl, .inl rfl⟩
set_option maxRecDepth 20000 in
theorem lRX6_50 : ga_fld RX6 50 6 16 := ⟨(RX6, TX6, 35), "GreenHoursModel", rfl, by decide, ga_tb (List.mem_append_right _ (List.mem_append_right _ (List.mem_append_right _ (List.mem_append_left _ (List.mem_of_getElem? (i := 146) rfl))))) rfl, .inl rfl⟩
set_option maxRecDepth 20000 in
theorem lRX6_53 : ga_fld RX6 53 6 17 := ⟨(RX6, TX6, 35), "GreenHoursModel", rfl, by decide, ga_tb (List.mem_append_right _ (List.mem_append_right _ (List.mem_append_right _ (List.mem_append_left _ (List.mem_of_getElem? (i := 147) rfl))))) rfl, .inl rfl⟩
set_option maxRecDepth 20000 in
theorem lRX6_56 : ga_fld RX6 56 6 18 := ⟨(RX6, TX6, 35), "GreenHoursModel", rfl, by decide, ga_tb (List.mem_append_right _ (List.mem_append_right _ (List.mem_append_right _ (List.mem_append_left _ (List.mem_of_getElem? (i := 148) rfl))))) rfl, .inl rfl⟩
set_option maxRecDepth 20000 in
theorem lRX6_59 : ga_fld RX6 59 6 19 := ⟨(RX6, TX6, 35), "GreenHoursModel", rfl, by decide, ga_tb (List.mem_append_right _ (List.mem_append_right _ (List.mem_append_right _ (List.mem_append_left _ (List.mem_of_getElem? (i := 149) rfl))))) rfl, .inl rfl⟩
set_option maxRecDepth 20000 in
theorem lRX6_62 : ga_fld RX6 62 6 20 := ⟨(RX6, TX6, 35), "GreenHoursModel", rfl, by decide, ga_tb (List.mem_append_right _ (List.mem_append_right _ (List.mem_append_right _ (List.mem_append_left _ (List.mem_of_getElem? (i := 150) rfl))))) rfl, .inl rfl⟩
set_option maxRecDepth 20000 in
theorem lRX6_65 : ga_fld RX6 65 6 21 := ⟨(RX6, TX6, 35), "GreenHoursModel", rfl, by decide, ga_tb (List.mem_append_right _ (List.mem_append_right _ (List.mem_append_right _ (List.mem_append_left _ (List.mem_of_getElem? (i := 151) rfl))))) rfl, .inl rfl⟩
set_option maxRecDepth 20000 in
theorem lRX6_68 : ga_fld RX6 68 6 22 := ⟨(RX6, TX6, 35), "GreenHoursModel", rfl, by decide, ga_tb (List.mem_append_right _ (List.mem_append_right _ (List.mem_append_right _ (List.mem_append_left _ (List.mem_of_getElem? (i := 152) rfl))))) rfl, .inl rfl⟩
set_option maxRecDepth 20000 in
theorem lRX6_71 : ga_fld RX6 71 6 23 := ⟨(RX6, TX6, 35), "GreenHoursModel", rfl, by decide, ga_tb (List.mem_append_right _ (List.mem_append_right _ (List.mem_append_right _ (List.mem_append_left _ (List.mem_of_getElem? (i := 153) rfl))))) rfl, .inl rfl⟩
set_option maxRecDepth 20000 in
theorem lRX6_74 : ga_fld RX6 74 6 24 := ⟨(RX6, TX6, 35), "GreenHoursModel", rfl, by decide, ga_tb (List.mem_append_right _ (List.mem_append_right _ (List.mem_append_right _ (List.mem_append_left _ (List.mem_of_getElem? (i := 154) rfl))))) rfl, .inl rfl⟩
set_option maxRecDepth 20000 in
theorem lRX6_77 : ga_fld RX6 77 6 25 := ⟨(RX6, TX6, 35), "GreenHoursModel", rfl, by decide, ga_tb (List.mem_append_right _ (List.mem_append_right _ (List.mem_append_right _ (List.mem_append_left _ (List.mem_of_getElem? (i := 155) rfl))))) rfl, .inl rfl⟩
set_option maxRecDepth 20000 in
theorem lRX6_80 : ga_fld RX6 80 6 26 := ⟨(RX6, TX6, 35), "GreenHoursModel", rfl, by decide, ga_tb (List.mem_append_right _ (List.mem_append_right _ (List.mem_append_right _ (List.mem_append_left _ (List.mem_of_getElem? (i := 156) rfl))))) rfl, .inl rfl⟩
set_option maxRecDepth 20000 in
theorem lRX6_83 : ga_fld RX6 83 6 27 := ⟨(RX6, TX6, 35), "GreenHoursModel", rfl, by decide, ga_tb (List.mem_append_right _ (List.mem_append_right _ (List.mem_append_right _ (List.mem_append_left _ (List.mem_of_getElem? (i := 157) rfl))))) rfl, .inl rfl⟩
set_option maxRecDepth 20000 in
theorem lRX6_87 : ga_fld RX6 87 6 29 := ⟨(RX6, TX6, 35), "GreenHoursModel", rfl, by decide, ga_tb (List.mem_append_right _ (List.mem_append_right _ (List.mem_append_right _ (List.mem_append_left _ (List.mem_of_getElem? (i := 159) rfl))))) rfl, .inl rfl⟩
set_option maxRecDepth 20000 in
theorem lRX6_90 : ga_fld RX6 90 6 30 := ⟨(RX6, TX6, 35), "GreenHoursModel", rfl, by decide, ga_tb (List.mem_append_right _ (List.mem_append_right _ (List.mem_append_right _ (List.mem_append_left _ (List.mem_of_getElem? (i := 160) rfl))))) rfl, .inl rfl⟩
set_option maxRecDepth 20000 in
theorem lRX6_93 : ga_fld RX6 93 6 31 := ⟨(RX6, TX6, 35), "GreenHoursModel", rfl, by decide, ga_tb (List.mem_append_right _ (List.mem_append_right _ (List.mem_append_right _ (List.mem_append_left _ (List.mem_of_getElem? (i := 161) rfl))))) rfl, .inl rfl⟩
set_option maxRecDepth 20000 in
theorem lRX6_96 : ga_fld RX6 96 6 32 := ⟨(RX6, TX6, 35), "GreenHoursModel", rfl, by decide, ga_tb (List.mem_append_right _ (List.mem_append_right _ (List.mem_append_right _ (List.mem_append_left _ (List.mem_of_getElem? (i := 162) rfl))))) rfl, .inl rfl⟩
set_option maxRecDepth 20000 in
theorem lRX6_99 : ga_fld RX6 99 6 33 := ⟨(RX6, TX6, 35), "GreenHoursModel", rfl, by decide, ga_tb (List.mem_append_right _ (List.mem_append_right _ (List.mem_append_right _ (List.mem_append_left _ (List.mem_of_getElem? (i := 163) rfl))))) rfl, .inl rfl⟩
set_option maxRecDepth 20000 in
theorem lRX6_102 : ga_fld RX6 102 6 2 := ⟨(RX6, TX6, 35), "GreenHoursModel", rfl, by decide, ga_tb (List.mem_append_right _ (List.mem_append_right _ (List.mem_append_right _ (List.mem_append_left _ (List.mem_of_getElem? (i := 132) rfl))))) rfl, .inl rfl⟩
set_option maxRecDepth 20000 in
theorem lRX6_105 : ga_fld RX6 105 6 3 := ⟨(RX6, TX6, 35), "GreenHoursModel", rfl, by decide, ga_tb (List.mem_append_right _ (List.mem_append_right _ (List.mem_append_right _ (List.mem_append_left _ (List.mem_of_getElem? (i := 133) rfl))))) rfl, .inl rfl⟩
set_option maxRecDepth 20000 in
theorem lRX6_130 : ga_fld RX6 130 6 4 := ⟨(RX6, TX6, 35), "GreenHoursModel", rfl, by decide, ga_tb (List.mem_append_right _ (List.mem_append_right _ (List.mem_append_right _ (List.mem_append_left _ (List.mem_of_getElem? (i := 134) rfl))))) rfl, .inl rfl⟩
set_option maxRecDepth 20000 in
theorem lRX6_146 : ga_fld RX6 146 6 28 := ⟨(RX6, TX6, 35), "GreenHoursModel", rfl, by decide, ga_tb (List.mem_append_right _ (List.mem_append_right _ (List.mem_append_right _ (List.mem_append_left _ (List.mem_of_getElem? (i := 158) rfl))))) rfl, .inl rfl⟩
set_option maxRecDepth 20000 in
theorem lRX6_173 : ga_fld RX6 173 6 34 := ⟨(RX6, TX6, 35), "GreenHoursModel", rfl, by decide, ga_tb (List.mem_append_right _ (List.mem_append_right _ (List.mem_append_right _ (List.mem_append_left _ (List.mem_of_getElem? (i := 164) rfl))))) rfl, .inl rfl⟩
set_option maxRecDepth 20000 in
theorem w_max_s : Cond.static Lib.Math.max.name ∈ gaTb := ga_tb (List.mem_append_right _ (List.mem_append_right _ (List.mem_append_left _ (List.mem_of_getElem? (i := 88) rfl)))) rfl
set_option maxRecDepth 20000 in
theorem w_max_c : Cond.code Lib.Math.max.name Lib.Math.max.code 2 (some .int) ∈ gaTb := ga_tb (List.mem_append_right _ (List.mem_append_right _ (List.mem_append_left _ (List.mem_of_getElem? (i := 89) rfl)))) rfl
set_option maxRecDepth 20000 in
theorem w_min_s : Cond.static Lib.Math.min.name ∈ gaTb := ga_tb (List.mem_append_right _ (List.mem_append_right _ (List.mem_append_left _ (List.mem_of_getElem? (i := 116) rfl)))) rfl
set_option maxRecDepth 20000 in
theorem w_min_c : Cond.code Lib.Math.min.name Lib.Math.min.code 2 (some .int) ∈ gaTb := ga_tb (List.mem_append_right _ (List.mem_append_right _ (List.mem_append_left _ (List.mem_of_getElem? (i := 117) rfl)))) rfl
set_option maxRecDepth 20000 in
theorem w_max_i : Cond.initialized "java/lang/Math" ∈ gaTb := ga_tb (List.mem_append_right _ (List.mem_append_left _ (List.mem_of_getElem? (i := 12) rfl))) rfl
set_option maxRecDepth 20000 in
theorem nRJ15_105 : Cond.methodLink RJ15 105 yJ3_checkIndex_8e157 ∈ gaTb := ga_tb (List.mem_append_right _ (List.mem_append_right _ (List.mem_append_left _ (List.mem_of_getElem? (i := 142) rfl)))) rfl
set_option maxRecDepth 20000 in
theorem nRJx4a65c_118 : Cond.methodLink RJx4a65c 118 yJ15_checkIndex_7cf53 ∈ gaTb := ga_tb (List.mem_append_right _ (List.mem_append_right _ (List.mem_append_left _ (List.mem_of_getElem? (i := 139) rfl)))) rfl
set_option maxRecDepth 20000 in
theorem nRJx4a65c_123 : Cond.methodLink RJx4a65c 123 yJx4a65c_elementData_915e3 ∈ gaTb := ga_tb (List.mem_append_right _ (List.mem_append_right _ (List.mem_append_left _ (List.mem_of_getElem? (i := 145) rfl)))) rfl
set_option maxRecDepth 20000 in
theorem nRX0_28 : Cond.methodLink RX0 28 yX0_has ∈ gaTb := ga_tb (List.mem_append_right _ (List.mem_append_right _ (List.mem_append_left _ (List.mem_of_getElem? (i := 234) rfl)))) rfl
set_option maxRecDepth 20000 in
theorem nRX1_43 : Cond.methodLink RX1 43 yX1_fillRow ∈ gaTb := ga_tb (List.mem_append_right _ (List.mem_append_right _ (List.mem_append_left _ (List.mem_of_getElem? (i := 190) rfl)))) rfl
set_option maxRecDepth 20000 in
theorem nRX1_53 : Cond.methodLink RX1 53 yX2_carriage ∈ gaTb := ga_tb (List.mem_append_right _ (List.mem_append_right _ (List.mem_append_left _ (List.mem_of_getElem? (i := 194) rfl)))) rfl
set_option maxRecDepth 20000 in
theorem nRX1_57 : Cond.methodLink RX1 57 yX1_pickAt ∈ gaTb := ga_tb (List.mem_append_right _ (List.mem_append_right _ (List.mem_append_left _ (List.mem_of_getElem? (i := 202) rfl)))) rfl
set_option maxRecDepth 20000 in
theorem nRX2_34 : Cond.methodLink RX2 34 yX2_carriage ∈ gaTb := ga_tb (List.mem_append_right _ (List.mem_append_right _ (List.mem_append_right _ (List.mem_append_left _ (List.mem_of_getElem? (i := 89) rfl))))) rfl
set_option maxRecDepth 20000 in
theorem nRX3_52 : Cond.methodLink RX3 52 yX3_keep ∈ gaTb := ga_tb (List.mem_append_right _ (List.mem_append_right _ (List.mem_append_right _ (List.mem_append_left _ (List.mem_of_getElem? (i := 19) rfl))))) rfl
set_option maxRecDepth 20000 in
theorem nRX3_56 : Cond.methodLink RX3 56 yX3_search ∈ gaTb := ga_tb (List.mem_append_right _ (List.mem_append_right _ (List.mem_append_right _ (List.mem_append_left _ (List.mem_of_getElem? (i := 27) rfl))))) rfl
set_option maxRecDepth 20000 in
theorem nRX3_60 : Cond.methodLink RX3 60 yX3_cheapestFrom ∈ gaTb := ga_tb (List.mem_append_right _ (List.mem_append_right _ (List.mem_append_right _ (List.mem_append_left _ (List.mem_of_getElem? (i := 30) rfl))))) rfl
set_option maxRecDepth 20000 in
theorem nRX3_64 : Cond.methodLink RX3 64 yX2_fits ∈ gaTb := ga_tb (List.mem_append_right _ (List.mem_append_right _ (List.mem_append_right _ (List.mem_append_left _ (List.mem_of_getElem? (i := 34) rfl))))) rfl
set_option maxRecDepth 20000 in
theorem nRX3_70 : Cond.methodLink RX3 70 yX2_take ∈ gaTb := ga_tb (List.mem_append_right _ (List.mem_append_right _ (List.mem_append_right _ (List.mem_append_left _ (List.mem_of_getElem? (i := 38) rfl))))) rfl
set_option maxRecDepth 20000 in
theorem nRX3_74 : Cond.methodLink RX3 74 yX2_giveBack ∈ gaTb := ga_tb (List.mem_append_right _ (List.mem_append_right _ (List.mem_append_right _ (List.mem_append_left _ (List.mem_of_getElem? (i := 39) rfl))))) rfl
set_option maxRecDepth 20000 in
theorem nRX5_64 : Cond.methodLink RX5 64 yX5_troubleOfPlace ∈ gaTb := ga_tb (List.mem_append_right _ (List.mem_append_left _ (List.mem_of_getElem? (i := 206) rfl))) rfl
set_option maxRecDepth 20000 in
theorem nRX5_68 : Cond.methodLink RX5 68 yX2_add ∈ gaTb := ga_tb (List.mem_append_right _ (List.mem_append_left _ (List.mem_of_getElem? (i := 213) rfl))) rfl
set_option maxRecDepth 20000 in
theorem nRX5_71 : Cond.methodLink RX5 71 yX5_within ∈ gaTb := ga_tb (List.mem_append_right _ (List.mem_append_left _ (List.mem_of_getElem? (i := 210) rfl))) rfl
set_option maxRecDepth 20000 in
theorem nRX5_78 : Cond.methodLink RX5 78 yX5_troubleOfFare ∈ gaTb := ga_tb (List.mem_append_right _ (List.mem_append_left _ (List.mem_of_getElem? (i := 221) rfl))) rfl
set_option maxRecDepth 20000 in
theorem nRX5_86 : Cond.methodLink RX5 86 yX2_has ∈ gaTb := ga_tb (List.mem_append_right _ (List.mem_append_left _ (List.mem_of_getElem? (i := 225) rfl))) rfl
set_option maxRecDepth 20000 in
theorem nRX5_90 : Cond.methodLink RX5 90 yX5_troubleOfGreen ∈ gaTb := ga_tb (List.mem_append_right _ (List.mem_append_left _ (List.mem_of_getElem? (i := 233) rfl))) rfl
set_option maxRecDepth 20000 in
theorem nRX5_109 : Cond.methodLink RX5 109 yJx4a65c_size_8abf5 ∈ gaTb := ga_tb (List.mem_append_right _ (List.mem_append_right _ (List.mem_append_left _ (List.mem_of_getElem? (i := 13) rfl)))) rfl
set_option maxRecDepth 20000 in
theorem nRX5_113 : Cond.methodLink RX5 113 yX5_troubleOfDrop ∈ gaTb := ga_tb (List.mem_append_right _ (List.mem_append_right _ (List.mem_append_left _ (List.mem_of_getElem? (i := 127) rfl)))) rfl
set_option maxRecDepth 20000 in
theorem nRX5_116 : Cond.methodLink RX5 116 yJx4a65c_get_915e3 ∈ gaTb := ga_tb (List.mem_append_right _ (List.mem_append_right _ (List.mem_append_left _ (List.mem_of_getElem? (i := 135) rfl)))) rfl
set_option maxRecDepth 20000 in
theorem nRX5_123 : Cond.methodLink RX5 123 yX5_isJob ∈ gaTb := ga_tb (List.mem_append_right _ (List.mem_append_right _ (List.mem_append_left _ (List.mem_of_getElem? (i := 131) rfl)))) rfl
set_option maxRecDepth 20000 in
theorem nRX5_126 : Cond.methodLink RX5 126 yX4_tell ∈ gaTb := ga_tb (List.mem_append_right _ (List.mem_append_right _ (List.mem_append_left _ (List.mem_of_getElem? (i := 153) rfl)))) rfl
set_option maxRecDepth 20000 in
theorem nRX5_129 : Cond.methodLink RX5 129 yX5_makePlan ∈ gaTb := ga_tb (List.mem_append_right _ (List.mem_append_right _ (List.mem_append_left _ (List.mem_of_getElem? (i := 161) rfl)))) rfl
set_option maxRecDepth 20000 in
theorem nRX5_135 : Cond.methodLink RX5 135 yX0_tell ∈ gaTb := ga_tb (List.mem_append_right _ (List.mem_append_right _ (List.mem_append_left _ (List.mem_of_getElem? (i := 230) rfl)))) rfl
set_option maxRecDepth 20000 in
theorem nRX5_141 : Cond.methodLink RX5 141 yX5_countOf ∈ gaTb := ga_tb (List.mem_append_right _ (List.mem_append_right _ (List.mem_append_right _ (List.mem_append_left _ (List.mem_of_getElem? (i := 3) rfl))))) rfl
set_option maxRecDepth 20000 in
theorem nRX5_144 : Cond.methodLink RX5 144 yX5_leastTogether ∈ gaTb := ga_tb (List.mem_append_right _ (List.mem_append_right _ (List.mem_append_right _ (List.mem_append_left _ (List.mem_of_getElem? (i := 7) rfl))))) rfl
set_option maxRecDepth 20000 in
theorem nRX5_150 : Cond.methodLink RX5 150 yX5_troubleOfPass ∈ gaTb := ga_tb (List.mem_append_right _ (List.mem_append_right _ (List.mem_append_right _ (List.mem_append_left _ (List.mem_of_getElem? (i := 48) rfl))))) rfl
set_option maxRecDepth 20000 in
theorem nRX5_153 : Cond.methodLink RX5 153 yX5_passHour ∈ gaTb := ga_tb (List.mem_append_right _ (List.mem_append_right _ (List.mem_append_right _ (List.mem_append_left _ (List.mem_of_getElem? (i := 52) rfl))))) rfl
set_option maxRecDepth 20000 in
theorem nRX5_156 : Cond.methodLink RX5 156 yX5_isBehind ∈ gaTb := ga_tb (List.mem_append_right _ (List.mem_append_right _ (List.mem_append_left _ (List.mem_of_getElem? (i := 177) rfl)))) rfl
set_option maxRecDepth 20000 in
theorem nRX5_168 : Cond.methodLink RX5 168 yX2_costOf ∈ gaTb := ga_tb (List.mem_append_right _ (List.mem_append_right _ (List.mem_append_right _ (List.mem_append_left _ (List.mem_of_getElem? (i := 85) rfl))))) rfl
set_option maxRecDepth 20000 in
theorem nRX5_172 : Cond.methodLink RX5 172 yX5_atOnce ∈ gaTb := ga_tb (List.mem_append_right _ (List.mem_append_right _ (List.mem_append_right _ (List.mem_append_left _ (List.mem_of_getElem? (i := 94) rfl))))) rfl
set_option maxRecDepth 20000 in
theorem nRX5_175 : Cond.methodLink RX5 175 yX5_paidOfDone ∈ gaTb := ga_tb (List.mem_append_right _ (List.mem_append_right _ (List.mem_append_right _ (List.mem_append_left _ (List.mem_of_getElem? (i := 95) rfl))))) rfl
set_option maxRecDepth 20000 in
theorem nRX5_178 : Cond.methodLink RX5 178 yX5_regretOf ∈ gaTb := ga_tb (List.mem_append_right _ (List.mem_append_right _ (List.mem_append_right _ (List.mem_append_left _ (List.mem_of_getElem? (i := 103) rfl))))) rfl
set_option maxRecDepth 20000 in
theorem nRX5_188 : Cond.methodLink RX5 188 Lib.Math.min.name ∈ gaTb := ga_tb (List.mem_append_right _ (List.mem_append_right _ (List.mem_append_right _ (List.mem_append_left _ (List.mem_of_getElem? (i := 107) rfl))))) rfl
set_option maxRecDepth 20000 in
theorem nRX5_193 : Cond.methodLink RX5 193 yX1_fill ∈ gaTb := ga_tb (List.mem_append_right _ (List.mem_append_right _ (List.mem_append_left _ (List.mem_of_getElem? (i := 186) rfl)))) rfl
set_option maxRecDepth 20000 in
theorem nRX5_197 : Cond.methodLink RX5 197 yX1_pickCheapest ∈ gaTb := ga_tb (List.mem_append_right _ (List.mem_append_right _ (List.mem_append_left _ (List.mem_of_getElem? (i := 206) rfl)))) rfl
set_option maxRecDepth 20000 in
theorem nRX5_203 : Cond.methodLink RX5 203 yX0_clear ∈ gaTb := ga_tb (List.mem_append_right _ (List.mem_append_right _ (List.mem_append_left _ (List.mem_of_getElem? (i := 165) rfl)))) rfl
set_option maxRecDepth 20000 in
theorem nRX5_206 : Cond.methodLink RX5 206 yX5_orderWaiting ∈ gaTb := ga_tb (List.mem_append_right _ (List.mem_append_right _ (List.mem_append_left _ (List.mem_of_getElem? (i := 169) rfl)))) rfl
set_option maxRecDepth 20000 in
theorem nRX5_209 : Cond.methodLink RX5 209 yX5_layOne ∈ gaTb := ga_tb (List.mem_append_right _ (List.mem_append_right _ (List.mem_append_left _ (List.mem_of_getElem? (i := 181) rfl)))) rfl
set_option maxRecDepth 20000 in
theorem nRX5_213 : Cond.methodLink RX5 213 yX0_has ∈ gaTb := ga_tb (List.mem_append_right _ (List.mem_append_right _ (List.mem_append_left _ (List.mem_of_getElem? (i := 218) rfl)))) rfl
set_option maxRecDepth 20000 in
theorem nRX5_220 : Cond.methodLink RX5 220 yX2_giveBack ∈ gaTb := ga_tb (List.mem_append_right _ (List.mem_append_right _ (List.mem_append_left _ (List.mem_of_getElem? (i := 222) rfl)))) rfl
set_option maxRecDepth 20000 in
theorem nRX5_224 : Cond.methodLink RX5 224 Lib.Math.max.name ∈ gaTb := ga_tb (List.mem_append_right _ (List.mem_append_right _ (List.mem_append_left _ (List.mem_of_getElem? (i := 185) rfl)))) rfl
set_option maxRecDepth 20000 in
theorem nRX5_230 : Cond.methodLink RX5 230 yX1_pickSoonest ∈ gaTb := ga_tb (List.mem_append_right _ (List.mem_append_right _ (List.mem_append_left _ (List.mem_of_getElem? (i := 198) rfl)))) rfl
set_option maxRecDepth 20000 in
theorem nRX5_239 : Cond.methodLink RX5 239 yX0_put ∈ gaTb := ga_tb (List.mem_append_right _ (List.mem_append_right _ (List.mem_append_left _ (List.mem_of_getElem? (i := 210) rfl)))) rfl
set_option maxRecDepth 20000 in
theorem nRX5_243 : Cond.methodLink RX5 243 yX2_take ∈ gaTb := ga_tb (List.mem_append_right _ (List.mem_append_right _ (List.mem_append_left _ (List.mem_of_getElem? (i := 214) rfl)))) rfl
set_option maxRecDepth 20000 in
theorem nRX5_246 : Cond.methodLink RX5 246 yX5_rankOf ∈ gaTb := ga_tb (List.mem_append_right _ (List.mem_append_right _ (List.mem_append_left _ (List.mem_of_getElem? (i := 173) rfl)))) rfl
set_option maxRecDepth 20000 in
theorem nRX5_249 : Cond.methodLink RX5 249 yX3_clear ∈ gaTb := ga_tb (List.mem_append_right _ (List.mem_append_right _ (List.mem_append_right _ (List.mem_append_left _ (List.mem_of_getElem? (i := 11) rfl))))) rfl
set_option maxRecDepth 20000 in
theorem nRX5_250 : Cond.methodLink RX5 250 yX3_add ∈ gaTb := ga_tb (List.mem_append_right _ (List.mem_append_right _ (List.mem_append_right _ (List.mem_append_left _ (List.mem_of_getElem? (i := 15) rfl))))) rfl
set_option maxRecDepth 20000 in
theorem nRX5_253 : Cond.methodLink RX5 253 yX3_least ∈ gaTb := ga_tb (List.mem_append_right _ (List.mem_append_right _ (List.mem_append_right _ (List.mem_append_left _ (List.mem_of_getElem? (i := 23) rfl))))) rfl
set_option maxRecDepth 20000 in
theorem nRX5_257 : Cond.methodLink RX5 257 yX5_beginLaid ∈ gaTb := ga_tb (List.mem_append_right _ (List.mem_append_right _ (List.mem_append_right _ (List.mem_append_left _ (List.mem_of_getElem? (i := 56) rfl))))) rfl
set_option maxRecDepth 20000 in
theorem nRX5_260 : Cond.methodLink RX5 260 yX5_loseLate ∈ gaTb := ga_tb (List.mem_append_right _ (List.mem_append_right _ (List.mem_append_right _ (List.mem_append_left _ (List.mem_of_getElem? (i := 60) rfl))))) rfl
set_option maxRecDepth 20000 in
theorem nRX5_263 : Cond.methodLink RX5 263 yX5_doHour ∈ gaTb := ga_tb (List.mem_append_right _ (List.mem_append_right _ (List.mem_append_right _ (List.mem_append_left _ (List.mem_of_getElem? (i := 64) rfl))))) rfl
set_option maxRecDepth 20000 in
theorem nRX5_268 : Cond.methodLink RX5 268 yX2_carriage ∈ gaTb := ga_tb (List.mem_append_right _ (List.mem_append_right _ (List.mem_append_right _ (List.mem_append_left _ (List.mem_of_getElem? (i := 68) rfl))))) rfl
set_option maxRecDepth 20000 in
theorem nRX6_108 : Cond.methodLink RX6 108 yX6_in ∈ gaTb := ga_tb (List.mem_append_right _ (List.mem_append_right _ (List.mem_append_right _ (List.mem_append_right _ (List.mem_of_getElem? (i := 1) rfl))))) rfl
set_option maxRecDepth 20000 in
theorem nRX6_112 : Cond.methodLink RX6 112 yX6_refused ∈ gaTb := ga_tb (List.mem_append_right _ (List.mem_append_right _ (List.mem_append_right _ (List.mem_append_right _ (List.mem_of_getElem? (i := 4) rfl))))) rfl
set_option maxRecDepth 20000 in
theorem nRX6_116 : Cond.methodLink RX6 116 yX6_done ∈ gaTb := ga_tb (List.mem_append_right _ (List.mem_append_right _ (List.mem_append_right _ (List.mem_append_right _ (List.mem_of_getElem? (i := 8) rfl))))) rfl
set_option maxRecDepth 20000 in
theorem nRX6_119 : Cond.methodLink RX6 119 yX6_isPlace ∈ gaTb := ga_tb (List.mem_append_right _ (List.mem_append_right _ (List.mem_append_right _ (List.mem_append_right _ (List.mem_of_getElem? (i := 16) rfl))))) rfl
set_option maxRecDepth 20000 in
theorem nRX6_123 : Cond.methodLink RX6 123 yX6_denied ∈ gaTb := ga_tb (List.mem_append_right _ (List.mem_append_right _ (List.mem_append_right _ (List.mem_append_right _ (List.mem_of_getElem? (i := 20) rfl))))) rfl
set_option maxRecDepth 20000 in
theorem nRX6_126 : Cond.methodLink RX6 126 yX6_granted ∈ gaTb := ga_tb (List.mem_append_right _ (List.mem_append_right _ (List.mem_append_right _ (List.mem_append_right _ (List.mem_of_getElem? (i := 24) rfl))))) rfl
set_option maxRecDepth 20000 in
theorem nRX6_133 : Cond.methodLink RX6 133 yX6_isJob ∈ gaTb := ga_tb (List.mem_append_right _ (List.mem_append_right _ (List.mem_append_right _ (List.mem_append_right _ (List.mem_of_getElem? (i := 48) rfl))))) rfl
set_option maxRecDepth 20000 in
theorem nRX6_136 : Cond.methodLink RX6 136 yX6_puts ∈ gaTb := ga_tb (List.mem_append_right _ (List.mem_append_right _ (List.mem_append_right _ (List.mem_append_right _ (List.mem_of_getElem? (i := 72) rfl))))) rfl
set_option maxRecDepth 20000 in
theorem nRX6_140 : Cond.methodLink RX6 140 yX6_delayOf ∈ gaTb := ga_tb (List.mem_append_right _ (List.mem_append_right _ (List.mem_append_right _ (List.mem_append_right _ (List.mem_of_getElem? (i := 64) rfl))))) rfl
set_option maxRecDepth 20000 in
theorem nRX6_143 : Cond.methodLink RX6 143 yX6_uses ∈ gaTb := ga_tb (List.mem_append_right _ (List.mem_append_right _ (List.mem_append_right _ (List.mem_append_right _ (List.mem_of_getElem? (i := 68) rfl))))) rfl
set_option maxRecDepth 20000 in
theorem nRX6_149 : Cond.methodLink RX6 149 yX6_isAhead ∈ gaTb := ga_tb (List.mem_append_right _ (List.mem_append_right _ (List.mem_append_right _ (List.mem_append_right _ (List.mem_of_getElem? (i := 76) rfl))))) rfl
set_option maxRecDepth 20000 in
theorem nRX6_153 : Cond.methodLink RX6 153 yX6_layOne ∈ gaTb := ga_tb (List.mem_append_right _ (List.mem_append_right _ (List.mem_append_right _ (List.mem_append_right _ (List.mem_of_getElem? (i := 80) rfl))))) rfl
set_option maxRecDepth 20000 in
theorem nRX6_157 : Cond.methodLink RX6 157 Lib.Math.max.name ∈ gaTb := ga_tb (List.mem_append_right _ (List.mem_append_right _ (List.mem_append_right _ (List.mem_append_right _ (List.mem_of_getElem? (i := 84) rfl))))) rfl
set_option maxRecDepth 20000 in
theorem nRX6_163 : Cond.methodLink RX6 163 yX6_hasRoom ∈ gaTb := ga_tb (List.mem_append_right _ (List.mem_append_right _ (List.mem_append_right _ (List.mem_append_right _ (List.mem_of_getElem? (i := 85) rfl))))) rfl
set_option maxRecDepth 20000 in
theorem nRX6_166 : Cond.methodLink RX6 166 yX6_costOf ∈ gaTb := ga_tb (List.mem_append_right _ (List.mem_append_right _ (List.mem_append_right _ (List.mem_append_right _ (List.mem_of_getElem? (i := 89) rfl))))) rfl
set_option maxRecDepth 20000 in
theorem nRX6_170 : Cond.methodLink RX6 170 yX6_lays ∈ gaTb := ga_tb (List.mem_append_right _ (List.mem_append_right _ (List.mem_append_right _ (List.mem_append_right _ (List.mem_of_getElem? (i := 60) rfl))))) rfl
set_option maxRecDepth 20000 in
theorem nRX6_176 : Cond.methodLink RX6 176 yX6_tries ∈ gaTb := ga_tb (List.mem_append_right _ (List.mem_append_right _ (List.mem_append_right _ (List.mem_append_right _ (List.mem_of_getElem? (i := 109) rfl))))) rfl
set_option maxRecDepth 20000 in
theorem nRX6_180 : Cond.methodLink RX6 180 yX6_lists ∈ gaTb := ga_tb (List.mem_append_right _ (List.mem_append_right _ (List.mem_append_right _ (List.mem_append_right _ (List.mem_of_getElem? (i := 105) rfl))))) rfl
set_option maxRecDepth 20000 in
theorem nRX6_184 : Cond.methodLink RX6 184 yX6_anHour ∈ gaTb := ga_tb (List.mem_append_right _ (List.mem_append_right _ (List.mem_append_right _ (List.mem_append_right _ (List.mem_of_getElem? (i := 121) rfl))))) rfl
set_option maxRecDepth 20000 in
theorem nRX6_188 : Cond.methodLink RX6 188 yX6_homeCost ∈ gaTb := ga_tb (List.mem_append_right _ (List.mem_append_right _ (List.mem_append_right _ (List.mem_append_right _ (List.mem_of_getElem? (i := 141) rfl))))) rfl
set_option maxRecDepth 20000 in
theorem nRX6_194 : Cond.methodLink RX6 194 Lib.Math.min.name ∈ gaTb := ga_tb (List.mem_append_right _ (List.mem_append_right _ (List.mem_append_right _ (List.mem_append_right _ (List.mem_of_getElem? (i := 158) rfl))))) rfl
set_option maxRecDepth 20000 in
theorem nRX6_197 : Cond.methodLink RX6 197 yX6_regretOf ∈ gaTb := ga_tb (List.mem_append_right _ (List.mem_append_right _ (List.mem_append_right _ (List.mem_append_right _ (List.mem_of_getElem? (i := 153) rfl))))) rfl
set_option maxRecDepth 20000 in
theorem nRX6_200 : Cond.methodLink RX6 200 yX6_many ∈ gaTb := ga_tb (List.mem_append_right _ (List.mem_append_right _ (List.mem_append_right _ (List.mem_append_right _ (List.mem_of_getElem? (i := 171) rfl))))) rfl
set_option maxRecDepth 20000 in
theorem clRX5_101 : Cond.classLink RX5 101 gaT_4.1 ∈ gaTb := ga_tb (List.mem_append_right _ (List.mem_append_right _ (List.mem_append_left _ (List.mem_of_getElem? (i := 17) rfl)))) rfl
set_option maxRecDepth 20000 in
theorem kRX6_193 : Cond.constant RX6 193 (Int32.ofInt 2147483647) ∈ gaTb := ga_tb (List.mem_append_right _ (List.mem_append_right _ (List.mem_append_right _ (List.mem_append_right _ (List.mem_of_getElem? (i := 157) rfl))))) rfl
set_option maxRecDepth 20000 in
theorem mJ15_checkIndex_7cf53 : ga_wm yJ15_checkIndex_7cf53 cJ15_checkIndex_7cf53 2 (some .int) 2 := ⟨ga_tb (List.mem_append_right _ (List.mem_append_right _ (List.mem_append_left _ (List.mem_of_getElem? (i := 141) rfl)))) rfl, ga_tb (List.mem_append_right _ (List.mem_append_left _ (List.mem_of_getElem? (i := 15) rfl))) rfl, ⟨by decide, by decide⟩, by decide +kernel, by decide⟩
set_option maxRecDepth 20000 in
theorem sJ15_checkIndex_7cf53 : Cond.static yJ15_checkIndex_7cf53 ∈ gaTb := ga_tb (List.mem_append_right _ (List.mem_append_right _ (List.mem_append_left _ (List.mem_of_getElem? (i := 140) rfl)))) rfl
set_option maxRecDepth 20000 in
theorem mJ3_checkIndex_8e157 : ga_wm yJ3_checkIndex_8e157 cJ3_checkIndex_8e157 3 (some .int) 3 := ⟨ga_tb (List.mem_append_right _ (List.mem_append_right _ (List.mem_append_left _ (List.mem_of_getElem? (i := 144) rfl)))) rfl, ga_tb (List.mem_append_right _ (List.mem_append_left _ (List.mem_of_getElem? (i := 16) rfl))) rfl, ⟨by decide, by decide⟩, by decide +kernel, by decide⟩
set_option maxRecDepth 20000 in
theorem sJ3_checkIndex_8e157 : Cond.static yJ3_checkIndex_8e157 ∈ gaTb := ga_tb (List.mem_append_right _ (List.mem_append_right _ (List.mem_append_left _ (List.mem_of_getElem? (i := 143) rfl)))) rfl
set_option maxRecDepth 20000 in
theorem mJx4a65c_elementData_915e3 : ga_wm yJx4a65c_elementData_915e3 cJx4a65c_elementData_915e3 2 (some (.object "java/lang/Object")) 1 := ⟨ga_tb (List.mem_append_right _ (List.mem_append_right _ (List.mem_append_left _ (List.mem_of_getElem? (i := 148) rfl)))) rfl, ga_tb (List.mem_append_right _ (List.mem_append_left _ (List.mem_of_getElem? (i := 5) rfl))) rfl, ⟨by decide, by decide⟩, by decide +kernel, by decide⟩
set_option maxRecDepth 20000 in
theorem vJx4a65c_elementData_915e3 : ga_wv yJx4a65c_elementData_915e3 7 := ⟨⟨(RJx4a65c, TJx4a65c, 3), rfl, rfl⟩, ga_tb (List.mem_append_right _ (List.mem_append_right _ (List.mem_append_left _ (List.mem_of_getElem? (i := 146) rfl)))) rfl, ga_tb (List.mem_append_right _ (List.mem_append_right _ (List.mem_append_left _ (List.mem_of_getElem? (i := 147) rfl)))) rfl⟩
set_option maxRecDepth 20000 in
theorem mJx4a65c_get_915e3 : ga_wm yJx4a65c_get_915e3 cJx4a65c_get_915e3 2 (some (.object "java/lang/Object")) 1 := ⟨ga_tb (List.mem_append_right _ (List.mem_append_right _ (List.mem_append_left _ (List.mem_of_getElem? (i := 138) rfl)))) rfl, ga_tb (List.mem_append_right _ (List.mem_append_left _ (List.mem_of_getElem? (i := 5) rfl))) rfl, ⟨by decide, by decide⟩, by decide +kernel, by decide⟩
set_option maxRecDepth 20000 in
theorem vJx4a65c_get_915e3 : ga_wv yJx4a65c_get_915e3 7 := ⟨⟨(RJx4a65c, TJx4a65c, 3), rfl, rfl⟩, ga_tb (List.mem_append_right _ (List.mem_append_right _ (List.mem_append_left _ (List.mem_of_getElem? (i := 136) rfl)))) rfl, ga_tb (List.mem_append_right _ (List.mem_append_right _ (List.mem_append_left _ (List.mem_of_getElem? (i := 137) rfl)))) rfl⟩
set_option maxRecDepth 20000 in
theorem mJx4a65c_size_8abf5 : ga_wm yJx4a65c_size_8abf5 cJx4a65c_size_8abf5 1 (some .int) 0 := ⟨ga_tb (List.mem_append_right _ (List.mem_append_right _ (List.mem_append_left _ (List.mem_of_getElem? (i := 16) rfl)))) rfl, ga_tb (List.mem_append_right _ (List.mem_append_left _ (List.mem_of_getElem? (i := 5) rfl))) rfl, ⟨by decide, by decide⟩, by decide +kernel, by decide⟩
set_option maxRecDepth 20000 in
theorem vJx4a65c_size_8abf5 : ga_wv yJx4a65c_size_8abf5 7 := ⟨⟨(RJx4a65c, TJx4a65c, 3), rfl, rfl⟩, ga_tb (List.mem_append_right _ (List.mem_append_right _ (List.mem_append_left _ (List.mem_of_getElem? (i := 14) rfl)))) rfl, ga_tb (List.mem_append_right _ (List.mem_append_right _ (List.mem_append_left _ (List.mem_of_getElem? (i := 15) rfl)))) rfl⟩
set_option maxRecDepth 20000 in
theorem mX0_clear : ga_wm yX0_clear cX0_clear 2 none 0 := ⟨ga_tb (List.mem_append_right _ (List.mem_append_right _ (List.mem_append_left _ (List.mem_of_getElem? (i := 168) rfl)))) rfl, ga_tb (List.mem_append_right _ (List.mem_append_left _ (List.mem_of_getElem? (i := 6) rfl))) rfl, ⟨by decide, by decide⟩, by decide +kernel, by decide⟩
set_option maxRecDepth 20000 in
theorem vX0_clear : ga_wv yX0_clear 0 := ⟨⟨(RX0, TX0, 5), rfl, rfl⟩, ga_tb (List.mem_append_right _ (List.mem_append_right _ (List.mem_append_left _ (List.mem_of_getElem? (i := 166) rfl)))) rfl, ga_tb (List.mem_append_right _ (List.mem_append_right _ (List.mem_append_left _ (List.mem_of_getElem? (i := 167) rfl)))) rfl⟩
set_option maxRecDepth 20000 in
theorem mX0_has : ga_wm yX0_has cX0_has 2 (some .boolean) 1 := ⟨ga_tb (List.mem_append_right _ (List.mem_append_right _ (List.mem_append_left _ (List.mem_of_getElem? (i := 221) rfl)))) rfl, ga_tb (List.mem_append_right _ (List.mem_append_left _ (List.mem_of_getElem? (i := 6) rfl))) rfl, ⟨by decide, by decide⟩, by decide +kernel, by decide⟩
set_option maxRecDepth 20000 in
theorem vX0_has : ga_wv yX0_has 0 := ⟨⟨(RX0, TX0, 5), rfl, rfl⟩, ga_tb (List.mem_append_right _ (List.mem_append_right _ (List.mem_append_left _ (List.mem_of_getElem? (i := 219) rfl)))) rfl, ga_tb (List.mem_append_right _ (List.mem_append_right _ (List.mem_append_left _ (List.mem_of_getElem? (i := 220) rfl)))) rfl⟩
set_option maxRecDepth 20000 in
theorem mX0_put : ga_wm yX0_put cX0_put 5 none 4 := ⟨ga_tb (List.mem_append_right _ (List.mem_append_right _ (List.mem_append_left _ (List.mem_of_getElem? (i := 213) rfl)))) rfl, ga_tb (List.mem_append_right _ (List.mem_append_left _ (List.mem_of_getElem? (i := 6) rfl))) rfl, ⟨by decide, by decide⟩, by decide +kernel, by decide⟩
set_option maxRecDepth 20000 in
theorem vX0_put : ga_wv yX0_put 0 := ⟨⟨(RX0, TX0, 5), rfl, rfl⟩, ga_tb (List.mem_append_right _ (List.mem_append_right _ (List.mem_append_left _ (List.mem_of_getElem? (i := 211) rfl)))) rfl, ga_tb (List.mem_append_right _ (List.mem_append_right _ (List.mem_append_left _ (List.mem_of_getElem? (i := 212) rfl)))) rfl⟩
set_option maxRecDepth 20000 in
theorem mX0_tell : ga_wm yX0_tell cX0_tell 3 (some .int) 2 := ⟨ga_tb (List.mem_append_right _ (List.mem_append_right _ (List.mem_append_left _ (List.mem_of_getElem? (i := 233) rfl)))) rfl, ga_tb (List.mem_append_right _ (List.mem_append_left _ (List.mem_of_getElem? (i := 6) rfl))) rfl, ⟨by decide, by decide⟩, by decide +kernel, by decide⟩
set_option maxRecDepth 20000 in
theorem vX0_tell : ga_wv yX0_tell 0 := ⟨⟨(RX0, TX0, 5), rfl, rfl⟩, ga_tb (List.mem_append_right _ (List.mem_append_right _ (List.mem_append_left _ (List.mem_of_getElem? (i := 231) rfl)))) rfl, ga_tb (List.mem_append_right _ (List.mem_append_right _ (List.mem_append_left _ (List.mem_of_getElem? (i := 232) rfl)))) rfl⟩
set_option maxRecDepth 20000 in
theorem mX1_fill : ga_wm yX1_fill cX1_fill 7 none 5 := ⟨ga_tb (List.mem_append_right _ (List.mem_append_right _ (List.mem_append_left _ (List.mem_of_getElem? (i := 189) rfl)))) rfl, ga_tb (List.mem_append_right _ (List.mem_append_left _ (List.mem_of_getElem? (i := 7) rfl))) rfl, ⟨by decide, by decide⟩, by decide +kernel, by decide⟩
set_option maxRecDepth 20000 in
theorem vX1_fill : ga_wv yX1_fill 1 := ⟨⟨(RX1, TX1, 7), rfl, rfl⟩, ga_tb (List.mem_append_right _ (List.mem_append_right _ (List.mem_append_left _ (List.mem_of_getElem? (i := 187) rfl)))) rfl, ga_tb (List.mem_append_right _ (List.mem_append_right _ (List.mem_append_left _ (List.mem_of_getElem? (i := 188) rfl)))) rfl⟩
set_option maxRecDepth 20000 in
theorem mX1_fillRow : ga_wm yX1_fillRow cX1_fillRow 14 none 5 := ⟨ga_tb (List.mem_append_right _ (List.mem_append_right _ (List.mem_append_left _ (List.mem_of_getElem? (i := 193) rfl)))) rfl, ga_tb (List.mem_append_right _ (List.mem_append_left _ (List.mem_of_getElem? (i := 7) rfl))) rfl, ⟨by decide, by decide⟩, by decide +kernel, by decide⟩
set_option maxRecDepth 20000 in
theorem vX1_fillRow : ga_wv yX1_fillRow 1 := ⟨⟨(RX1, TX1, 7), rfl, rfl⟩, ga_tb (List.mem_append_right _ (List.mem_append_right _ (List.mem_append_left _ (List.mem_of_getElem? (i := 192) rfl)))) rfl, ga_tb (List.mem_append_left _ (List.mem_of_getElem? (i := 14) rfl)) rfl⟩
set_option maxRecDepth 20000 in
theorem mX1_pickAt : ga_wm yX1_pickAt cX1_pickAt 4 none 1 := ⟨ga_tb (List.mem_append_right _ (List.mem_append_right _ (List.mem_append_left _ (List.mem_of_getElem? (i := 205) rfl)))) rfl, ga_tb (List.mem_append_right _ (List.mem_append_left _ (List.mem_of_getElem? (i := 7) rfl))) rfl, ⟨by decide, by decide⟩, by decide +kernel, by decide⟩
set_option maxRecDepth 20000 in
theorem vX1_pickAt : ga_wv yX1_pickAt 1 := ⟨⟨(RX1, TX1, 7), rfl, rfl⟩, ga_tb (List.mem_append_right _ (List.mem_append_right _ (List.mem_append_left _ (List.mem_of_getElem? (i := 204) rfl)))) rfl, ga_tb (List.mem_append_left _ (List.mem_of_getElem? (i := 15) rfl)) rfl⟩
set_option maxRecDepth 20000 in
theorem mX1_pickCheapest : ga_wm yX1_pickCheapest cX1_pickCheapest 2 none 0 := ⟨ga_tb (List.mem_append_right _ (List.mem_append_right _ (List.mem_append_left _ (List.mem_of_getElem? (i := 209) rfl)))) rfl, ga_tb (List.mem_append_right _ (List.mem_append_left _ (List.mem_of_getElem? (i := 7) rfl))) rfl, ⟨by decide, by decide⟩, by decide +kernel, by decide⟩
set_option maxRecDepth 20000 in
theorem vX1_pickCheapest : ga_wv yX1_pickCheapest 1 := ⟨⟨(RX1, TX1, 7), rfl, rfl⟩, ga_tb (List.mem_append_right _ (List.mem_append_right _ (List.mem_append_left _ (List.mem_of_getElem? (i := 207) rfl)))) rfl, ga_tb (List.mem_append_right _ (List.mem_append_right _ (List.mem_append_left _ (List.mem_of_getElem? (i := 208) rfl)))) rfl⟩
set_option maxRecDepth 20000 in
theorem mX1_pickSoonest : ga_wm yX1_pickSoonest cX1_pickSoonest 2 none 0 := ⟨ga_tb (List.mem_append_right _ (List.mem_append_right _ (List.mem_append_left _ (List.mem_of_getElem? (i := 201) rfl)))) rfl, ga_tb (List.mem_append_right _ (List.mem_append_left _ (List.mem_of_getElem? (i := 7) rfl))) rfl, ⟨by decide, by decide⟩, by decide +kernel, by decide⟩
set_option maxRecDepth 20000 in
theorem vX1_pickSoonest : ga_wv yX1_pickSoonest 1 := ⟨⟨(RX1, TX1, 7), rfl, rfl⟩, ga_tb (List.mem_append_right _ (List.mem_append_right _ (List.mem_append_left _ (List.mem_of_getElem? (i := 199) rfl)))) rfl, ga_tb (List.mem_append_right _ (List.mem_append_right _ (List.mem_append_left _ (List.mem_of_getElem? (i := 200) rfl)))) rfl⟩
set_option maxRecDepth 20000 in
theorem mX2_add : ga_wm yX2_add cX2_add 4 (some .int) 1 := ⟨ga_tb (List.mem_append_right _ (List.mem_append_left _ (List.mem_of_getElem? (i := 216) rfl))) rfl, ga_tb (List.mem_append_right _ (List.mem_append_left _ (List.mem_of_getElem? (i := 2) rfl))) rfl, ⟨by decide, by decide⟩, by decide +kernel, by decide⟩
set_option maxRecDepth 20000 in
theorem vX2_add : ga_wv yX2_add 2 := ⟨⟨(RX2, TX2, 4), rfl, rfl⟩, ga_tb (List.mem_append_right _ (List.mem_append_left _ (List.mem_of_getElem? (i := 214) rfl))) rfl, ga_tb (List.mem_append_right _ (List.mem_append_left _ (List.mem_of_getElem? (i := 215) rfl))) rfl⟩
set_option maxRecDepth 20000 in
theorem mX2_carriage : ga_wm yX2_carriage cX2_carriage 3 (some .int) 2 := ⟨ga_tb (List.mem_append_right _ (List.mem_append_right _ (List.mem_append_left _ (List.mem_of_getElem? (i := 197) rfl)))) rfl, ga_tb (List.mem_append_right _ (List.mem_append_left _ (List.mem_of_getElem? (i := 2) rfl))) rfl, ⟨by decide, by decide⟩, by decide +kernel, by decide⟩
set_option maxRecDepth 20000 in
theorem vX2_carriage : ga_wv yX2_carriage 2 := ⟨⟨(RX2, TX2, 4), rfl, rfl⟩, ga_tb (List.mem_append_right _ (List.mem_append_right _ (List.mem_append_left _ (List.mem_of_getElem? (i := 195) rfl)))) rfl, ga_tb (List.mem_append_right _ (List.mem_append_right _ (List.mem_append_left _ (List.mem_of_getElem? (i := 196) rfl)))) rfl⟩
set_option maxRecDepth 20000 in
theorem mX2_costOf : ga_wm yX2_costOf cX2_costOf 6 (some .int) 3 := ⟨ga_tb (List.mem_append_right _ (List.mem_append_right _ (List.mem_append_right _ (List.mem_append_left _ (List.mem_of_getElem? (i := 88) rfl))))) rfl, ga_tb (List.mem_append_right _ (List.mem_append_left _ (List.mem_of_getElem? (i := 2) rfl))) rfl, ⟨by decide, by decide⟩, by decide +kernel, by decide⟩
set_option maxRecDepth 20000 in
theorem vX2_costOf : ga_wv yX2_costOf 2 := ⟨⟨(RX2, TX2, 4), rfl, rfl⟩, ga_tb (List.mem_append_right _ (List.mem_append_right _ (List.mem_append_right _ (List.mem_append_left _ (List.mem_of_getElem? (i := 86) rfl))))) rfl, ga_tb (List.mem_append_right _ (List.mem_append_right _ (List.mem_append_right _ (List.mem_append_left _ (List.mem_of_getElem? (i := 87) rfl))))) rfl⟩
set_option maxRecDepth 20000 in
theorem mX2_fits : ga_wm yX2_fits cX2_fits 5 (some .boolean) 3 := ⟨ga_tb (List.mem_append_right _ (List.mem_append_right _ (List.mem_append_right _ (List.mem_append_left _ (List.mem_of_getElem? (i := 37) rfl))))) rfl, ga_tb (List.mem_append_right _ (List.mem_append_left _ (List.mem_of_getElem? (i := 2) rfl))) rfl, ⟨by decide, by decide⟩, by decide +kernel, by decide⟩
set_option maxRecDepth 20000 in
theorem vX2_fits : ga_wv yX2_fits 2 := ⟨⟨(RX2, TX2, 4), rfl, rfl⟩, ga_tb (List.mem_append_right _ (List.mem_append_right _ (List.mem_append_right _ (List.mem_append_left _ (List.mem_of_getElem? (i := 35) rfl))))) rfl, ga_tb (List.mem_append_right _ (List.mem_append_right _ (List.mem_append_right _ (List.mem_append_left _ (List.mem_of_getElem? (i := 36) rfl))))) rfl⟩
set_option maxRecDepth 20000 in
theorem mX2_giveBack : ga_wm yX2_giveBack cX2_giveBack 5 none 3 := ⟨ga_tb (List.mem_append_right _ (List.mem_append_right _ (List.mem_append_left _ (List.mem_of_getElem? (i := 225) rfl)))) rfl, ga_tb (List.mem_append_right _ (List.mem_append_left _ (List.mem_of_getElem? (i := 2) rfl))) rfl, ⟨by decide, by decide⟩, by decide +kernel, by decide⟩
set_option maxRecDepth 20000 in
theorem vX2_giveBack : ga_wv yX2_giveBack 2 := ⟨⟨(RX2, TX2, 4), rfl, rfl⟩, ga_tb (List.mem_append_right _ (List.mem_append_right _ (List.mem_append_left _ (List.mem_of_getElem? (i := 223) rfl)))) rfl, ga_tb (List.mem_append_right _ (List.mem_append_right _ (List.mem_append_left _ (List.mem_of_getElem? (i := 224) rfl)))) rfl⟩
set_option maxRecDepth 20000 in
theorem mX2_has : ga_wm yX2_has cX2_has 2 (some .boolean) 1 := ⟨ga_tb (List.mem_append_right _ (List.mem_append_left _ (List.mem_of_getElem? (i := 228) rfl))) rfl, ga_tb (List.mem_append_right _ (List.mem_append_left _ (List.mem_of_getElem? (i := 2) rfl))) rfl, ⟨by decide, by decide⟩, by decide +kernel, by decide⟩
set_option maxRecDepth 20000 in
theorem vX2_has : ga_wv yX2_has 2 := ⟨⟨(RX2, TX2, 4), rfl, rfl⟩, ga_tb (List.mem_append_right _ (List.mem_append_left _ (List.mem_of_getElem? (i := 226) rfl))) rfl, ga_tb (List.mem_append_right _ (List.mem_append_left _ (List.mem_of_getElem? (i := 227) rfl))) rfl⟩
set_option maxRecDepth 20000 in
theorem mX2_take : ga_wm yX2_take cX2_take 5 none 3 := ⟨ga_tb (List.mem_append_right _ (List.mem_append_right _ (List.mem_append_left _ (List.mem_of_getElem? (i := 217) rfl)))) rfl, ga_tb (List.mem_append_right _ (List.mem_append_left _ (List.mem_of_getElem? (i := 2) rfl))) rfl, ⟨by decide, by decide⟩, by decide +kernel, by decide⟩
set_option maxRecDepth 20000 in
theorem vX2_take : ga_wv yX2_take 2 := ⟨⟨(RX2, TX2, 4), rfl, rfl⟩, ga_tb (List.mem_append_right _ (List.mem_append_right _ (List.mem_append_left _ (List.mem_of_getElem? (i := 215) rfl)))) rfl, ga_tb (List.mem_append_right _ (List.mem_append_right _ (List.mem_append_left _ (List.mem_of_getElem? (i := 216) rfl)))) rfl⟩
set_option maxRecDepth 20000 in
theorem mX3_add : ga_wm yX3_add cX3_add 6 none 2 := ⟨ga_tb (List.mem_append_right _ (List.mem_append_right _ (List.mem_append_right _ (List.mem_append_left _ (List.mem_of_getElem? (i := 18) rfl))))) rfl, ga_tb (List.mem_append_right _ (List.mem_append_left _ (List.mem_of_getElem? (i := 8) rfl))) rfl, ⟨by decide, by decide⟩, by decide +kernel, by decide⟩
set_option maxRecDepth 20000 in
theorem vX3_add : ga_wv yX3_add 3 := ⟨⟨(RX3, TX3, 6), rfl, rfl⟩, ga_tb (List.mem_append_right _ (List.mem_append_right _ (List.mem_append_right _ (List.mem_append_left _ (List.mem_of_getElem? (i := 16) rfl))))) rfl, ga_tb (List.mem_append_right _ (List.mem_append_right _ (List.mem_append_right _ (List.mem_append_left _ (List.mem_of_getElem? (i := 17) rfl))))) rfl⟩
set_option maxRecDepth 20000 in
theorem mX3_cheapestFrom : ga_wm yX3_cheapestFrom cX3_cheapestFrom 4 (some .int) 1 := ⟨ga_tb (List.mem_append_right _ (List.mem_append_right _ (List.mem_append_right _ (List.mem_append_left _ (List.mem_of_getElem? (i := 33) rfl))))) rfl, ga_tb (List.mem_append_right _ (List.mem_append_left _ (List.mem_of_getElem? (i := 8) rfl))) rfl, ⟨by decide, by decide⟩, by decide +kernel, by decide⟩
set_option maxRecDepth 20000 in
theorem vX3_cheapestFrom : ga_wv yX3_cheapestFrom 3 := ⟨⟨(RX3, TX3, 6), rfl, rfl⟩, ga_tb (List.mem_append_right _ (List.mem_append_right _ (List.mem_append_right _ (List.mem_append_left _ (List.mem_of_getElem? (i := 32) rfl))))) rfl, ga_tb (List.mem_append_left _ (List.mem_of_getElem? (i := 19) rfl)) rfl⟩
set_option maxRecDepth 20000 in
theorem mX3_clear : ga_wm yX3_clear cX3_clear 1 none 0 := ⟨ga_tb (List.mem_append_right _ (List.mem_append_right _ (List.mem_append_right _ (List.mem_append_left _ (List.mem_of_getElem? (i := 14) rfl))))) rfl, ga_tb (List.mem_append_right _ (List.mem_append_left _ (List.mem_of_getElem? (i := 8) rfl))) rfl, ⟨by decide, by decide⟩, by decide +kernel, by decide⟩
set_option maxRecDepth 20000 in
theorem vX3_clear : ga_wv yX3_clear 3 := ⟨⟨(RX3, TX3, 6), rfl, rfl⟩, ga_tb (List.mem_append_right _ (List.mem_append_right _ (List.mem_append_right _ (List.mem_append_left _ (List.mem_of_getElem? (i := 12) rfl))))) rfl, ga_tb (List.mem_append_right _ (List.mem_append_right _ (List.mem_append_right _ (List.mem_append_left _ (List.mem_of_getElem? (i := 13) rfl))))) rfl⟩
set_option maxRecDepth 20000 in
theorem mX3_keep : ga_wm yX3_keep cX3_keep 6 none 4 := ⟨ga_tb (List.mem_append_right _ (List.mem_append_right _ (List.mem_append_right _ (List.mem_append_left _ (List.mem_of_getElem? (i := 22) rfl))))) rfl, ga_tb (List.mem_append_right _ (List.mem_append_left _ (List.mem_of_getElem? (i := 8) rfl))) rfl, ⟨by decide, by decide⟩, by decide +kernel, by decide⟩
set_option maxRecDepth 20000 in
theorem vX3_keep : ga_wv yX3_keep 3 := ⟨⟨(RX3, TX3, 6), rfl, rfl⟩, ga_tb (List.mem_append_right _ (List.mem_append_right _ (List.mem_append_right _ (List.mem_append_left _ (List.mem_of_getElem? (i := 21) rfl))))) rfl, ga_tb (List.mem_append_left _ (List.mem_of_getElem? (i := 18) rfl)) rfl⟩
set_option maxRecDepth 20000 in
theorem mX3_least : ga_wm yX3_least cX3_least 3 (some .int) 1 := ⟨ga_tb (List.mem_append_right _ (List.mem_append_right _ (List.mem_append_right _ (List.mem_append_left _ (List.mem_of_getElem? (i := 26) rfl))))) rfl, ga_tb (List.mem_append_right _ (List.mem_append_left _ (List.mem_of_getElem? (i := 8) rfl))) rfl, ⟨by decide, by decide⟩, by decide +kernel, by decide⟩
set_option maxRecDepth 20000 in
theorem vX3_least : ga_wv yX3_least 3 := ⟨⟨(RX3, TX3, 6), rfl, rfl⟩, ga_tb (List.mem_append_right _ (List.mem_append_right _ (List.mem_append_right _ (List.mem_append_left _ (List.mem_of_getElem? (i := 24) rfl))))) rfl, ga_tb (List.mem_append_right _ (List.mem_append_right _ (List.mem_append_right _ (List.mem_append_left _ (List.mem_of_getElem? (i := 25) rfl))))) rfl⟩
set_option maxRecDepth 20000 in
theorem mX3_search : ga_wm yX3_search cX3_search 11 (some .int) 5 := ⟨ga_tb (List.mem_append_right _ (List.mem_append_right _ (List.mem_append_right _ (List.mem_append_left _ (List.mem_of_getElem? (i := 29) rfl))))) rfl, ga_tb (List.mem_append_right _ (List.mem_append_left _ (List.mem_of_getElem? (i := 8) rfl))) rfl, ⟨by decide, by decide⟩, by decide +kernel, by decide⟩
set_option maxRecDepth 20000 in
theorem sX3_search : Cond.static yX3_search ∈ gaTb := ga_tb (List.mem_append_right _ (List.mem_append_right _ (List.mem_append_right _ (List.mem_append_left _ (List.mem_of_getElem? (i := 28) rfl))))) rfl
set_option maxRecDepth 20000 in
theorem mX4_tell : ga_wm yX4_tell cX4_tell 2 (some .int) 1 := ⟨ga_tb (List.mem_append_right _ (List.mem_append_right _ (List.mem_append_left _ (List.mem_of_getElem? (i := 156) rfl)))) rfl, ga_tb (List.mem_append_right _ (List.mem_append_left _ (List.mem_of_getElem? (i := 10) rfl))) rfl, ⟨by decide, by decide⟩, by decide +kernel, by decide⟩
set_option maxRecDepth 20000 in
theorem vX4_tell : ga_wv yX4_tell 4 := ⟨⟨(RX4, TX4, 10), rfl, rfl⟩, ga_tb (List.mem_append_right _ (List.mem_append_right _ (List.mem_append_left _ (List.mem_of_getElem? (i := 154) rfl)))) rfl, ga_tb (List.mem_append_right _ (List.mem_append_right _ (List.mem_append_left _ (List.mem_of_getElem? (i := 155) rfl)))) rfl⟩
set_option maxRecDepth 20000 in
theorem mX5_about : ga_wm yX5_about cX5_about 3 (some .int) 2 := ⟨ga_tb (List.mem_append_right _ (List.mem_append_right _ (List.mem_append_left _ (List.mem_of_getElem? (i := 152) rfl)))) rfl, ga_tb (List.mem_append_right _ (List.mem_append_left _ (List.mem_of_getElem? (i := 1) rfl))) rfl, ⟨by decide, by decide⟩, by decide +kernel, by decide⟩
set_option maxRecDepth 20000 in
theorem vX5_about : ga_wv yX5_about 5 := ⟨⟨(RX5, TX5, 11), rfl, rfl⟩, ga_tb (List.mem_append_right _ (List.mem_append_right _ (List.mem_append_left _ (List.mem_of_getElem? (i := 150) rfl)))) rfl, ga_tb (List.mem_append_right _ (List.mem_append_right _ (List.mem_append_left _ (List.mem_of_getElem? (i := 151) rfl)))) rfl⟩
set_option maxRecDepth 20000 in
theorem mX5_atOnce : ga_wm yX5_atOnce cX5_atOnce 4 (some .int) 0 := ⟨ga_tb (List.mem_append_right _ (List.mem_append_right _ (List.mem_append_right _ (List.mem_append_left _ (List.mem_of_getElem? (i := 84) rfl))))) rfl, ga_tb (List.mem_append_right _ (List.mem_append_left _ (List.mem_of_getElem? (i := 1) rfl))) rfl, ⟨by decide, by decide⟩, by decide +kernel, by decide⟩
set_option maxRecDepth 20000 in
theorem vX5_atOnce : ga_wv yX5_atOnce 5 := ⟨⟨(RX5, TX5, 11), rfl, rfl⟩, ga_tb (List.mem_append_right _ (List.mem_append_right _ (List.mem_append_right _ (List.mem_append_left _ (List.mem_of_getElem? (i := 82) rfl))))) rfl, ga_tb (List.mem_append_right _ (List.mem_append_right _ (List.mem_append_right _ (List.mem_append_left _ (List.mem_of_getElem? (i := 83) rfl))))) rfl⟩
set_option maxRecDepth 20000 in
theorem mX5_beginLaid : ga_wm yX5_beginLaid cX5_beginLaid 3 none 0 := ⟨ga_tb (List.mem_append_right _ (List.mem_append_right _ (List.mem_append_right _ (List.mem_append_left _ (List.mem_of_getElem? (i := 59) rfl))))) rfl, ga_tb (List.mem_append_right _ (List.mem_append_left _ (List.mem_of_getElem? (i := 1) rfl))) rfl, ⟨by decide, by decide⟩, by decide +kernel, by decide⟩
set_option maxRecDepth 20000 in
theorem vX5_beginLaid : ga_wv yX5_beginLaid 5 := ⟨⟨(RX5, TX5, 11), rfl, rfl⟩, ga_tb (List.mem_append_right _ (List.mem_append_right _ (List.mem_append_right _ (List.mem_append_left _ (List.mem_of_getElem? (i := 58) rfl))))) rfl, ga_tb (List.mem_append_left _ (List.mem_of_getElem? (i := 22) rfl)) rfl⟩
set_option maxRecDepth 20000 in
theorem mX5_behind : ga_wm yX5_behind cX5_behind 2 (some .int) 1 := ⟨ga_tb (List.mem_append_right _ (List.mem_append_right _ (List.mem_append_right _ (List.mem_append_left _ (List.mem_of_getElem? (i := 76) rfl))))) rfl, ga_tb (List.mem_append_right _ (List.mem_append_left _ (List.mem_of_getElem? (i := 1) rfl))) rfl, ⟨by decide, by decide⟩, by decide +kernel, by decide⟩
set_option maxRecDepth 20000 in
theorem vX5_behind : ga_wv yX5_behind 5 := ⟨⟨(RX5, TX5, 11), rfl, rfl⟩, ga_tb (List.mem_append_right _ (List.mem_append_right _ (List.mem_append_right _ (List.mem_append_left _ (List.mem_of_getElem? (i := 74) rfl))))) rfl, ga_tb (List.mem_append_right _ (List.mem_append_right _ (List.mem_append_right _ (List.mem_append_left _ (List.mem_of_getElem? (i := 75) rfl))))) rfl⟩
set_option maxRecDepth 20000 in
theorem mX5_best : ga_wm yX5_best cX5_best 3 (some .int) 0 := ⟨ga_tb (List.mem_append_right _ (List.mem_append_right _ (List.mem_append_right _ (List.mem_append_left _ (List.mem_of_getElem? (i := 2) rfl))))) rfl, ga_tb (List.mem_append_right _ (List.mem_append_left _ (List.mem_of_getElem? (i := 1) rfl))) rfl, ⟨by decide, by decide⟩, by decide +kernel, by decide⟩
set_option maxRecDepth 20000 in
theorem vX5_best : ga_wv yX5_best 5 := ⟨⟨(RX5, TX5, 11), rfl, rfl⟩, ga_tb (List.mem_append_right _ (List.mem_append_right _ (List.mem_append_right _ (List.mem_append_left _ (List.mem_of_getElem? (i := 0) rfl))))) rfl, ga_tb (List.mem_append_right _ (List.mem_append_right _ (List.mem_append_right _ (List.mem_append_left _ (List.mem_of_getElem? (i := 1) rfl))))) rfl⟩
set_option maxRecDepth 20000 in
theorem mX5_cost : ga_wm yX5_cost cX5_cost 1 (some .int) 0 := ⟨ga_tb (List.mem_append_right _ (List.mem_append_right _ (List.mem_append_left _ (List.mem_of_getElem? (i := 238) rfl)))) rfl, ga_tb (List.mem_append_right _ (List.mem_append_left _ (List.mem_of_getElem? (i := 1) rfl))) rfl, ⟨by decide, by decide⟩, by decide +kernel, by decide⟩
set_option maxRecDepth 20000 in
theorem vX5_cost : ga_wv yX5_cost 5 := ⟨⟨(RX5, TX5, 11), rfl, rfl⟩, ga_tb (List.mem_append_right _ (List.mem_append_right _ (List.mem_append_left _ (List.mem_of_getElem? (i := 236) rfl)))) rfl, ga_tb (List.mem_append_right _ (List.mem_append_right _ (List.mem_append_left _ (List.mem_of_getElem? (i := 237) rfl)))) rfl⟩
set_option maxRecDepth 20000 in
theorem mX5_count : ga_wm yX5_count cX5_count 2 (some .int) 1 := ⟨ga_tb (List.mem_append_right _ (List.mem_append_right _ (List.mem_append_right _ (List.mem_append_left _ (List.mem_of_getElem? (i := 119) rfl))))) rfl, ga_tb (List.mem_append_right _ (List.mem_append_left _ (List.mem_of_getElem? (i := 1) rfl))) rfl, ⟨by decide, by decide⟩, by decide +kernel, by decide⟩
set_option maxRecDepth 20000 in
theorem vX5_count : ga_wv yX5_count 5 := ⟨⟨(RX5, TX5, 11), rfl, rfl⟩, ga_tb (List.mem_append_right _ (List.mem_append_right _ (List.mem_append_right _ (List.mem_append_left _ (List.mem_of_getElem? (i := 117) rfl))))) rfl, ga_tb (List.mem_append_right _ (List.mem_append_right _ (List.mem_append_right _ (List.mem_append_left _ (List.mem_of_getElem? (i := 118) rfl))))) rfl⟩
set_option maxRecDepth 20000 in
theorem mX5_countOf : ga_wm yX5_countOf cX5_countOf 4 (some .int) 1 := ⟨ga_tb (List.mem_append_right _ (List.mem_append_right _ (List.mem_append_right _ (List.mem_append_left _ (List.mem_of_getElem? (i := 6) rfl))))) rfl, ga_tb (List.mem_append_right _ (List.mem_append_left _ (List.mem_of_getElem? (i := 1) rfl))) rfl, ⟨by decide, by decide⟩, by decide +kernel, by decide⟩
set_option maxRecDepth 20000 in
theorem vX5_countOf : ga_wv yX5_countOf 5 := ⟨⟨(RX5, TX5, 11), rfl, rfl⟩, ga_tb (List.mem_append_right _ (List.mem_append_right _ (List.mem_append_right _ (List.mem_append_left _ (List.mem_of_getElem? (i := 5) rfl))))) rfl, ga_tb (List.mem_append_left _ (List.mem_of_getElem? (i := 16) rfl)) rfl⟩
set_option maxRecDepth 20000 in
theorem mX5_delay : ga_wm yX5_delay cX5_delay 2 (some .int) 1 := ⟨ga_tb (List.mem_append_right _ (List.mem_append_right _ (List.mem_append_right _ (List.mem_append_left _ (List.mem_of_getElem? (i := 72) rfl))))) rfl, ga_tb (List.mem_append_right _ (List.mem_append_left _ (List.mem_of_getElem? (i := 1) rfl))) rfl, ⟨by decide, by decide⟩, by decide +kernel, by decide⟩
set_option maxRecDepth 20000 in
theorem vX5_delay : ga_wv yX5_delay 5 := ⟨⟨(RX5, TX5, 11), rfl, rfl⟩, ga_tb (List.mem_append_right _ (List.mem_append_right _ (List.mem_append_right _ (List.mem_append_left _ (List.mem_of_getElem? (i := 70) rfl))))) rfl, ga_tb (List.mem_append_right _ (List.mem_append_right _ (List.mem_append_right _ (List.mem_append_left _ (List.mem_of_getElem? (i := 71) rfl))))) rfl⟩
set_option maxRecDepth 20000 in
theorem mX5_doHour : ga_wm yX5_doHour cX5_doHour 2 (some .int) 1 := ⟨ga_tb (List.mem_append_right _ (List.mem_append_right _ (List.mem_append_right _ (List.mem_append_left _ (List.mem_of_getElem? (i := 67) rfl))))) rfl, ga_tb (List.mem_append_right _ (List.mem_append_left _ (List.mem_of_getElem? (i := 1) rfl))) rfl, ⟨by decide, by decide⟩, by decide +kernel, by decide⟩
set_option maxRecDepth 20000 in
theorem vX5_doHour : ga_wv yX5_doHour 5 := ⟨⟨(RX5, TX5, 11), rfl, rfl⟩, ga_tb (List.mem_append_right _ (List.mem_append_right _ (List.mem_append_right _ (List.mem_append_left _ (List.mem_of_getElem? (i := 66) rfl))))) rfl, ga_tb (List.mem_append_left _ (List.mem_of_getElem? (i := 24) rfl)) rfl⟩
set_option maxRecDepth 20000 in
theorem mX5_drop : ga_wm yX5_drop cX5_drop 2 (some .boolean) 1 := ⟨ga_tb (List.mem_append_right _ (List.mem_append_right _ (List.mem_append_left _ (List.mem_of_getElem? (i := 126) rfl)))) rfl, ga_tb (List.mem_append_right _ (List.mem_append_left _ (List.mem_of_getElem? (i := 1) rfl))) rfl, ⟨by decide, by decide⟩, by decide +kernel, by decide⟩
set_option maxRecDepth 20000 in
theorem vX5_drop : ga_wv yX5_drop 5 := ⟨⟨(RX5, TX5, 11), rfl, rfl⟩, ga_tb (List.mem_append_right _ (List.mem_append_right _ (List.mem_append_left _ (List.mem_of_getElem? (i := 124) rfl)))) rfl, ga_tb (List.mem_append_right _ (List.mem_append_right _ (List.mem_append_left _ (List.mem_of_getElem? (i := 125) rfl)))) rfl⟩
set_option maxRecDepth 20000 in
theorem mX5_fare : ga_wm yX5_fare cX5_fare 4 (some .boolean) 3 := ⟨ga_tb (List.mem_append_right _ (List.mem_append_left _ (List.mem_of_getElem? (i := 220) rfl))) rfl, ga_tb (List.mem_append_right _ (List.mem_append_left _ (List.mem_of_getElem? (i := 1) rfl))) rfl, ⟨by decide, by decide⟩, by decide +kernel, by decide⟩
set_option maxRecDepth 20000 in
theorem vX5_fare : ga_wv yX5_fare 5 := ⟨⟨(RX5, TX5, 11), rfl, rfl⟩, ga_tb (List.mem_append_right _ (List.mem_append_left _ (List.mem_of_getElem? (i := 218) rfl))) rfl, ga_tb (List.mem_append_right _ (List.mem_append_left _ (List.mem_of_getElem? (i := 219) rfl))) rfl⟩
set_option maxRecDepth 20000 in
theorem mX5_free : ga_wm yX5_free cX5_free 3 (some .int) 2 := ⟨ga_tb (List.mem_append_right _ (List.mem_append_right _ (List.mem_append_right _ (List.mem_append_left _ (List.mem_of_getElem? (i := 43) rfl))))) rfl, ga_tb (List.mem_append_right _ (List.mem_append_left _ (List.mem_of_getElem? (i := 1) rfl))) rfl, ⟨by decide, by decide⟩, by decide +kernel, by decide⟩
set_option maxRecDepth 20000 in
theorem vX5_free : ga_wv yX5_free 5 := ⟨⟨(RX5, TX5, 11), rfl, rfl⟩, ga_tb (List.mem_append_right _ (List.mem_append_right _ (List.mem_append_right _ (List.mem_append_left _ (List.mem_of_getElem? (i := 41) rfl))))) rfl, ga_tb (List.mem_append_right _ (List.mem_append_right _ (List.mem_append_right _ (List.mem_append_left _ (List.mem_of_getElem? (i := 42) rfl))))) rfl⟩
set_option maxRecDepth 20000 in
theorem mX5_green : ga_wm yX5_green cX5_green 6 (some .boolean) 4 := ⟨ga_tb (List.mem_append_right _ (List.mem_append_left _ (List.mem_of_getElem? (i := 232) rfl))) rfl, ga_tb (List.mem_append_right _ (List.mem_append_left _ (List.mem_of_getElem? (i := 1) rfl))) rfl, ⟨by decide, by decide⟩, by decide +kernel, by decide⟩
set_option maxRecDepth 20000 in
theorem vX5_green : ga_wv yX5_green 5 := ⟨⟨(RX5, TX5, 11), rfl, rfl⟩, ga_tb (List.mem_append_right _ (List.mem_append_left _ (List.mem_of_getElem? (i := 230) rfl))) rfl, ga_tb (List.mem_append_right _ (List.mem_append_left _ (List.mem_of_getElem? (i := 231) rfl))) rfl⟩
set_option maxRecDepth 20000 in
theorem mX5_isBehind : ga_wm yX5_isBehind cX5_isBehind 2 (some .boolean) 1 := ⟨ga_tb (List.mem_append_right _ (List.mem_append_right _ (List.mem_append_left _ (List.mem_of_getElem? (i := 180) rfl)))) rfl, ga_tb (List.mem_append_right _ (List.mem_append_left _ (List.mem_of_getElem? (i := 1) rfl))) rfl, ⟨by decide, by decide⟩, by decide +kernel, by decide⟩
set_option maxRecDepth 20000 in
theorem vX5_isBehind : ga_wv yX5_isBehind 5 := ⟨⟨(RX5, TX5, 11), rfl, rfl⟩, ga_tb (List.mem_append_right _ (List.mem_append_right _ (List.mem_append_left _ (List.mem_of_getElem? (i := 179) rfl)))) rfl, ga_tb (List.mem_append_left _ (List.mem_of_getElem? (i := 12) rfl)) rfl⟩
set_option maxRecDepth 20000 in
theorem mX5_isJob : ga_wm yX5_isJob cX5_isJob 2 (some .boolean) 1 := ⟨ga_tb (List.mem_append_right _ (List.mem_append_right _ (List.mem_append_left _ (List.mem_of_getElem? (i := 134) rfl)))) rfl, ga_tb (List.mem_append_right _ (List.mem_append_left _ (List.mem_of_getElem? (i := 1) rfl))) rfl, ⟨by decide, by decide⟩, by decide +kernel, by decide⟩
set_option maxRecDepth 20000 in
theorem vX5_isJob : ga_wv yX5_isJob 5 := ⟨⟨(RX5, TX5, 11), rfl, rfl⟩, ga_tb (List.mem_append_right _ (List.mem_append_right _ (List.mem_append_left _ (List.mem_of_getElem? (i := 133) rfl)))) rfl, ga_tb (List.mem_append_left _ (List.mem_of_getElem? (i := 8) rfl)) rfl⟩
set_option maxRecDepth 20000 in
theorem mX5_laid : ga_wm yX5_laid cX5_laid 3 (some .int) 2 := ⟨ga_tb (List.mem_append_right _ (List.mem_append_right _ (List.mem_append_left _ (List.mem_of_getElem? (i := 229) rfl)))) rfl, ga_tb (List.mem_append_right _ (List.mem_append_left _ (List.mem_of_getElem? (i := 1) rfl))) rfl, ⟨by decide, by decide⟩, by decide +kernel, by decide⟩
set_option maxRecDepth 20000 in
theorem vX5_laid : ga_wv yX5_laid 5 := ⟨⟨(RX5, TX5, 11), rfl, rfl⟩, ga_tb (List.mem_append_right _ (List.mem_append_right _ (List.mem_append_left _ (List.mem_of_getElem? (i := 227) rfl)))) rfl, ga_tb (List.mem_append_right _ (List.mem_append_right _ (List.mem_append_left _ (List.mem_of_getElem? (i := 228) rfl)))) rfl⟩
set_option maxRecDepth 20000 in
theorem mX5_lay : ga_wm yX5_lay cX5_lay 1 (some .int) 0 := ⟨ga_tb (List.mem_append_right _ (List.mem_append_right _ (List.mem_append_left _ (List.mem_of_getElem? (i := 160) rfl)))) rfl, ga_tb (List.mem_append_right _ (List.mem_append_left _ (List.mem_of_getElem? (i := 1) rfl))) rfl, ⟨by decide, by decide⟩, by decide +kernel, by decide⟩
set_option maxRecDepth 20000 in
theorem vX5_lay : ga_wv yX5_lay 5 := ⟨⟨(RX5, TX5, 11), rfl, rfl⟩, ga_tb (List.mem_append_right _ (List.mem_append_right _ (List.mem_append_left _ (List.mem_of_getElem? (i := 158) rfl)))) rfl, ga_tb (List.mem_append_right _ (List.mem_append_right _ (List.mem_append_left _ (List.mem_of_getElem? (i := 159) rfl)))) rfl⟩
set_option maxRecDepth 20000 in
theorem mX5_layOne : ga_wm yX5_layOne cX5_layOne 4 none 2 := ⟨ga_tb (List.mem_append_right _ (List.mem_append_right _ (List.mem_append_left _ (List.mem_of_getElem? (i := 184) rfl)))) rfl, ga_tb (List.mem_append_right _ (List.mem_append_left _ (List.mem_of_getElem? (i := 1) rfl))) rfl, ⟨by decide, by decide⟩, by decide +kernel, by decide⟩
set_option maxRecDepth 20000 in
theorem vX5_layOne : ga_wv yX5_layOne 5 := ⟨⟨(RX5, TX5, 11), rfl, rfl⟩, ga_tb (List.mem_append_right _ (List.mem_append_right _ (List.mem_append_left _ (List.mem_of_getElem? (i := 183) rfl)))) rfl, ga_tb (List.mem_append_left _ (List.mem_of_getElem? (i := 13) rfl)) rfl⟩
set_option maxRecDepth 20000 in
theorem mX5_leastTogether : ga_wm yX5_leastTogether cX5_leastTogether 3 (some .int) 0 := ⟨ga_tb (List.mem_append_right _ (List.mem_append_right _ (List.mem_append_right _ (List.mem_append_left _ (List.mem_of_getElem? (i := 10) rfl))))) rfl, ga_tb (List.mem_append_right _ (List.mem_append_left _ (List.mem_of_getElem? (i := 1) rfl))) rfl, ⟨by decide, by decide⟩, by decide +kernel, by decide⟩
set_option maxRecDepth 20000 in
theorem vX5_leastTogether : ga_wv yX5_leastTogether 5 := ⟨⟨(RX5, TX5, 11), rfl, rfl⟩, ga_tb (List.mem_append_right _ (List.mem_append_right _ (List.mem_append_right _ (List.mem_append_left _ (List.mem_of_getElem? (i := 9) rfl))))) rfl, ga_tb (List.mem_append_left _ (List.mem_of_getElem? (i := 17) rfl)) rfl⟩
set_option maxRecDepth 20000 in
theorem mX5_loseLate : ga_wm yX5_loseLate cX5_loseLate 3 none 0 := ⟨ga_tb (List.mem_append_right _ (List.mem_append_right _ (List.mem_append_right _ (List.mem_append_left _ (List.mem_of_getElem? (i := 63) rfl))))) rfl, ga_tb (List.mem_append_right _ (List.mem_append_left _ (List.mem_of_getElem? (i := 1) rfl))) rfl, ⟨by decide, by decide⟩, by decide +kernel, by decide⟩
set_option maxRecDepth 20000 in
theorem vX5_loseLate : ga_wv yX5_loseLate 5 := ⟨⟨(RX5, TX5, 11), rfl, rfl⟩, ga_tb (List.mem_append_right _ (List.mem_append_right _ (List.mem_append_right _ (List.mem_append_left _ (List.mem_of_getElem? (i := 62) rfl))))) rfl, ga_tb (List.mem_append_left _ (List.mem_of_getElem? (i := 23) rfl)) rfl⟩
set_option maxRecDepth 20000 in
theorem mX5_makePlan : ga_wm yX5_makePlan cX5_makePlan 5 none 1 := ⟨ga_tb (List.mem_append_right _ (List.mem_append_right _ (List.mem_append_left _ (List.mem_of_getElem? (i := 164) rfl)))) rfl, ga_tb (List.mem_append_right _ (List.mem_append_left _ (List.mem_of_getElem? (i := 1) rfl))) rfl, ⟨by decide, by decide⟩, by decide +kernel, by decide⟩
set_option maxRecDepth 20000 in
theorem vX5_makePlan : ga_wv yX5_makePlan 5 := ⟨⟨(RX5, TX5, 11), rfl, rfl⟩, ga_tb (List.mem_append_right _ (List.mem_append_right _ (List.mem_append_left _ (List.mem_of_getElem? (i := 163) rfl)))) rfl, ga_tb (List.mem_append_left _ (List.mem_of_getElem? (i := 9) rfl)) rfl⟩
set_option maxRecDepth 20000 in
theorem mX5_orderWaiting : ga_wm yX5_orderWaiting cX5_orderWaiting 5 (some .int) 0 := ⟨ga_tb (List.mem_append_right _ (List.mem_append_right _ (List.mem_append_left _ (List.mem_of_getElem? (i := 172) rfl)))) rfl, ga_tb (List.mem_append_right _ (List.mem_append_left _ (List.mem_of_getElem? (i := 1) rfl))) rfl, ⟨by decide, by decide⟩, by decide +kernel, by decide⟩
set_option maxRecDepth 20000 in
theorem vX5_orderWaiting : ga_wv yX5_orderWaiting 5 := ⟨⟨(RX5, TX5, 11), rfl, rfl⟩, ga_tb (List.mem_append_right _ (List.mem_append_right _ (List.mem_append_left _ (List.mem_of_getElem? (i := 171) rfl)))) rfl, ga_tb (List.mem_append_left _ (List.mem_of_getElem? (i := 10) rfl)) rfl⟩
set_option maxRecDepth 20000 in
theorem mX5_paid : ga_wm yX5_paid cX5_paid 3 (some .int) 0 := ⟨ga_tb (List.mem_append_right _ (List.mem_append_right _ (List.mem_append_right _ (List.mem_append_left _ (List.mem_of_getElem? (i := 80) rfl))))) rfl, ga_tb (List.mem_append_right _ (List.mem_append_left _ (List.mem_of_getElem? (i := 1) rfl))) rfl, ⟨by decide, by decide⟩, by decide +kernel, by decide⟩
set_option maxRecDepth 20000 in
theorem vX5_paid : ga_wv yX5_paid 5 := ⟨⟨(RX5, TX5, 11), rfl, rfl⟩, ga_tb (List.mem_append_right _ (List.mem_append_right _ (List.mem_append_right _ (List.mem_append_left _ (List.mem_of_getElem? (i := 78) rfl))))) rfl, ga_tb (List.mem_append_right _ (List.mem_append_right _ (List.mem_append_right _ (List.mem_append_left _ (List.mem_of_getElem? (i := 79) rfl))))) rfl⟩
set_option maxRecDepth 20000 in
theorem mX5_paidOfDone : ga_wm yX5_paidOfDone cX5_paidOfDone 3 (some .int) 0 := ⟨ga_tb (List.mem_append_right _ (List.mem_append_right _ (List.mem_append_right _ (List.mem_append_left _ (List.mem_of_getElem? (i := 98) rfl))))) rfl, ga_tb (List.mem_append_right _ (List.mem_append_left _ (List.mem_of_getElem? (i := 1) rfl))) rfl, ⟨by decide, by decide⟩, by decide +kernel, by decide⟩
set_option maxRecDepth 20000 in
theorem vX5_paidOfDone : ga_wv yX5_paidOfDone 5 := ⟨⟨(RX5, TX5, 11), rfl, rfl⟩, ga_tb (List.mem_append_right _ (List.mem_append_right _ (List.mem_append_right _ (List.mem_append_left _ (List.mem_of_getElem? (i := 97) rfl))))) rfl, ga_tb (List.mem_append_left _ (List.mem_of_getElem? (i := 25) rfl)) rfl⟩
set_option maxRecDepth 20000 in
theorem mX5_pass : ga_wm yX5_pass cX5_pass 4 (some .int) 1 := ⟨ga_tb (List.mem_append_right _ (List.mem_append_right _ (List.mem_append_right _ (List.mem_append_left _ (List.mem_of_getElem? (i := 47) rfl))))) rfl, ga_tb (List.mem_append_right _ (List.mem_append_left _ (List.mem_of_getElem? (i := 1) rfl))) rfl, ⟨by decide, by decide⟩, by decide +kernel, by decide⟩
set_option maxRecDepth 20000 in
theorem vX5_pass : ga_wv yX5_pass 5 := ⟨⟨(RX5, TX5, 11), rfl, rfl⟩, ga_tb (List.mem_append_right _ (List.mem_append_right _ (List.mem_append_right _ (List.mem_append_left _ (List.mem_of_getElem? (i := 45) rfl))))) rfl, ga_tb (List.mem_append_right _ (List.mem_append_right _ (List.mem_append_right _ (List.mem_append_left _ (List.mem_of_getElem? (i := 46) rfl))))) rfl⟩
set_option maxRecDepth 20000 in
theorem mX5_passHour : ga_wm yX5_passHour cX5_passHour 3 (some .int) 0 := ⟨ga_tb (List.mem_append_right _ (List.mem_append_right _ (List.mem_append_right _ (List.mem_append_left _ (List.mem_of_getElem? (i := 55) rfl))))) rfl, ga_tb (List.mem_append_right _ (List.mem_append_left _ (List.mem_of_getElem? (i := 1) rfl))) rfl, ⟨by decide, by decide⟩, by decide +kernel, by decide⟩
set_option maxRecDepth 20000 in
theorem vX5_passHour : ga_wv yX5_passHour 5 := ⟨⟨(RX5, TX5, 11), rfl, rfl⟩, ga_tb (List.mem_append_right _ (List.mem_append_right _ (List.mem_append_right _ (List.mem_append_left _ (List.mem_of_getElem? (i := 54) rfl))))) rfl, ga_tb (List.mem_append_left _ (List.mem_of_getElem? (i := 21) rfl)) rfl⟩
set_option maxRecDepth 20000 in
theorem mX5_patience : ga_wm yX5_patience cX5_patience 2 (some .boolean) 1 := ⟨ga_tb (List.mem_append_right _ (List.mem_append_right _ (List.mem_append_left _ (List.mem_of_getElem? (i := 4) rfl)))) rfl, ga_tb (List.mem_append_right _ (List.mem_append_left _ (List.mem_of_getElem? (i := 1) rfl))) rfl, ⟨by decide, by decide⟩, by decide +kernel, by decide⟩
set_option maxRecDepth 20000 in
theorem vX5_patience : ga_wv yX5_patience 5 := ⟨⟨(RX5, TX5, 11), rfl, rfl⟩, ga_tb (List.mem_append_right _ (List.mem_append_right _ (List.mem_append_left _ (List.mem_of_getElem? (i := 2) rfl)))) rfl, ga_tb (List.mem_append_right _ (List.mem_append_right _ (List.mem_append_left _ (List.mem_of_getElem? (i := 3) rfl)))) rfl⟩
set_option maxRecDepth 20000 in
theorem mX5_place : ga_wm yX5_place cX5_place 2 (some .int) 1 := ⟨ga_tb (List.mem_append_right _ (List.mem_append_left _ (List.mem_of_getElem? (i := 205) rfl))) rfl, ga_tb (List.mem_append_right _ (List.mem_append_left _ (List.mem_of_getElem? (i := 1) rfl))) rfl, ⟨by decide, by decide⟩, by decide +kernel, by decide⟩
set_option maxRecDepth 20000 in
theorem vX5_place : ga_wv yX5_place 5 := ⟨⟨(RX5, TX5, 11), rfl, rfl⟩, ga_tb (List.mem_append_right _ (List.mem_append_left _ (List.mem_of_getElem? (i := 203) rfl))) rfl, ga_tb (List.mem_append_right _ (List.mem_append_left _ (List.mem_of_getElem? (i := 204) rfl))) rfl⟩
set_option maxRecDepth 20000 in
theorem mX5_rankOf : ga_wm yX5_rankOf cX5_rankOf 3 (some .int) 1 := ⟨ga_tb (List.mem_append_right _ (List.mem_append_right _ (List.mem_append_left _ (List.mem_of_getElem? (i := 176) rfl)))) rfl, ga_tb (List.mem_append_right _ (List.mem_append_left _ (List.mem_of_getElem? (i := 1) rfl))) rfl, ⟨by decide, by decide⟩, by decide +kernel, by decide⟩
set_option maxRecDepth 20000 in
theorem vX5_rankOf : ga_wv yX5_rankOf 5 := ⟨⟨(RX5, TX5, 11), rfl, rfl⟩, ga_tb (List.mem_append_right _ (List.mem_append_right _ (List.mem_append_left _ (List.mem_of_getElem? (i := 175) rfl)))) rfl, ga_tb (List.mem_append_left _ (List.mem_of_getElem? (i := 11) rfl)) rfl⟩
set_option maxRecDepth 20000 in
theorem mX5_regret : ga_wm yX5_regret cX5_regret 2 (some .int) 1 := ⟨ga_tb (List.mem_append_right _ (List.mem_append_right _ (List.mem_append_right _ (List.mem_append_left _ (List.mem_of_getElem? (i := 102) rfl))))) rfl, ga_tb (List.mem_append_right _ (List.mem_append_left _ (List.mem_of_getElem? (i := 1) rfl))) rfl, ⟨by decide, by decide⟩, by decide +kernel, by decide⟩
set_option maxRecDepth 20000 in
theorem vX5_regret : ga_wv yX5_regret 5 := ⟨⟨(RX5, TX5, 11), rfl, rfl⟩, ga_tb (List.mem_append_right _ (List.mem_append_right _ (List.mem_append_right _ (List.mem_append_left _ (List.mem_of_getElem? (i := 100) rfl))))) rfl, ga_tb (List.mem_append_right _ (List.mem_append_right _ (List.mem_append_right _ (List.mem_append_left _ (List.mem_of_getElem? (i := 101) rfl))))) rfl⟩
set_option maxRecDepth 20000 in
theorem mX5_regretOf : ga_wm yX5_regretOf cX5_regretOf 2 (some .int) 1 := ⟨ga_tb (List.mem_append_right _ (List.mem_append_right _ (List.mem_append_right _ (List.mem_append_left _ (List.mem_of_getElem? (i := 106) rfl))))) rfl, ga_tb (List.mem_append_right _ (List.mem_append_left _ (List.mem_of_getElem? (i := 1) rfl))) rfl, ⟨by decide, by decide⟩, by decide +kernel, by decide⟩
set_option maxRecDepth 20000 in
theorem vX5_regretOf : ga_wv yX5_regretOf 5 := ⟨⟨(RX5, TX5, 11), rfl, rfl⟩, ga_tb (List.mem_append_right _ (List.mem_append_right _ (List.mem_append_right _ (List.mem_append_left _ (List.mem_of_getElem? (i := 105) rfl))))) rfl, ga_tb (List.mem_append_left _ (List.mem_of_getElem? (i := 26) rfl)) rfl⟩
set_option maxRecDepth 20000 in
theorem mX5_saved : ga_wm yX5_saved cX5_saved 1 (some .int) 0 := ⟨ga_tb (List.mem_append_right _ (List.mem_append_right _ (List.mem_append_right _ (List.mem_append_left _ (List.mem_of_getElem? (i := 93) rfl))))) rfl, ga_tb (List.mem_append_right _ (List.mem_append_left _ (List.mem_of_getElem? (i := 1) rfl))) rfl, ⟨by decide, by decide⟩, by decide +kernel, by decide⟩
set_option maxRecDepth 20000 in
theorem vX5_saved : ga_wv yX5_saved 5 := ⟨⟨(RX5, TX5, 11), rfl, rfl⟩, ga_tb (List.mem_append_right _ (List.mem_append_right _ (List.mem_append_right _ (List.mem_append_left _ (List.mem_of_getElem? (i := 91) rfl))))) rfl, ga_tb (List.mem_append_right _ (List.mem_append_right _ (List.mem_append_right _ (List.mem_append_left _ (List.mem_of_getElem? (i := 92) rfl))))) rfl⟩
set_option maxRecDepth 20000 in
theorem mX5_told : ga_wm yX5_told cX5_told 3 (some .int) 2 := ⟨ga_tb (List.mem_append_right _ (List.mem_append_right _ (List.mem_append_left _ (List.mem_of_getElem? (i := 0) rfl)))) rfl, ga_tb (List.mem_append_right _ (List.mem_append_left _ (List.mem_of_getElem? (i := 1) rfl))) rfl, ⟨by decide, by decide⟩, by decide +kernel, by decide⟩
set_option maxRecDepth 20000 in
theorem vX5_told : ga_wv yX5_told 5 := ⟨⟨(RX5, TX5, 11), rfl, rfl⟩, ga_tb (List.mem_append_right _ (List.mem_append_left _ (List.mem_of_getElem? (i := 238) rfl))) rfl, ga_tb (List.mem_append_right _ (List.mem_append_left _ (List.mem_of_getElem? (i := 239) rfl))) rfl⟩
set_option maxRecDepth 20000 in
theorem mX5_trouble : ga_wm yX5_trouble cX5_trouble 1 (some .int) 0 := ⟨ga_tb (List.mem_append_right _ (List.mem_append_right _ (List.mem_append_right _ (List.mem_append_left _ (List.mem_of_getElem? (i := 123) rfl))))) rfl, ga_tb (List.mem_append_right _ (List.mem_append_left _ (List.mem_of_getElem? (i := 1) rfl))) rfl, ⟨by decide, by decide⟩, by decide +kernel, by decide⟩
set_option maxRecDepth 20000 in
theorem vX5_trouble : ga_wv yX5_trouble 5 := ⟨⟨(RX5, TX5, 11), rfl, rfl⟩, ga_tb (List.mem_append_right _ (List.mem_append_right _ (List.mem_append_right _ (List.mem_append_left _ (List.mem_of_getElem? (i := 121) rfl))))) rfl, ga_tb (List.mem_append_right _ (List.mem_append_right _ (List.mem_append_right _ (List.mem_append_left _ (List.mem_of_getElem? (i := 122) rfl))))) rfl⟩
set_option maxRecDepth 20000 in
theorem mX5_troubleOfDrop : ga_wm yX5_troubleOfDrop cX5_troubleOfDrop 2 (some .int) 1 := ⟨ga_tb (List.mem_append_right _ (List.mem_append_right _ (List.mem_append_left _ (List.mem_of_getElem? (i := 130) rfl)))) rfl, ga_tb (List.mem_append_right _ (List.mem_append_left _ (List.mem_of_getElem? (i := 1) rfl))) rfl, ⟨by decide, by decide⟩, by decide +kernel, by decide⟩
set_option maxRecDepth 20000 in
theorem vX5_troubleOfDrop : ga_wv yX5_troubleOfDrop 5 := ⟨⟨(RX5, TX5, 11), rfl, rfl⟩, ga_tb (List.mem_append_right _ (List.mem_append_right _ (List.mem_append_left _ (List.mem_of_getElem? (i := 129) rfl)))) rfl, ga_tb (List.mem_append_left _ (List.mem_of_getElem? (i := 7) rfl)) rfl⟩
set_option maxRecDepth 20000 in
theorem mX5_troubleOfFare : ga_wm yX5_troubleOfFare cX5_troubleOfFare 4 (some .int) 3 := ⟨ga_tb (List.mem_append_right _ (List.mem_append_left _ (List.mem_of_getElem? (i := 224) rfl))) rfl, ga_tb (List.mem_append_right _ (List.mem_append_left _ (List.mem_of_getElem? (i := 1) rfl))) rfl, ⟨by decide, by decide⟩, by decide +kernel, by decide⟩
set_option maxRecDepth 20000 in
theorem vX5_troubleOfFare : ga_wv yX5_troubleOfFare 5 := ⟨⟨(RX5, TX5, 11), rfl, rfl⟩, ga_tb (List.mem_append_right _ (List.mem_append_left _ (List.mem_of_getElem? (i := 223) rfl))) rfl, ga_tb (List.mem_append_left _ (List.mem_of_getElem? (i := 1) rfl)) rfl⟩
set_option maxRecDepth 20000 in
theorem mX5_troubleOfGreen : ga_wm yX5_troubleOfGreen cX5_troubleOfGreen 6 (some .int) 4 := ⟨ga_tb (List.mem_append_right _ (List.mem_append_left _ (List.mem_of_getElem? (i := 236) rfl))) rfl, ga_tb (List.mem_append_right _ (List.mem_append_left _ (List.mem_of_getElem? (i := 1) rfl))) rfl, ⟨by decide, by decide⟩, by decide +kernel, by decide⟩
set_option maxRecDepth 20000 in
theorem vX5_troubleOfGreen : ga_wv yX5_troubleOfGreen 5 := ⟨⟨(RX5, TX5, 11), rfl, rfl⟩, ga_tb (List.mem_append_right _ (List.mem_append_left _ (List.mem_of_getElem? (i := 235) rfl))) rfl, ga_tb (List.mem_append_left _ (List.mem_of_getElem? (i := 2) rfl)) rfl⟩
set_option maxRecDepth 20000 in
theorem mX5_troubleOfJob : ga_wm yX5_troubleOfJob cX5_troubleOfJob 7 (some .int) 6 := ⟨ga_tb (List.mem_append_right _ (List.mem_append_right _ (List.mem_append_left _ (List.mem_of_getElem? (i := 12) rfl)))) rfl, ga_tb (List.mem_append_right _ (List.mem_append_left _ (List.mem_of_getElem? (i := 1) rfl))) rfl, ⟨by decide, by decide⟩, by decide +kernel, by decide⟩
set_option maxRecDepth 20000 in
theorem vX5_troubleOfJob : ga_wv yX5_troubleOfJob 5 := ⟨⟨(RX5, TX5, 11), rfl, rfl⟩, ga_tb (List.mem_append_right _ (List.mem_append_right _ (List.mem_append_left _ (List.mem_of_getElem? (i := 11) rfl)))) rfl, ga_tb (List.mem_append_left _ (List.mem_of_getElem? (i := 3) rfl)) rfl⟩
set_option maxRecDepth 20000 in
theorem mX5_troubleOfPass : ga_wm yX5_troubleOfPass cX5_troubleOfPass 2 (some .int) 1 := ⟨ga_tb (List.mem_append_right _ (List.mem_append_right _ (List.mem_append_right _ (List.mem_append_left _ (List.mem_of_getElem? (i := 51) rfl))))) rfl, ga_tb (List.mem_append_right _ (List.mem_append_left _ (List.mem_of_getElem? (i := 1) rfl))) rfl, ⟨by decide, by decide⟩, by decide +kernel, by decide⟩
set_option maxRecDepth 20000 in
theorem vX5_troubleOfPass : ga_wv yX5_troubleOfPass 5 := ⟨⟨(RX5, TX5, 11), rfl, rfl⟩, ga_tb (List.mem_append_right _ (List.mem_append_right _ (List.mem_append_right _ (List.mem_append_left _ (List.mem_of_getElem? (i := 50) rfl))))) rfl, ga_tb (List.mem_append_left _ (List.mem_of_getElem? (i := 20) rfl)) rfl⟩
set_option maxRecDepth 20000 in
theorem mX5_troubleOfPlace : ga_wm yX5_troubleOfPlace cX5_troubleOfPlace 2 (some .int) 1 := ⟨ga_tb (List.mem_append_right _ (List.mem_append_left _ (List.mem_of_getElem? (i := 209) rfl))) rfl, ga_tb (List.mem_append_right _ (List.mem_append_left _ (List.mem_of_getElem? (i := 1) rfl))) rfl, ⟨by decide, by decide⟩, by decide +kernel, by decide⟩
set_option maxRecDepth 20000 in
theorem vX5_troubleOfPlace : ga_wv yX5_troubleOfPlace 5 := ⟨⟨(RX5, TX5, 11), rfl, rfl⟩, ga_tb (List.mem_append_right _ (List.mem_append_left _ (List.mem_of_getElem? (i := 208) rfl))) rfl, ga_tb (List.mem_append_left _ (List.mem_of_getElem? (i := 0) rfl)) rfl⟩
set_option maxRecDepth 20000 in
theorem mX5_within : ga_wm yX5_within cX5_within 3 (some .boolean) 3 := ⟨ga_tb (List.mem_append_right _ (List.mem_append_left _ (List.mem_of_getElem? (i := 212) rfl))) rfl, ga_tb (List.mem_append_right _ (List.mem_append_left _ (List.mem_of_getElem? (i := 1) rfl))) rfl, ⟨by decide, by decide⟩, by decide +kernel, by decide⟩
set_option maxRecDepth 20000 in
theorem sX5_within : Cond.static yX5_within ∈ gaTb := ga_tb (List.mem_append_right _ (List.mem_append_left _ (List.mem_of_getElem? (i := 211) rfl))) rfl
set_option maxRecDepth 20000 in
theorem mX5_worst : ga_wm yX5_worst cX5_worst 5 (some .int) 0 := ⟨ga_tb (List.mem_append_right _ (List.mem_append_right _ (List.mem_append_right _ (List.mem_append_left _ (List.mem_of_getElem? (i := 111) rfl))))) rfl, ga_tb (List.mem_append_right _ (List.mem_append_left _ (List.mem_of_getElem? (i := 1) rfl))) rfl, ⟨by decide, by decide⟩, by decide +kernel, by decide⟩
set_option maxRecDepth 20000 in
theorem vX5_worst : ga_wv yX5_worst 5 := ⟨⟨(RX5, TX5, 11), rfl, rfl⟩, ga_tb (List.mem_append_right _ (List.mem_append_right _ (List.mem_append_right _ (List.mem_append_left _ (List.mem_of_getElem? (i := 109) rfl))))) rfl, ga_tb (List.mem_append_right _ (List.mem_append_right _ (List.mem_append_right _ (List.mem_append_left _ (List.mem_of_getElem? (i := 110) rfl))))) rfl⟩
set_option maxRecDepth 20000 in
theorem mX5_would : ga_wm yX5_would cX5_would 5 (some .int) 3 := ⟨ga_tb (List.mem_append_right _ (List.mem_append_right _ (List.mem_append_right _ (List.mem_append_left _ (List.mem_of_getElem? (i := 115) rfl))))) rfl, ga_tb (List.mem_append_right _ (List.mem_append_left _ (List.mem_of_getElem? (i := 1) rfl))) rfl, ⟨by decide, by decide⟩, by decide +kernel, by decide⟩
set_option maxRecDepth 20000 in
theorem vX5_would : ga_wv yX5_would 5 := ⟨⟨(RX5, TX5, 11), rfl, rfl⟩, ga_tb (List.mem_append_right _ (List.mem_append_right _ (List.mem_append_right _ (List.mem_append_left _ (List.mem_of_getElem? (i := 113) rfl))))) rfl, ga_tb (List.mem_append_right _ (List.mem_append_right _ (List.mem_append_right _ (List.mem_append_left _ (List.mem_of_getElem? (i := 114) rfl))))) rfl⟩
set_option maxRecDepth 20000 in
theorem mX6_about : ga_wm yX6_about cX6_about 3 (some .int) 2 := ⟨ga_tb (List.mem_append_right _ (List.mem_append_right _ (List.mem_append_right _ (List.mem_append_right _ (List.mem_of_getElem? (i := 55) rfl))))) rfl, ga_tb (List.mem_append_right _ (List.mem_append_left _ (List.mem_of_getElem? (i := 9) rfl))) rfl, ⟨by decide, by decide⟩, by decide +kernel, by decide⟩
set_option maxRecDepth 20000 in
theorem vX6_about : ga_wv yX6_about 6 := ⟨⟨(RX6, TX6, 35), rfl, rfl⟩, ga_tb (List.mem_append_right _ (List.mem_append_right _ (List.mem_append_right _ (List.mem_append_right _ (List.mem_of_getElem? (i := 53) rfl))))) rfl, ga_tb (List.mem_append_right _ (List.mem_append_right _ (List.mem_append_right _ (List.mem_append_right _ (List.mem_of_getElem? (i := 54) rfl))))) rfl⟩
set_option maxRecDepth 20000 in
theorem mX6_anHour : ga_wm yX6_anHour cX6_anHour 3 (some .int) 0 := ⟨ga_tb (List.mem_append_right _ (List.mem_append_right _ (List.mem_append_right _ (List.mem_append_right _ (List.mem_of_getElem? (i := 124) rfl))))) rfl, ga_tb (List.mem_append_right _ (List.mem_append_left _ (List.mem_of_getElem? (i := 9) rfl))) rfl, ⟨by decide, by decide⟩, by decide +kernel, by decide⟩
set_option maxRecDepth 20000 in
theorem vX6_anHour : ga_wv yX6_anHour 6 := ⟨⟨(RX6, TX6, 35), rfl, rfl⟩, ga_tb (List.mem_append_right _ (List.mem_append_right _ (List.mem_append_right _ (List.mem_append_right _ (List.mem_of_getElem? (i := 123) rfl))))) rfl, ga_tb (List.mem_append_left _ (List.mem_of_getElem? (i := 43) rfl)) rfl⟩
set_option maxRecDepth 20000 in
theorem mX6_atOnce : ga_wm yX6_atOnce cX6_atOnce 1 (some .int) 0 := ⟨ga_tb (List.mem_append_right _ (List.mem_append_right _ (List.mem_append_right _ (List.mem_append_right _ (List.mem_of_getElem? (i := 140) rfl))))) rfl, ga_tb (List.mem_append_right _ (List.mem_append_left _ (List.mem_of_getElem? (i := 9) rfl))) rfl, ⟨by decide, by decide⟩, by decide +kernel, by decide⟩
set_option maxRecDepth 20000 in
theorem vX6_atOnce : ga_wv yX6_atOnce 6 := ⟨⟨(RX6, TX6, 35), rfl, rfl⟩, ga_tb (List.mem_append_right _ (List.mem_append_right _ (List.mem_append_right _ (List.mem_append_right _ (List.mem_of_getElem? (i := 138) rfl))))) rfl, ga_tb (List.mem_append_right _ (List.mem_append_right _ (List.mem_append_right _ (List.mem_append_right _ (List.mem_of_getElem? (i := 139) rfl))))) rfl⟩
set_option maxRecDepth 20000 in
theorem mX6_behind : ga_wm yX6_behind cX6_behind 2 (some .int) 1 := ⟨ga_tb (List.mem_append_right _ (List.mem_append_right _ (List.mem_append_right _ (List.mem_append_right _ (List.mem_of_getElem? (i := 132) rfl))))) rfl, ga_tb (List.mem_append_right _ (List.mem_append_left _ (List.mem_of_getElem? (i := 9) rfl))) rfl, ⟨by decide, by decide⟩, by decide +kernel, by decide⟩
set_option maxRecDepth 20000 in
theorem vX6_behind : ga_wv yX6_behind 6 := ⟨⟨(RX6, TX6, 35), rfl, rfl⟩, ga_tb (List.mem_append_right _ (List.mem_append_right _ (List.mem_append_right _ (List.mem_append_right _ (List.mem_of_getElem? (i := 130) rfl))))) rfl, ga_tb (List.mem_append_right _ (List.mem_append_right _ (List.mem_append_right _ (List.mem_append_right _ (List.mem_of_getElem? (i := 131) rfl))))) rfl⟩
set_option maxRecDepth 20000 in
theorem mX6_best : ga_wm yX6_best cX6_best 3 (some .int) 0 := ⟨ga_tb (List.mem_append_right _ (List.mem_append_right _ (List.mem_append_right _ (List.mem_append_right _ (List.mem_of_getElem? (i := 104) rfl))))) rfl, ga_tb (List.mem_append_right _ (List.mem_append_left _ (List.mem_of_getElem? (i := 9) rfl))) rfl, ⟨by decide, by decide⟩, by decide +kernel, by decide⟩
set_option maxRecDepth 20000 in
theorem vX6_best : ga_wv yX6_best 6 := ⟨⟨(RX6, TX6, 35), rfl, rfl⟩, ga_tb (List.mem_append_right _ (List.mem_append_right _ (List.mem_append_right _ (List.mem_append_right _ (List.mem_of_getElem? (i := 102) rfl))))) rfl, ga_tb (List.mem_append_right _ (List.mem_append_right _ (List.mem_append_right _ (List.mem_append_right _ (List.mem_of_getElem? (i := 103) rfl))))) rfl⟩
set_option maxRecDepth 20000 in
theorem mX6_cost : ga_wm yX6_cost cX6_cost 3 (some .int) 0 := ⟨ga_tb (List.mem_append_right _ (List.mem_append_right _ (List.mem_append_right _ (List.mem_append_right _ (List.mem_of_getElem? (i := 100) rfl))))) rfl, ga_tb (List.mem_append_right _ (List.mem_append_left _ (List.mem_of_getElem? (i := 9) rfl))) rfl, ⟨by decide, by decide⟩, by decide +kernel, by decide⟩
set_option maxRecDepth 20000 in
theorem vX6_cost : ga_wv yX6_cost 6 := ⟨⟨(RX6, TX6, 35), rfl, rfl⟩, ga_tb (List.mem_append_right _ (List.mem_append_right _ (List.mem_append_right _ (List.mem_append_right _ (List.mem_of_getElem? (i := 98) rfl))))) rfl, ga_tb (List.mem_append_right _ (List.mem_append_right _ (List.mem_append_right _ (List.mem_append_right _ (List.mem_of_getElem? (i := 99) rfl))))) rfl⟩
set_option maxRecDepth 20000 in
theorem mX6_costOf : ga_wm yX6_costOf cX6_costOf 6 (some .int) 3 := ⟨ga_tb (List.mem_append_right _ (List.mem_append_right _ (List.mem_append_right _ (List.mem_append_right _ (List.mem_of_getElem? (i := 92) rfl))))) rfl, ga_tb (List.mem_append_right _ (List.mem_append_left _ (List.mem_of_getElem? (i := 9) rfl))) rfl, ⟨by decide, by decide⟩, by decide +kernel, by decide⟩
set_option maxRecDepth 20000 in
theorem vX6_costOf : ga_wv yX6_costOf 6 := ⟨⟨(RX6, TX6, 35), rfl, rfl⟩, ga_tb (List.mem_append_right _ (List.mem_append_right _ (List.mem_append_right _ (List.mem_append_right _ (List.mem_of_getElem? (i := 91) rfl))))) rfl, ga_tb (List.mem_append_left _ (List.mem_of_getElem? (i := 40) rfl)) rfl⟩
set_option maxRecDepth 20000 in
theorem mX6_count : ga_wm yX6_count cX6_count 2 (some .int) 1 := ⟨ga_tb (List.mem_append_right _ (List.mem_append_right _ (List.mem_append_right _ (List.mem_append_right _ (List.mem_of_getElem? (i := 170) rfl))))) rfl, ga_tb (List.mem_append_right _ (List.mem_append_left _ (List.mem_of_getElem? (i := 9) rfl))) rfl, ⟨by decide, by decide⟩, by decide +kernel, by decide⟩
set_option maxRecDepth 20000 in
theorem vX6_count : ga_wv yX6_count 6 := ⟨⟨(RX6, TX6, 35), rfl, rfl⟩, ga_tb (List.mem_append_right _ (List.mem_append_right _ (List.mem_append_right _ (List.mem_append_right _ (List.mem_of_getElem? (i := 168) rfl))))) rfl, ga_tb (List.mem_append_right _ (List.mem_append_right _ (List.mem_append_right _ (List.mem_append_right _ (List.mem_of_getElem? (i := 169) rfl))))) rfl⟩
set_option maxRecDepth 20000 in
theorem mX6_delay : ga_wm yX6_delay cX6_delay 2 (some .int) 1 := ⟨ga_tb (List.mem_append_right _ (List.mem_append_right _ (List.mem_append_right _ (List.mem_append_right _ (List.mem_of_getElem? (i := 128) rfl))))) rfl, ga_tb (List.mem_append_right _ (List.mem_append_left _ (List.mem_of_getElem? (i := 9) rfl))) rfl, ⟨by decide, by decide⟩, by decide +kernel, by decide⟩
set_option maxRecDepth 20000 in
theorem vX6_delay : ga_wv yX6_delay 6 := ⟨⟨(RX6, TX6, 35), rfl, rfl⟩, ga_tb (List.mem_append_right _ (List.mem_append_right _ (List.mem_append_right _ (List.mem_append_right _ (List.mem_of_getElem? (i := 126) rfl))))) rfl, ga_tb (List.mem_append_right _ (List.mem_append_right _ (List.mem_append_right _ (List.mem_append_right _ (List.mem_of_getElem? (i := 127) rfl))))) rfl⟩
set_option maxRecDepth 20000 in
theorem mX6_delayOf : ga_wm yX6_delayOf cX6_delayOf 4 (some .int) 1 := ⟨ga_tb (List.mem_append_right _ (List.mem_append_right _ (List.mem_append_right _ (List.mem_append_right _ (List.mem_of_getElem? (i := 67) rfl))))) rfl, ga_tb (List.mem_append_right _ (List.mem_append_left _ (List.mem_of_getElem? (i := 9) rfl))) rfl, ⟨by decide, by decide⟩, by decide +kernel, by decide⟩
set_option maxRecDepth 20000 in
theorem vX6_delayOf : ga_wv yX6_delayOf 6 := ⟨⟨(RX6, TX6, 35), rfl, rfl⟩, ga_tb (List.mem_append_right _ (List.mem_append_right _ (List.mem_append_right _ (List.mem_append_right _ (List.mem_of_getElem? (i := 66) rfl))))) rfl, ga_tb (List.mem_append_left _ (List.mem_of_getElem? (i := 34) rfl)) rfl⟩
set_option maxRecDepth 20000 in
theorem mX6_denied : ga_wm yX6_denied cX6_denied 2 (some .boolean) 1 := ⟨ga_tb (List.mem_append_right _ (List.mem_append_right _ (List.mem_append_right _ (List.mem_append_right _ (List.mem_of_getElem? (i := 23) rfl))))) rfl, ga_tb (List.mem_append_right _ (List.mem_append_left _ (List.mem_of_getElem? (i := 9) rfl))) rfl, ⟨by decide, by decide⟩, by decide +kernel, by decide⟩
set_option maxRecDepth 20000 in
theorem vX6_denied : ga_wv yX6_denied 6 := ⟨⟨(RX6, TX6, 35), rfl, rfl⟩, ga_tb (List.mem_append_right _ (List.mem_append_right _ (List.mem_append_right _ (List.mem_append_right _ (List.mem_of_getElem? (i := 22) rfl))))) rfl, ga_tb (List.mem_append_left _ (List.mem_of_getElem? (i := 30) rfl)) rfl⟩
set_option maxRecDepth 20000 in
theorem mX6_done : ga_wm yX6_done cX6_done 2 (some .int) 1 := ⟨ga_tb (List.mem_append_right _ (List.mem_append_right _ (List.mem_append_right _ (List.mem_append_right _ (List.mem_of_getElem? (i := 11) rfl))))) rfl, ga_tb (List.mem_append_right _ (List.mem_append_left _ (List.mem_of_getElem? (i := 9) rfl))) rfl, ⟨by decide, by decide⟩, by decide +kernel, by decide⟩
set_option maxRecDepth 20000 in
theorem vX6_done : ga_wv yX6_done 6 := ⟨⟨(RX6, TX6, 35), rfl, rfl⟩, ga_tb (List.mem_append_right _ (List.mem_append_right _ (List.mem_append_right _ (List.mem_append_right _ (List.mem_of_getElem? (i := 10) rfl))))) rfl, ga_tb (List.mem_append_left _ (List.mem_of_getElem? (i := 28) rfl)) rfl⟩
set_option maxRecDepth 20000 in
theorem mX6_drop : ga_wm yX6_drop cX6_drop 2 (some .boolean) 1 := ⟨ga_tb (List.mem_append_right _ (List.mem_append_right _ (List.mem_append_right _ (List.mem_append_right _ (List.mem_of_getElem? (i := 47) rfl))))) rfl, ga_tb (List.mem_append_right _ (List.mem_append_left _ (List.mem_of_getElem? (i := 9) rfl))) rfl, ⟨by decide, by decide⟩, by decide +kernel, by decide⟩
set_option maxRecDepth 20000 in
theorem vX6_drop : ga_wv yX6_drop 6 := ⟨⟨(RX6, TX6, 35), rfl, rfl⟩, ga_tb (List.mem_append_right _ (List.mem_append_right _ (List.mem_append_right _ (List.mem_append_right _ (List.mem_of_getElem? (i := 45) rfl))))) rfl, ga_tb (List.mem_append_right _ (List.mem_append_right _ (List.mem_append_right _ (List.mem_append_right _ (List.mem_of_getElem? (i := 46) rfl))))) rfl⟩
set_option maxRecDepth 20000 in
theorem mX6_fare : ga_wm yX6_fare cX6_fare 4 (some .boolean) 3 := ⟨ga_tb (List.mem_append_right _ (List.mem_append_right _ (List.mem_append_right _ (List.mem_append_right _ (List.mem_of_getElem? (i := 15) rfl))))) rfl, ga_tb (List.mem_append_right _ (List.mem_append_left _ (List.mem_of_getElem? (i := 9) rfl))) rfl, ⟨by decide, by decide⟩, by decide +kernel, by decide⟩
set_option maxRecDepth 20000 in
theorem vX6_fare : ga_wv yX6_fare 6 := ⟨⟨(RX6, TX6, 35), rfl, rfl⟩, ga_tb (List.mem_append_right _ (List.mem_append_right _ (List.mem_append_right _ (List.mem_append_right _ (List.mem_of_getElem? (i := 13) rfl))))) rfl, ga_tb (List.mem_append_right _ (List.mem_append_right _ (List.mem_append_right _ (List.mem_append_right _ (List.mem_of_getElem? (i := 14) rfl))))) rfl⟩
set_option maxRecDepth 20000 in
theorem mX6_free : ga_wm yX6_free cX6_free 3 (some .int) 2 := ⟨ga_tb (List.mem_append_right _ (List.mem_append_right _ (List.mem_append_right _ (List.mem_append_right _ (List.mem_of_getElem? (i := 116) rfl))))) rfl, ga_tb (List.mem_append_right _ (List.mem_append_left _ (List.mem_of_getElem? (i := 9) rfl))) rfl, ⟨by decide, by decide⟩, by decide +kernel, by decide⟩
set_option maxRecDepth 20000 in
theorem vX6_free : ga_wv yX6_free 6 := ⟨⟨(RX6, TX6, 35), rfl, rfl⟩, ga_tb (List.mem_append_right _ (List.mem_append_right _ (List.mem_append_right _ (List.mem_append_right _ (List.mem_of_getElem? (i := 114) rfl))))) rfl, ga_tb (List.mem_append_right _ (List.mem_append_right _ (List.mem_append_right _ (List.mem_append_right _ (List.mem_of_getElem? (i := 115) rfl))))) rfl⟩
set_option maxRecDepth 20000 in
theorem mX6_granted : ga_wm yX6_granted cX6_granted 1 (some .boolean) 0 := ⟨ga_tb (List.mem_append_right _ (List.mem_append_right _ (List.mem_append_right _ (List.mem_append_right _ (List.mem_of_getElem? (i := 27) rfl))))) rfl, ga_tb (List.mem_append_right _ (List.mem_append_left _ (List.mem_of_getElem? (i := 9) rfl))) rfl, ⟨by decide, by decide⟩, by decide +kernel, by decide⟩
set_option maxRecDepth 20000 in
theorem vX6_granted : ga_wv yX6_granted 6 := ⟨⟨(RX6, TX6, 35), rfl, rfl⟩, ga_tb (List.mem_append_right _ (List.mem_append_right _ (List.mem_append_right _ (List.mem_append_right _ (List.mem_of_getElem? (i := 26) rfl))))) rfl, ga_tb (List.mem_append_left _ (List.mem_of_getElem? (i := 31) rfl)) rfl⟩
set_option maxRecDepth 20000 in
theorem mX6_green : ga_wm yX6_green cX6_green 6 (some .boolean) 4 := ⟨ga_tb (List.mem_append_right _ (List.mem_append_right _ (List.mem_append_right _ (List.mem_append_right _ (List.mem_of_getElem? (i := 31) rfl))))) rfl, ga_tb (List.mem_append_right _ (List.mem_append_left _ (List.mem_of_getElem? (i := 9) rfl))) rfl, ⟨by decide, by decide⟩, by decide +kernel, by decide⟩
set_option maxRecDepth 20000 in
theorem vX6_green : ga_wv yX6_green 6 := ⟨⟨(RX6, TX6, 35), rfl, rfl⟩, ga_tb (List.mem_append_right _ (List.mem_append_right _ (List.mem_append_right _ (List.mem_append_right _ (List.mem_of_getElem? (i := 29) rfl))))) rfl, ga_tb (List.mem_append_right _ (List.mem_append_right _ (List.mem_append_right _ (List.mem_append_right _ (List.mem_of_getElem? (i := 30) rfl))))) rfl⟩
set_option maxRecDepth 20000 in
theorem mX6_hasRoom : ga_wm yX6_hasRoom cX6_hasRoom 6 (some .boolean) 3 := ⟨ga_tb (List.mem_append_right _ (List.mem_append_right _ (List.mem_append_right _ (List.mem_append_right _ (List.mem_of_getElem? (i := 88) rfl))))) rfl, ga_tb (List.mem_append_right _ (List.mem_append_left _ (List.mem_of_getElem? (i := 9) rfl))) rfl, ⟨by decide, by decide⟩, by decide +kernel, by decide⟩
set_option maxRecDepth 20000 in
theorem vX6_hasRoom : ga_wv yX6_hasRoom 6 := ⟨⟨(RX6, TX6, 35), rfl, rfl⟩, ga_tb (List.mem_append_right _ (List.mem_append_right _ (List.mem_append_right _ (List.mem_append_right _ (List.mem_of_getElem? (i := 87) rfl))))) rfl, ga_tb (List.mem_append_left _ (List.mem_of_getElem? (i := 39) rfl)) rfl⟩
set_option maxRecDepth 20000 in
theorem mX6_homeCost : ga_wm yX6_homeCost cX6_homeCost 3 (some .int) 0 := ⟨ga_tb (List.mem_append_right _ (List.mem_append_right _ (List.mem_append_right _ (List.mem_append_right _ (List.mem_of_getElem? (i := 144) rfl))))) rfl, ga_tb (List.mem_append_right _ (List.mem_append_left _ (List.mem_of_getElem? (i := 9) rfl))) rfl, ⟨by decide, by decide⟩, by decide +kernel, by decide⟩
set_option maxRecDepth 20000 in
theorem vX6_homeCost : ga_wv yX6_homeCost 6 := ⟨⟨(RX6, TX6, 35), rfl, rfl⟩, ga_tb (List.mem_append_right _ (List.mem_append_right _ (List.mem_append_right _ (List.mem_append_right _ (List.mem_of_getElem? (i := 143) rfl))))) rfl, ga_tb (List.mem_append_left _ (List.mem_of_getElem? (i := 44) rfl)) rfl⟩
set_option maxRecDepth 20000 in
theorem mX6_in : ga_wm yX6_in cX6_in 3 (some .boolean) 3 := ⟨ga_tb (List.mem_append_right _ (List.mem_append_right _ (List.mem_append_right _ (List.mem_append_right _ (List.mem_of_getElem? (i := 3) rfl))))) rfl, ga_tb (List.mem_append_right _ (List.mem_append_left _ (List.mem_of_getElem? (i := 9) rfl))) rfl, ⟨by decide, by decide⟩, by decide +kernel, by decide⟩
set_option maxRecDepth 20000 in
theorem sX6_in : Cond.static yX6_in ∈ gaTb := ga_tb (List.mem_append_right _ (List.mem_append_right _ (List.mem_append_right _ (List.mem_append_right _ (List.mem_of_getElem? (i := 2) rfl))))) rfl
set_option maxRecDepth 20000 in
theorem mX6_isAhead : ga_wm yX6_isAhead cX6_isAhead 5 (some .boolean) 2 := ⟨ga_tb (List.mem_append_right _ (List.mem_append_right _ (List.mem_append_right _ (List.mem_append_right _ (List.mem_of_getElem? (i := 79) rfl))))) rfl, ga_tb (List.mem_append_right _ (List.mem_append_left _ (List.mem_of_getElem? (i := 9) rfl))) rfl, ⟨by decide, by decide⟩, by decide +kernel, by decide⟩
set_option maxRecDepth 20000 in
theorem vX6_isAhead : ga_wv yX6_isAhead 6 := ⟨⟨(RX6, TX6, 35), rfl, rfl⟩, ga_tb (List.mem_append_right _ (List.mem_append_right _ (List.mem_append_right _ (List.mem_append_right _ (List.mem_of_getElem? (i := 78) rfl))))) rfl, ga_tb (List.mem_append_left _ (List.mem_of_getElem? (i := 37) rfl)) rfl⟩
set_option maxRecDepth 20000 in
theorem mX6_isJob : ga_wm yX6_isJob cX6_isJob 2 (some .boolean) 1 := ⟨ga_tb (List.mem_append_right _ (List.mem_append_right _ (List.mem_append_right _ (List.mem_append_right _ (List.mem_of_getElem? (i := 51) rfl))))) rfl, ga_tb (List.mem_append_right _ (List.mem_append_left _ (List.mem_of_getElem? (i := 9) rfl))) rfl, ⟨by decide, by decide⟩, by decide +kernel, by decide⟩
set_option maxRecDepth 20000 in
theorem vX6_isJob : ga_wv yX6_isJob 6 := ⟨⟨(RX6, TX6, 35), rfl, rfl⟩, ga_tb (List.mem_append_right _ (List.mem_append_right _ (List.mem_append_right _ (List.mem_append_right _ (List.mem_of_getElem? (i := 50) rfl))))) rfl, ga_tb (List.mem_append_left _ (List.mem_of_getElem? (i := 32) rfl)) rfl⟩
set_option maxRecDepth 20000 in
theorem mX6_isPlace : ga_wm yX6_isPlace cX6_isPlace 2 (some .boolean) 1 := ⟨ga_tb (List.mem_append_right _ (List.mem_append_right _ (List.mem_append_right _ (List.mem_append_right _ (List.mem_of_getElem? (i := 19) rfl))))) rfl, ga_tb (List.mem_append_right _ (List.mem_append_left _ (List.mem_of_getElem? (i := 9) rfl))) rfl, ⟨by decide, by decide⟩, by decide +kernel, by decide⟩
set_option maxRecDepth 20000 in
theorem vX6_isPlace : ga_wv yX6_isPlace 6 := ⟨⟨(RX6, TX6, 35), rfl, rfl⟩, ga_tb (List.mem_append_right _ (List.mem_append_right _ (List.mem_append_right _ (List.mem_append_right _ (List.mem_of_getElem? (i := 18) rfl))))) rfl, ga_tb (List.mem_append_left _ (List.mem_of_getElem? (i := 29) rfl)) rfl⟩
set_option maxRecDepth 20000 in
theorem mX6_job : ga_wm yX6_job cX6_job 7 (some .int) 6 := ⟨ga_tb (List.mem_append_right _ (List.mem_append_right _ (List.mem_append_right _ (List.mem_append_right _ (List.mem_of_getElem? (i := 43) rfl))))) rfl, ga_tb (List.mem_append_right _ (List.mem_append_left _ (List.mem_of_getElem? (i := 9) rfl))) rfl, ⟨by decide, by decide⟩, by decide +kernel, by decide⟩
set_option maxRecDepth 20000 in
theorem vX6_job : ga_wv yX6_job 6 := ⟨⟨(RX6, TX6, 35), rfl, rfl⟩, ga_tb (List.mem_append_right _ (List.mem_append_right _ (List.mem_append_right _ (List.mem_append_right _ (List.mem_of_getElem? (i := 41) rfl))))) rfl, ga_tb (List.mem_append_right _ (List.mem_append_right _ (List.mem_append_right _ (List.mem_append_right _ (List.mem_of_getElem? (i := 42) rfl))))) rfl⟩
set_option maxRecDepth 20000 in
theorem mX6_laid : ga_wm yX6_laid cX6_laid 3 (some .int) 2 := ⟨ga_tb (List.mem_append_right _ (List.mem_append_right _ (List.mem_append_right _ (List.mem_append_right _ (List.mem_of_getElem? (i := 96) rfl))))) rfl, ga_tb (List.mem_append_right _ (List.mem_append_left _ (List.mem_of_getElem? (i := 9) rfl))) rfl, ⟨by decide, by decide⟩, by decide +kernel, by decide⟩
set_option maxRecDepth 20000 in
theorem vX6_laid : ga_wv yX6_laid 6 := ⟨⟨(RX6, TX6, 35), rfl, rfl⟩, ga_tb (List.mem_append_right _ (List.mem_append_right _ (List.mem_append_right _ (List.mem_append_right _ (List.mem_of_getElem? (i := 94) rfl))))) rfl, ga_tb (List.mem_append_right _ (List.mem_append_right _ (List.mem_append_right _ (List.mem_append_right _ (List.mem_of_getElem? (i := 95) rfl))))) rfl⟩
set_option maxRecDepth 20000 in
theorem mX6_lay : ga_wm yX6_lay cX6_lay 3 (some .int) 0 := ⟨ga_tb (List.mem_append_right _ (List.mem_append_right _ (List.mem_append_right _ (List.mem_append_right _ (List.mem_of_getElem? (i := 59) rfl))))) rfl, ga_tb (List.mem_append_right _ (List.mem_append_left _ (List.mem_of_getElem? (i := 9) rfl))) rfl, ⟨by decide, by decide⟩, by decide +kernel, by decide⟩
set_option maxRecDepth 20000 in
theorem vX6_lay : ga_wv yX6_lay 6 := ⟨⟨(RX6, TX6, 35), rfl, rfl⟩, ga_tb (List.mem_append_right _ (List.mem_append_right _ (List.mem_append_right _ (List.mem_append_right _ (List.mem_of_getElem? (i := 57) rfl))))) rfl, ga_tb (List.mem_append_right _ (List.mem_append_right _ (List.mem_append_right _ (List.mem_append_right _ (List.mem_of_getElem? (i := 58) rfl))))) rfl⟩
set_option maxRecDepth 20000 in
theorem mX6_layOne : ga_wm yX6_layOne cX6_layOne 6 none 1 := ⟨ga_tb (List.mem_append_right _ (List.mem_append_right _ (List.mem_append_right _ (List.mem_append_right _ (List.mem_of_getElem? (i := 83) rfl))))) rfl, ga_tb (List.mem_append_right _ (List.mem_append_left _ (List.mem_of_getElem? (i := 9) rfl))) rfl, ⟨by decide, by decide⟩, by decide +kernel, by decide⟩
set_option maxRecDepth 20000 in
theorem vX6_layOne : ga_wv yX6_layOne 6 := ⟨⟨(RX6, TX6, 35), rfl, rfl⟩, ga_tb (List.mem_append_right _ (List.mem_append_right _ (List.mem_append_right _ (List.mem_append_right _ (List.mem_of_getElem? (i := 82) rfl))))) rfl, ga_tb (List.mem_append_left _ (List.mem_of_getElem? (i := 38) rfl)) rfl⟩
set_option maxRecDepth 20000 in
theorem mX6_lays : ga_wm yX6_lays cX6_lays 3 none 0 := ⟨ga_tb (List.mem_append_right _ (List.mem_append_right _ (List.mem_append_right _ (List.mem_append_right _ (List.mem_of_getElem? (i := 63) rfl))))) rfl, ga_tb (List.mem_append_right _ (List.mem_append_left _ (List.mem_of_getElem? (i := 9) rfl))) rfl, ⟨by decide, by decide⟩, by decide +kernel, by decide⟩
set_option maxRecDepth 20000 in
theorem vX6_lays : ga_wv yX6_lays 6 := ⟨⟨(RX6, TX6, 35), rfl, rfl⟩, ga_tb (List.mem_append_right _ (List.mem_append_right _ (List.mem_append_right _ (List.mem_append_right _ (List.mem_of_getElem? (i := 62) rfl))))) rfl, ga_tb (List.mem_append_left _ (List.mem_of_getElem? (i := 33) rfl)) rfl⟩
set_option maxRecDepth 20000 in
theorem mX6_lists : ga_wm yX6_lists cX6_lists 8 none 2 := ⟨ga_tb (List.mem_append_right _ (List.mem_append_right _ (List.mem_append_right _ (List.mem_append_right _ (List.mem_of_getElem? (i := 108) rfl))))) rfl, ga_tb (List.mem_append_right _ (List.mem_append_left _ (List.mem_of_getElem? (i := 9) rfl))) rfl, ⟨by decide, by decide⟩, by decide +kernel, by decide⟩
set_option maxRecDepth 20000 in
theorem vX6_lists : ga_wv yX6_lists 6 := ⟨⟨(RX6, TX6, 35), rfl, rfl⟩, ga_tb (List.mem_append_right _ (List.mem_append_right _ (List.mem_append_right _ (List.mem_append_right _ (List.mem_of_getElem? (i := 107) rfl))))) rfl, ga_tb (List.mem_append_left _ (List.mem_of_getElem? (i := 41) rfl)) rfl⟩
set_option maxRecDepth 20000 in
theorem mX6_many : ga_wm yX6_many cX6_many 4 (some .int) 1 := ⟨ga_tb (List.mem_append_right _ (List.mem_append_right _ (List.mem_append_right _ (List.mem_append_right _ (List.mem_of_getElem? (i := 174) rfl))))) rfl, ga_tb (List.mem_append_right _ (List.mem_append_left _ (List.mem_of_getElem? (i := 9) rfl))) rfl, ⟨by decide, by decide⟩, by decide +kernel, by decide⟩
set_option maxRecDepth 20000 in
theorem vX6_many : ga_wv yX6_many 6 := ⟨⟨(RX6, TX6, 35), rfl, rfl⟩, ga_tb (List.mem_append_right _ (List.mem_append_right _ (List.mem_append_right _ (List.mem_append_right _ (List.mem_of_getElem? (i := 173) rfl))))) rfl, ga_tb (List.mem_append_left _ (List.mem_of_getElem? (i := 46) rfl)) rfl⟩
set_option maxRecDepth 20000 in
theorem mX6_paid : ga_wm yX6_paid cX6_paid 3 (some .int) 0 := ⟨ga_tb (List.mem_append_right _ (List.mem_append_right _ (List.mem_append_right _ (List.mem_append_right _ (List.mem_of_getElem? (i := 136) rfl))))) rfl, ga_tb (List.mem_append_right _ (List.mem_append_left _ (List.mem_of_getElem? (i := 9) rfl))) rfl, ⟨by decide, by decide⟩, by decide +kernel, by decide⟩
set_option maxRecDepth 20000 in
theorem vX6_paid : ga_wv yX6_paid 6 := ⟨⟨(RX6, TX6, 35), rfl, rfl⟩, ga_tb (List.mem_append_right _ (List.mem_append_right _ (List.mem_append_right _ (List.mem_append_right _ (List.mem_of_getElem? (i := 134) rfl))))) rfl, ga_tb (List.mem_append_right _ (List.mem_append_right _ (List.mem_append_right _ (List.mem_append_right _ (List.mem_of_getElem? (i := 135) rfl))))) rfl⟩
set_option maxRecDepth 20000 in
theorem mX6_pass : ga_wm yX6_pass cX6_pass 4 (some .int) 1 := ⟨ga_tb (List.mem_append_right _ (List.mem_append_right _ (List.mem_append_right _ (List.mem_append_right _ (List.mem_of_getElem? (i := 120) rfl))))) rfl, ga_tb (List.mem_append_right _ (List.mem_append_left _ (List.mem_of_getElem? (i := 9) rfl))) rfl, ⟨by decide, by decide⟩, by decide +kernel, by decide⟩
set_option maxRecDepth 20000 in
theorem vX6_pass : ga_wv yX6_pass 6 := ⟨⟨(RX6, TX6, 35), rfl, rfl⟩, ga_tb (List.mem_append_right _ (List.mem_append_right _ (List.mem_append_right _ (List.mem_append_right _ (List.mem_of_getElem? (i := 118) rfl))))) rfl, ga_tb (List.mem_append_right _ (List.mem_append_right _ (List.mem_append_right _ (List.mem_append_right _ (List.mem_of_getElem? (i := 119) rfl))))) rfl⟩
set_option maxRecDepth 20000 in
theorem mX6_patience : ga_wm yX6_patience cX6_patience 2 (some .boolean) 1 := ⟨ga_tb (List.mem_append_right _ (List.mem_append_right _ (List.mem_append_right _ (List.mem_append_right _ (List.mem_of_getElem? (i := 39) rfl))))) rfl, ga_tb (List.mem_append_right _ (List.mem_append_left _ (List.mem_of_getElem? (i := 9) rfl))) rfl, ⟨by decide, by decide⟩, by decide +kernel, by decide⟩
set_option maxRecDepth 20000 in
theorem vX6_patience : ga_wv yX6_patience 6 := ⟨⟨(RX6, TX6, 35), rfl, rfl⟩, ga_tb (List.mem_append_right _ (List.mem_append_right _ (List.mem_append_right _ (List.mem_append_right _ (List.mem_of_getElem? (i := 37) rfl))))) rfl, ga_tb (List.mem_append_right _ (List.mem_append_right _ (List.mem_append_right _ (List.mem_append_right _ (List.mem_of_getElem? (i := 38) rfl))))) rfl⟩
set_option maxRecDepth 20000 in
theorem mX6_place : ga_wm yX6_place cX6_place 2 (some .int) 1 := ⟨ga_tb (List.mem_append_right _ (List.mem_append_right _ (List.mem_append_right _ (List.mem_append_right _ (List.mem_of_getElem? (i := 0) rfl))))) rfl, ga_tb (List.mem_append_right _ (List.mem_append_left _ (List.mem_of_getElem? (i := 9) rfl))) rfl, ⟨by decide, by decide⟩, by decide +kernel, by decide⟩
set_option maxRecDepth 20000 in
theorem vX6_place : ga_wv yX6_place 6 := ⟨⟨(RX6, TX6, 35), rfl, rfl⟩, ga_tb (List.mem_append_right _ (List.mem_append_right _ (List.mem_append_right _ (List.mem_append_left _ (List.mem_of_getElem? (i := 238) rfl))))) rfl, ga_tb (List.mem_append_right _ (List.mem_append_right _ (List.mem_append_right _ (List.mem_append_left _ (List.mem_of_getElem? (i := 239) rfl))))) rfl⟩
set_option maxRecDepth 20000 in
theorem mX6_puts : ga_wm yX6_puts cX6_puts 6 none 4 := ⟨ga_tb (List.mem_append_right _ (List.mem_append_right _ (List.mem_append_right _ (List.mem_append_right _ (List.mem_of_getElem? (i := 75) rfl))))) rfl, ga_tb (List.mem_append_right _ (List.mem_append_left _ (List.mem_of_getElem? (i := 9) rfl))) rfl, ⟨by decide, by decide⟩, by decide +kernel, by decide⟩
set_option maxRecDepth 20000 in
theorem vX6_puts : ga_wv yX6_puts 6 := ⟨⟨(RX6, TX6, 35), rfl, rfl⟩, ga_tb (List.mem_append_right _ (List.mem_append_right _ (List.mem_append_right _ (List.mem_append_right _ (List.mem_of_getElem? (i := 74) rfl))))) rfl, ga_tb (List.mem_append_left _ (List.mem_of_getElem? (i := 36) rfl)) rfl⟩
set_option maxRecDepth 20000 in
theorem mX6_refused : ga_wm yX6_refused cX6_refused 2 (some .int) 1 := ⟨ga_tb (List.mem_append_right _ (List.mem_append_right _ (List.mem_append_right _ (List.mem_append_right _ (List.mem_of_getElem? (i := 7) rfl))))) rfl, ga_tb (List.mem_append_right _ (List.mem_append_left _ (List.mem_of_getElem? (i := 9) rfl))) rfl, ⟨by decide, by decide⟩, by decide +kernel, by decide⟩
set_option maxRecDepth 20000 in
theorem vX6_refused : ga_wv yX6_refused 6 := ⟨⟨(RX6, TX6, 35), rfl, rfl⟩, ga_tb (List.mem_append_right _ (List.mem_append_right _ (List.mem_append_right _ (List.mem_append_right _ (List.mem_of_getElem? (i := 6) rfl))))) rfl, ga_tb (List.mem_append_left _ (List.mem_of_getElem? (i := 27) rfl)) rfl⟩
set_option maxRecDepth 20000 in
theorem mX6_regret : ga_wm yX6_regret cX6_regret 2 (some .int) 1 := ⟨ga_tb (List.mem_append_right _ (List.mem_append_right _ (List.mem_append_right _ (List.mem_append_right _ (List.mem_of_getElem? (i := 152) rfl))))) rfl, ga_tb (List.mem_append_right _ (List.mem_append_left _ (List.mem_of_getElem? (i := 9) rfl))) rfl, ⟨by decide, by decide⟩, by decide +kernel, by decide⟩
set_option maxRecDepth 20000 in
theorem vX6_regret : ga_wv yX6_regret 6 := ⟨⟨(RX6, TX6, 35), rfl, rfl⟩, ga_tb (List.mem_append_right _ (List.mem_append_right _ (List.mem_append_right _ (List.mem_append_right _ (List.mem_of_getElem? (i := 150) rfl))))) rfl, ga_tb (List.mem_append_right _ (List.mem_append_right _ (List.mem_append_right _ (List.mem_append_right _ (List.mem_of_getElem? (i := 151) rfl))))) rfl⟩
set_option maxRecDepth 20000 in
theorem mX6_regretOf : ga_wm yX6_regretOf cX6_regretOf 5 (some .int) 1 := ⟨ga_tb (List.mem_append_right _ (List.mem_append_right _ (List.mem_append_right _ (List.mem_append_right _ (List.mem_of_getElem? (i := 156) rfl))))) rfl, ga_tb (List.mem_append_right _ (List.mem_append_left _ (List.mem_of_getElem? (i := 9) rfl))) rfl, ⟨by decide, by decide⟩, by decide +kernel, by decide⟩
set_option maxRecDepth 20000 in
theorem vX6_regretOf : ga_wv yX6_regretOf 6 := ⟨⟨(RX6, TX6, 35), rfl, rfl⟩, ga_tb (List.mem_append_right _ (List.mem_append_right _ (List.mem_append_right _ (List.mem_append_right _ (List.mem_of_getElem? (i := 155) rfl))))) rfl, ga_tb (List.mem_append_left _ (List.mem_of_getElem? (i := 45) rfl)) rfl⟩
set_option maxRecDepth 20000 in
theorem mX6_saved : ga_wm yX6_saved cX6_saved 3 (some .int) 0 := ⟨ga_tb (List.mem_append_right _ (List.mem_append_right _ (List.mem_append_right _ (List.mem_append_right _ (List.mem_of_getElem? (i := 148) rfl))))) rfl, ga_tb (List.mem_append_right _ (List.mem_append_left _ (List.mem_of_getElem? (i := 9) rfl))) rfl, ⟨by decide, by decide⟩, by decide +kernel, by decide⟩
set_option maxRecDepth 20000 in
theorem vX6_saved : ga_wv yX6_saved 6 := ⟨⟨(RX6, TX6, 35), rfl, rfl⟩, ga_tb (List.mem_append_right _ (List.mem_append_right _ (List.mem_append_right _ (List.mem_append_right _ (List.mem_of_getElem? (i := 146) rfl))))) rfl, ga_tb (List.mem_append_right _ (List.mem_append_right _ (List.mem_append_right _ (List.mem_append_right _ (List.mem_of_getElem? (i := 147) rfl))))) rfl⟩
set_option maxRecDepth 20000 in
theorem mX6_told : ga_wm yX6_told cX6_told 3 (some .int) 2 := ⟨ga_tb (List.mem_append_right _ (List.mem_append_right _ (List.mem_append_right _ (List.mem_append_right _ (List.mem_of_getElem? (i := 35) rfl))))) rfl, ga_tb (List.mem_append_right _ (List.mem_append_left _ (List.mem_of_getElem? (i := 9) rfl))) rfl, ⟨by decide, by decide⟩, by decide +kernel, by decide⟩
set_option maxRecDepth 20000 in
theorem vX6_told : ga_wv yX6_told 6 := ⟨⟨(RX6, TX6, 35), rfl, rfl⟩, ga_tb (List.mem_append_right _ (List.mem_append_right _ (List.mem_append_right _ (List.mem_append_right _ (List.mem_of_getElem? (i := 33) rfl))))) rfl, ga_tb (List.mem_append_right _ (List.mem_append_right _ (List.mem_append_right _ (List.mem_append_right _ (List.mem_of_getElem? (i := 34) rfl))))) rfl⟩
set_option maxRecDepth 20000 in
theorem mX6_tries : ga_wm yX6_tries cX6_tries 9 none 3 := ⟨ga_tb (List.mem_append_right _ (List.mem_append_right _ (List.mem_append_right _ (List.mem_append_right _ (List.mem_of_getElem? (i := 112) rfl))))) rfl, ga_tb (List.mem_append_right _ (List.mem_append_left _ (List.mem_of_getElem? (i := 9) rfl))) rfl, ⟨by decide, by decide⟩, by decide +kernel, by decide⟩
set_option maxRecDepth 20000 in
theorem vX6_tries : ga_wv yX6_tries 6 := ⟨⟨(RX6, TX6, 35), rfl, rfl⟩, ga_tb (List.mem_append_right _ (List.mem_append_right _ (List.mem_append_right _ (List.mem_append_right _ (List.mem_of_getElem? (i := 111) rfl))))) rfl, ga_tb (List.mem_append_left _ (List.mem_of_getElem? (i := 42) rfl)) rfl⟩
set_option maxRecDepth 20000 in
theorem mX6_trouble : ga_wm yX6_trouble cX6_trouble 1 (some .int) 0 := ⟨ga_tb (List.mem_append_right _ (List.mem_append_right _ (List.mem_append_right _ (List.mem_append_right _ (List.mem_of_getElem? (i := 178) rfl))))) rfl, ga_tb (List.mem_append_right _ (List.mem_append_left _ (List.mem_of_getElem? (i := 9) rfl))) rfl, ⟨by decide, by decide⟩, by decide +kernel, by decide⟩
set_option maxRecDepth 20000 in
theorem vX6_trouble : ga_wv yX6_trouble 6 := ⟨⟨(RX6, TX6, 35), rfl, rfl⟩, ga_tb (List.mem_append_right _ (List.mem_append_right _ (List.mem_append_right _ (List.mem_append_right _ (List.mem_of_getElem? (i := 176) rfl))))) rfl, ga_tb (List.mem_append_right _ (List.mem_append_right _ (List.mem_append_right _ (List.mem_append_right _ (List.mem_of_getElem? (i := 177) rfl))))) rfl⟩
set_option maxRecDepth 20000 in
theorem mX6_uses : ga_wm yX6_uses cX6_uses 2 none 0 := ⟨ga_tb (List.mem_append_right _ (List.mem_append_right _ (List.mem_append_right _ (List.mem_append_right _ (List.mem_of_getElem? (i := 71) rfl))))) rfl, ga_tb (List.mem_append_right _ (List.mem_append_left _ (List.mem_of_getElem? (i := 9) rfl))) rfl, ⟨by decide, by decide⟩, by decide +kernel, by decide⟩
set_option maxRecDepth 20000 in
theorem vX6_uses : ga_wv yX6_uses 6 := ⟨⟨(RX6, TX6, 35), rfl, rfl⟩, ga_tb (List.mem_append_right _ (List.mem_append_right _ (List.mem_append_right _ (List.mem_append_right _ (List.mem_of_getElem? (i := 70) rfl))))) rfl, ga_tb (List.mem_append_left _ (List.mem_of_getElem? (i := 35) rfl)) rfl⟩
set_option maxRecDepth 20000 in
theorem mX6_worst : ga_wm yX6_worst cX6_worst 3 (some .int) 0 := ⟨ga_tb (List.mem_append_right _ (List.mem_append_right _ (List.mem_append_right _ (List.mem_append_right _ (List.mem_of_getElem? (i := 162) rfl))))) rfl, ga_tb (List.mem_append_right _ (List.mem_append_left _ (List.mem_of_getElem? (i := 9) rfl))) rfl, ⟨by decide, by decide⟩, by decide +kernel, by decide⟩
set_option maxRecDepth 20000 in
theorem vX6_worst : ga_wv yX6_worst 6 := ⟨⟨(RX6, TX6, 35), rfl, rfl⟩, ga_tb (List.mem_append_right _ (List.mem_append_right _ (List.mem_append_right _ (List.mem_append_right _ (List.mem_of_getElem? (i := 160) rfl))))) rfl, ga_tb (List.mem_append_right _ (List.mem_append_right _ (List.mem_append_right _ (List.mem_append_right _ (List.mem_of_getElem? (i := 161) rfl))))) rfl⟩
set_option maxRecDepth 20000 in
theorem mX6_would : ga_wm yX6_would cX6_would 4 (some .int) 3 := ⟨ga_tb (List.mem_append_right _ (List.mem_append_right _ (List.mem_append_right _ (List.mem_append_right _ (List.mem_of_getElem? (i := 166) rfl))))) rfl, ga_tb (List.mem_append_right _ (List.mem_append_left _ (List.mem_of_getElem? (i := 9) rfl))) rfl, ⟨by decide, by decide⟩, by decide +kernel, by decide⟩
set_option maxRecDepth 20000 in
theorem vX6_would : ga_wv yX6_would 6 := ⟨⟨(RX6, TX6, 35), rfl, rfl⟩, ga_tb (List.mem_append_right _ (List.mem_append_right _ (List.mem_append_right _ (List.mem_append_right _ (List.mem_of_getElem? (i := 164) rfl))))) rfl, ga_tb (List.mem_append_right _ (List.mem_append_right _ (List.mem_append_right _ (List.mem_append_right _ (List.mem_of_getElem? (i := 165) rfl))))) rfl⟩
set_option maxRecDepth 20000 in
theorem lelem : ga_fld RJx4a65c 9 7 1 := lRJx4a65c_9
set_option maxRecDepth 20000 in
theorem nchk3 : Cond.methodLink RJ15 105 yJ3_checkIndex_8e157 ∈ gaTb := nRJ15_105
set_option maxRecDepth 20000 in
theorem nchk : Cond.methodLink RJx4a65c 118 yJ15_checkIndex_7cf53 ∈ gaTb := nRJx4a65c_118
set_option maxRecDepth 20000 in
theorem nelem : Cond.methodLink RJx4a65c 123 yJx4a65c_elementData_915e3 ∈ gaTb := nRJx4a65c_123
