/-! ===== decoded rows and words of the methods that make cells (wip/whole/ctor.py) ===== -/
set_option maxRecDepth 20000 in
theorem eX0_init_0 : gd_aload cX0_init 0 0 1 := .inr ⟨0, by decide +kernel, rfl, rfl⟩
set_option maxRecDepth 20000 in
theorem eX0_init_1 : gd cX0_init 1 (.invokespecial 3) 3 4 := ⟨by decide +kernel, rfl⟩
set_option maxRecDepth 20000 in
theorem noRX0_3 : Cond.methodLink RX0 3 objectInit ∈ gaTb := ga_tb (List.mem_append_right _ (List.mem_append_left _ (List.mem_of_getElem? (i := 85) rfl))) rfl
set_option maxRecDepth 20000 in
theorem eX0_init_4 : gd_aload cX0_init 4 0 5 := .inr ⟨0, by decide +kernel, rfl, rfl⟩
set_option maxRecDepth 20000 in
theorem eX0_init_5 : gd_push cX0_init 5 40 7 := .inr (.inl ⟨by decide +kernel, by decide, rfl⟩)
set_option maxRecDepth 20000 in
theorem eX0_init_7 : gd cX0_init 7 (.newarray .int) 2 9 := ⟨by decide +kernel, rfl⟩
set_option maxRecDepth 20000 in
theorem eX0_init_9 : gd cX0_init 9 (.putfield 9) 3 12 := ⟨by decide +kernel, rfl⟩
set_option maxRecDepth 20000 in
theorem eX0_init_12 : gd_aload cX0_init 12 0 13 := .inr ⟨0, by decide +kernel, rfl, rfl⟩
set_option maxRecDepth 20000 in
theorem eX0_init_13 : gd_push cX0_init 13 40 15 := .inr (.inl ⟨by decide +kernel, by decide, rfl⟩)
set_option maxRecDepth 20000 in
theorem eX0_init_15 : gd cX0_init 15 (.newarray .int) 2 17 := ⟨by decide +kernel, rfl⟩
set_option maxRecDepth 20000 in
theorem eX0_init_17 : gd cX0_init 17 (.putfield 15) 3 20 := ⟨by decide +kernel, rfl⟩
set_option maxRecDepth 20000 in
theorem eX0_init_20 : gd_aload cX0_init 20 0 21 := .inr ⟨0, by decide +kernel, rfl, rfl⟩
set_option maxRecDepth 20000 in
theorem eX0_init_21 : gd_push cX0_init 21 40 23 := .inr (.inl ⟨by decide +kernel, by decide, rfl⟩)
set_option maxRecDepth 20000 in
theorem eX0_init_23 : gd cX0_init 23 (.newarray .int) 2 25 := ⟨by decide +kernel, rfl⟩
set_option maxRecDepth 20000 in
theorem eX0_init_25 : gd cX0_init 25 (.putfield 18) 3 28 := ⟨by decide +kernel, rfl⟩
set_option maxRecDepth 20000 in
theorem eX0_init_28 : gd_push cX0_init 28 0 29 := .inl ⟨by decide +kernel, rfl⟩
set_option maxRecDepth 20000 in
theorem eX0_init_29 : gd_istore cX0_init 29 1 30 := .inr ⟨1, by decide +kernel, rfl, rfl⟩
set_option maxRecDepth 20000 in
theorem eX0_init_30 : gd_iload cX0_init 30 1 31 := .inr ⟨1, by decide +kernel, rfl, rfl⟩
set_option maxRecDepth 20000 in
theorem eX0_init_31 : gd_push cX0_init 31 40 33 := .inr (.inl ⟨by decide +kernel, by decide, rfl⟩)
set_option maxRecDepth 20000 in
theorem eX0_init_33 : gd_b cX0_init 33 (.if_icmp .ge) 49 36 := ⟨16, by decide +kernel, by decide, rfl⟩
set_option maxRecDepth 20000 in
theorem eX0_init_36 : gd_aload cX0_init 36 0 37 := .inr ⟨0, by decide +kernel, rfl, rfl⟩
set_option maxRecDepth 20000 in
theorem eX0_init_37 : gd cX0_init 37 (.getfield 9) 3 40 := ⟨by decide +kernel, rfl⟩
set_option maxRecDepth 20000 in
theorem eX0_init_40 : gd_iload cX0_init 40 1 41 := .inr ⟨1, by decide +kernel, rfl, rfl⟩
set_option maxRecDepth 20000 in
theorem eX0_init_41 : gd_push cX0_init 41 (-1) 42 := .inl ⟨by decide +kernel, rfl⟩
set_option maxRecDepth 20000 in
theorem eX0_init_42 : gd cX0_init 42 .iastore 1 43 := ⟨by decide +kernel, rfl⟩
set_option maxRecDepth 20000 in
theorem eX0_init_43 : gd cX0_init 43 (.iinc 1 1) 3 46 := ⟨by decide +kernel, rfl⟩
set_option maxRecDepth 20000 in
theorem eX0_init_46 : gd_b cX0_init 46 .goto 30 49 := ⟨(-16), by decide +kernel, by decide, rfl⟩
set_option maxRecDepth 20000 in
theorem eX0_init_49 : gd_aload cX0_init 49 0 50 := .inr ⟨0, by decide +kernel, rfl, rfl⟩
set_option maxRecDepth 20000 in
theorem eX0_init_50 : gd_push cX0_init 50 0 51 := .inl ⟨by decide +kernel, rfl⟩
set_option maxRecDepth 20000 in
theorem eX0_init_51 : gd cX0_init 51 (.putfield 21) 3 54 := ⟨by decide +kernel, rfl⟩
set_option maxRecDepth 20000 in
theorem eX0_init_54 : gd_aload cX0_init 54 0 55 := .inr ⟨0, by decide +kernel, rfl, rfl⟩
set_option maxRecDepth 20000 in
theorem eX0_init_55 : gd_push cX0_init 55 (-1) 56 := .inl ⟨by decide +kernel, rfl⟩
set_option maxRecDepth 20000 in
theorem eX0_init_56 : gd cX0_init 56 (.putfield 25) 3 59 := ⟨by decide +kernel, rfl⟩
set_option maxRecDepth 20000 in
theorem eX0_init_59 : gd cX0_init 59 .return_ 1 60 := ⟨by decide +kernel, rfl⟩
set_option maxRecDepth 20000 in
theorem mX0_init : ga_wm yX0_init cX0_init 2 none 0 := ⟨ga_tb (List.mem_append_right _ (List.mem_append_left _ (List.mem_of_getElem? (i := 84) rfl))) rfl, ga_tb (List.mem_append_right _ (List.mem_append_left _ (List.mem_of_getElem? (i := 6) rfl))) rfl, ⟨by decide, by decide⟩, by decide +kernel, by decide⟩
set_option maxRecDepth 20000 in
theorem iX0_init : Cond.instanceMethod yX0_init ∈ gaTb := ga_tb (List.mem_append_right _ (List.mem_append_left _ (List.mem_of_getElem? (i := 83) rfl))) rfl
set_option maxRecDepth 20000 in
theorem eX1_init_0 : gd_aload cX1_init 0 0 1 := .inr ⟨0, by decide +kernel, rfl, rfl⟩
set_option maxRecDepth 20000 in
theorem eX1_init_1 : gd cX1_init 1 (.invokespecial 3) 3 4 := ⟨by decide +kernel, rfl⟩
set_option maxRecDepth 20000 in
theorem noRX1_3 : Cond.methodLink RX1 3 objectInit ∈ gaTb := ga_tb (List.mem_append_right _ (List.mem_append_left _ (List.mem_of_getElem? (i := 111) rfl))) rfl
set_option maxRecDepth 20000 in
theorem eX1_init_4 : gd_aload cX1_init 4 0 5 := .inr ⟨0, by decide +kernel, rfl, rfl⟩
set_option maxRecDepth 20000 in
theorem eX1_init_5 : gd_push cX1_init 5 4 6 := .inl ⟨by decide +kernel, rfl⟩
set_option maxRecDepth 20000 in
theorem eX1_init_6 : gd_push cX1_init 6 300 9 := .inr (.inr ⟨by decide +kernel, by decide, rfl⟩)
set_option maxRecDepth 20000 in
theorem eX1_init_9 : gd cX1_init 9 (.multianewarray 9 2) 4 13 := ⟨by decide +kernel, rfl⟩
set_option maxRecDepth 20000 in
theorem cmRX1_9 : Cond.classLink RX1 9 "[[I" ∈ gaTb := ga_tb (List.mem_append_right _ (List.mem_append_left _ (List.mem_of_getElem? (i := 112) rfl))) rfl
set_option maxRecDepth 20000 in
theorem eX1_init_13 : gd cX1_init 13 (.putfield 11) 3 16 := ⟨by decide +kernel, rfl⟩
set_option maxRecDepth 20000 in
theorem eX1_init_16 : gd_aload cX1_init 16 0 17 := .inr ⟨0, by decide +kernel, rfl, rfl⟩
set_option maxRecDepth 20000 in
theorem eX1_init_17 : gd_push cX1_init 17 0 18 := .inl ⟨by decide +kernel, rfl⟩
set_option maxRecDepth 20000 in
theorem eX1_init_18 : gd cX1_init 18 (.putfield 16) 3 21 := ⟨by decide +kernel, rfl⟩
set_option maxRecDepth 20000 in
theorem eX1_init_21 : gd_aload cX1_init 21 0 22 := .inr ⟨0, by decide +kernel, rfl, rfl⟩
set_option maxRecDepth 20000 in
theorem eX1_init_22 : gd_push cX1_init 22 0 23 := .inl ⟨by decide +kernel, rfl⟩
set_option maxRecDepth 20000 in
theorem eX1_init_23 : gd cX1_init 23 (.putfield 20) 3 26 := ⟨by decide +kernel, rfl⟩
set_option maxRecDepth 20000 in
theorem eX1_init_26 : gd_aload cX1_init 26 0 27 := .inr ⟨0, by decide +kernel, rfl, rfl⟩
set_option maxRecDepth 20000 in
theorem eX1_init_27 : gd_push cX1_init 27 (-1) 28 := .inl ⟨by decide +kernel, rfl⟩
set_option maxRecDepth 20000 in
theorem eX1_init_28 : gd cX1_init 28 (.putfield 23) 3 31 := ⟨by decide +kernel, rfl⟩
set_option maxRecDepth 20000 in
theorem eX1_init_31 : gd_aload cX1_init 31 0 32 := .inr ⟨0, by decide +kernel, rfl, rfl⟩
set_option maxRecDepth 20000 in
theorem eX1_init_32 : gd_push cX1_init 32 (-1) 33 := .inl ⟨by decide +kernel, rfl⟩
set_option maxRecDepth 20000 in
theorem eX1_init_33 : gd cX1_init 33 (.putfield 26) 3 36 := ⟨by decide +kernel, rfl⟩
set_option maxRecDepth 20000 in
theorem eX1_init_36 : gd_aload cX1_init 36 0 37 := .inr ⟨0, by decide +kernel, rfl, rfl⟩
set_option maxRecDepth 20000 in
theorem eX1_init_37 : gd_push cX1_init 37 (-1) 38 := .inl ⟨by decide +kernel, rfl⟩
set_option maxRecDepth 20000 in
theorem eX1_init_38 : gd cX1_init 38 (.putfield 29) 3 41 := ⟨by decide +kernel, rfl⟩
set_option maxRecDepth 20000 in
theorem eX1_init_41 : gd_aload cX1_init 41 0 42 := .inr ⟨0, by decide +kernel, rfl, rfl⟩
set_option maxRecDepth 20000 in
theorem eX1_init_42 : gd_push cX1_init 42 (-1) 43 := .inl ⟨by decide +kernel, rfl⟩
set_option maxRecDepth 20000 in
theorem eX1_init_43 : gd cX1_init 43 (.putfield 32) 3 46 := ⟨by decide +kernel, rfl⟩
set_option maxRecDepth 20000 in
theorem eX1_init_46 : gd cX1_init 46 .return_ 1 47 := ⟨by decide +kernel, rfl⟩
set_option maxRecDepth 20000 in
theorem mX1_init : ga_wm yX1_init cX1_init 1 none 0 := ⟨ga_tb (List.mem_append_right _ (List.mem_append_left _ (List.mem_of_getElem? (i := 110) rfl))) rfl, ga_tb (List.mem_append_right _ (List.mem_append_left _ (List.mem_of_getElem? (i := 7) rfl))) rfl, ⟨by decide, by decide⟩, by decide +kernel, by decide⟩
set_option maxRecDepth 20000 in
theorem iX1_init : Cond.instanceMethod yX1_init ∈ gaTb := ga_tb (List.mem_append_right _ (List.mem_append_left _ (List.mem_of_getElem? (i := 109) rfl))) rfl
set_option maxRecDepth 20000 in
theorem eX2_init_0 : gd_aload cX2_init 0 0 1 := .inr ⟨0, by decide +kernel, rfl, rfl⟩
set_option maxRecDepth 20000 in
theorem eX2_init_1 : gd cX2_init 1 (.invokespecial 3) 3 4 := ⟨by decide +kernel, rfl⟩
set_option maxRecDepth 20000 in
theorem noRX2_3 : Cond.methodLink RX2 3 objectInit ∈ gaTb := ga_tb (List.mem_append_right _ (List.mem_append_left _ (List.mem_of_getElem? (i := 30) rfl))) rfl
set_option maxRecDepth 20000 in
theorem eX2_init_4 : gd_aload cX2_init 4 0 5 := .inr ⟨0, by decide +kernel, rfl, rfl⟩
set_option maxRecDepth 20000 in
theorem eX2_init_5 : gd_push cX2_init 5 0 6 := .inl ⟨by decide +kernel, rfl⟩
set_option maxRecDepth 20000 in
theorem eX2_init_6 : gd cX2_init 6 (.putfield 9) 3 9 := ⟨by decide +kernel, rfl⟩
set_option maxRecDepth 20000 in
theorem eX2_init_9 : gd_aload cX2_init 9 0 10 := .inr ⟨0, by decide +kernel, rfl, rfl⟩
set_option maxRecDepth 20000 in
theorem eX2_init_10 : gd_push cX2_init 10 4 11 := .inl ⟨by decide +kernel, rfl⟩
set_option maxRecDepth 20000 in
theorem eX2_init_11 : gd_push cX2_init 11 4 12 := .inl ⟨by decide +kernel, rfl⟩
set_option maxRecDepth 20000 in
theorem eX2_init_12 : gd cX2_init 12 (.multianewarray 15 2) 4 16 := ⟨by decide +kernel, rfl⟩
set_option maxRecDepth 20000 in
theorem cmRX2_15 : Cond.classLink RX2 15 "[[I" ∈ gaTb := ga_tb (List.mem_append_right _ (List.mem_append_left _ (List.mem_of_getElem? (i := 31) rfl))) rfl
set_option maxRecDepth 20000 in
theorem eX2_init_16 : gd cX2_init 16 (.putfield 17) 3 19 := ⟨by decide +kernel, rfl⟩
set_option maxRecDepth 20000 in
theorem eX2_init_19 : gd_aload cX2_init 19 0 20 := .inr ⟨0, by decide +kernel, rfl, rfl⟩
set_option maxRecDepth 20000 in
theorem eX2_init_20 : gd_push cX2_init 20 4 21 := .inl ⟨by decide +kernel, rfl⟩
set_option maxRecDepth 20000 in
theorem eX2_init_21 : gd_push cX2_init 21 300 24 := .inr (.inr ⟨by decide +kernel, by decide, rfl⟩)
set_option maxRecDepth 20000 in
theorem eX2_init_24 : gd cX2_init 24 (.multianewarray 15 2) 4 28 := ⟨by decide +kernel, rfl⟩
set_option maxRecDepth 20000 in
theorem eX2_init_28 : gd cX2_init 28 (.putfield 20) 3 31 := ⟨by decide +kernel, rfl⟩
set_option maxRecDepth 20000 in
theorem eX2_init_31 : gd_aload cX2_init 31 0 32 := .inr ⟨0, by decide +kernel, rfl, rfl⟩
set_option maxRecDepth 20000 in
theorem eX2_init_32 : gd_push cX2_init 32 4 33 := .inl ⟨by decide +kernel, rfl⟩
set_option maxRecDepth 20000 in
theorem eX2_init_33 : gd_push cX2_init 33 300 36 := .inr (.inr ⟨by decide +kernel, by decide, rfl⟩)
set_option maxRecDepth 20000 in
theorem eX2_init_36 : gd cX2_init 36 (.multianewarray 15 2) 4 40 := ⟨by decide +kernel, rfl⟩
set_option maxRecDepth 20000 in
theorem eX2_init_40 : gd cX2_init 40 (.putfield 23) 3 43 := ⟨by decide +kernel, rfl⟩
set_option maxRecDepth 20000 in
theorem eX2_init_43 : gd cX2_init 43 .return_ 1 44 := ⟨by decide +kernel, rfl⟩
set_option maxRecDepth 20000 in
theorem mX2_init : ga_wm yX2_init cX2_init 1 none 0 := ⟨ga_tb (List.mem_append_right _ (List.mem_append_left _ (List.mem_of_getElem? (i := 29) rfl))) rfl, ga_tb (List.mem_append_right _ (List.mem_append_left _ (List.mem_of_getElem? (i := 2) rfl))) rfl, ⟨by decide, by decide⟩, by decide +kernel, by decide⟩
set_option maxRecDepth 20000 in
theorem iX2_init : Cond.instanceMethod yX2_init ∈ gaTb := ga_tb (List.mem_append_right _ (List.mem_append_left _ (List.mem_of_getElem? (i := 28) rfl))) rfl
set_option maxRecDepth 20000 in
theorem eX3_init_0 : gd_aload cX3_init 0 0 1 := .inr ⟨0, by decide +kernel, rfl, rfl⟩
set_option maxRecDepth 20000 in
theorem eX3_init_1 : gd cX3_init 1 (.invokespecial 3) 3 4 := ⟨by decide +kernel, rfl⟩
set_option maxRecDepth 20000 in
theorem noRX3_3 : Cond.methodLink RX3 3 objectInit ∈ gaTb := ga_tb (List.mem_append_right _ (List.mem_append_left _ (List.mem_of_getElem? (i := 147) rfl))) rfl
set_option maxRecDepth 20000 in
theorem eX3_init_4 : gd_aload cX3_init 4 0 5 := .inr ⟨0, by decide +kernel, rfl, rfl⟩
set_option maxRecDepth 20000 in
theorem eX3_init_5 : gd_push cX3_init 5 3 6 := .inl ⟨by decide +kernel, rfl⟩
set_option maxRecDepth 20000 in
theorem eX3_init_6 : gd_push cX3_init 6 47 8 := .inr (.inl ⟨by decide +kernel, by decide, rfl⟩)
set_option maxRecDepth 20000 in
theorem eX3_init_8 : gd cX3_init 8 (.multianewarray 11 2) 4 12 := ⟨by decide +kernel, rfl⟩
set_option maxRecDepth 20000 in
theorem cmRX3_11 : Cond.classLink RX3 11 "[[I" ∈ gaTb := ga_tb (List.mem_append_right _ (List.mem_append_left _ (List.mem_of_getElem? (i := 148) rfl))) rfl
set_option maxRecDepth 20000 in
theorem eX3_init_12 : gd cX3_init 12 (.putfield 13) 3 15 := ⟨by decide +kernel, rfl⟩
set_option maxRecDepth 20000 in
theorem eX3_init_15 : gd_aload cX3_init 15 0 16 := .inr ⟨0, by decide +kernel, rfl, rfl⟩
set_option maxRecDepth 20000 in
theorem eX3_init_16 : gd_push cX3_init 16 3 17 := .inl ⟨by decide +kernel, rfl⟩
set_option maxRecDepth 20000 in
theorem eX3_init_17 : gd_push cX3_init 17 47 19 := .inr (.inl ⟨by decide +kernel, by decide, rfl⟩)
set_option maxRecDepth 20000 in
theorem eX3_init_19 : gd cX3_init 19 (.multianewarray 11 2) 4 23 := ⟨by decide +kernel, rfl⟩
set_option maxRecDepth 20000 in
theorem eX3_init_23 : gd cX3_init 23 (.putfield 16) 3 26 := ⟨by decide +kernel, rfl⟩
set_option maxRecDepth 20000 in
theorem eX3_init_26 : gd_aload cX3_init 26 0 27 := .inr ⟨0, by decide +kernel, rfl, rfl⟩
set_option maxRecDepth 20000 in
theorem eX3_init_27 : gd_push cX3_init 27 3 28 := .inl ⟨by decide +kernel, rfl⟩
set_option maxRecDepth 20000 in
theorem eX3_init_28 : gd_push cX3_init 28 47 30 := .inr (.inl ⟨by decide +kernel, by decide, rfl⟩)
set_option maxRecDepth 20000 in
theorem eX3_init_30 : gd cX3_init 30 (.multianewarray 11 2) 4 34 := ⟨by decide +kernel, rfl⟩
set_option maxRecDepth 20000 in
theorem eX3_init_34 : gd cX3_init 34 (.putfield 19) 3 37 := ⟨by decide +kernel, rfl⟩
set_option maxRecDepth 20000 in
theorem eX3_init_37 : gd_aload cX3_init 37 0 38 := .inr ⟨0, by decide +kernel, rfl, rfl⟩
set_option maxRecDepth 20000 in
theorem eX3_init_38 : gd_push cX3_init 38 3 39 := .inl ⟨by decide +kernel, rfl⟩
set_option maxRecDepth 20000 in
theorem eX3_init_39 : gd cX3_init 39 (.newarray .int) 2 41 := ⟨by decide +kernel, rfl⟩
set_option maxRecDepth 20000 in
theorem eX3_init_41 : gd cX3_init 41 (.putfield 22) 3 44 := ⟨by decide +kernel, rfl⟩
set_option maxRecDepth 20000 in
theorem eX3_init_44 : gd_aload cX3_init 44 0 45 := .inr ⟨0, by decide +kernel, rfl, rfl⟩
set_option maxRecDepth 20000 in
theorem eX3_init_45 : gd_push cX3_init 45 3 46 := .inl ⟨by decide +kernel, rfl⟩
set_option maxRecDepth 20000 in
theorem eX3_init_46 : gd cX3_init 46 (.newarray .int) 2 48 := ⟨by decide +kernel, rfl⟩
set_option maxRecDepth 20000 in
theorem eX3_init_48 : gd cX3_init 48 (.putfield 26) 3 51 := ⟨by decide +kernel, rfl⟩
set_option maxRecDepth 20000 in
theorem eX3_init_51 : gd_aload cX3_init 51 0 52 := .inr ⟨0, by decide +kernel, rfl, rfl⟩
set_option maxRecDepth 20000 in
theorem eX3_init_52 : gd_push cX3_init 52 0 53 := .inl ⟨by decide +kernel, rfl⟩
set_option maxRecDepth 20000 in
theorem eX3_init_53 : gd cX3_init 53 (.putfield 29) 3 56 := ⟨by decide +kernel, rfl⟩
set_option maxRecDepth 20000 in
theorem eX3_init_56 : gd cX3_init 56 .return_ 1 57 := ⟨by decide +kernel, rfl⟩
set_option maxRecDepth 20000 in
theorem mX3_init : ga_wm yX3_init cX3_init 1 none 0 := ⟨ga_tb (List.mem_append_right _ (List.mem_append_left _ (List.mem_of_getElem? (i := 146) rfl))) rfl, ga_tb (List.mem_append_right _ (List.mem_append_left _ (List.mem_of_getElem? (i := 8) rfl))) rfl, ⟨by decide, by decide⟩, by decide +kernel, by decide⟩
set_option maxRecDepth 20000 in
theorem iX3_init : Cond.instanceMethod yX3_init ∈ gaTb := ga_tb (List.mem_append_right _ (List.mem_append_left _ (List.mem_of_getElem? (i := 145) rfl))) rfl
set_option maxRecDepth 20000 in
theorem eX4_init_0 : gd_aload cX4_init 0 0 1 := .inr ⟨0, by decide +kernel, rfl, rfl⟩
set_option maxRecDepth 20000 in
theorem eX4_init_1 : gd cX4_init 1 (.invokespecial 3) 3 4 := ⟨by decide +kernel, rfl⟩
set_option maxRecDepth 20000 in
theorem noRX4_3 : Cond.methodLink RX4 3 objectInit ∈ gaTb := ga_tb (List.mem_append_right _ (List.mem_append_right _ (List.mem_append_left _ (List.mem_of_getElem? (i := 22) rfl)))) rfl
set_option maxRecDepth 20000 in
theorem eX4_init_4 : gd_aload cX4_init 4 0 5 := .inr ⟨0, by decide +kernel, rfl, rfl⟩
set_option maxRecDepth 20000 in
theorem eX4_init_5 : gd_iload cX4_init 5 1 6 := .inr ⟨1, by decide +kernel, rfl, rfl⟩
set_option maxRecDepth 20000 in
theorem eX4_init_6 : gd cX4_init 6 (.putfield 9) 3 9 := ⟨by decide +kernel, rfl⟩
set_option maxRecDepth 20000 in
theorem eX4_init_9 : gd_aload cX4_init 9 0 10 := .inr ⟨0, by decide +kernel, rfl, rfl⟩
set_option maxRecDepth 20000 in
theorem eX4_init_10 : gd_iload cX4_init 10 2 11 := .inr ⟨2, by decide +kernel, rfl, rfl⟩
set_option maxRecDepth 20000 in
theorem eX4_init_11 : gd cX4_init 11 (.putfield 15) 3 14 := ⟨by decide +kernel, rfl⟩
set_option maxRecDepth 20000 in
theorem eX4_init_14 : gd_aload cX4_init 14 0 15 := .inr ⟨0, by decide +kernel, rfl, rfl⟩
set_option maxRecDepth 20000 in
theorem eX4_init_15 : gd_iload cX4_init 15 3 16 := .inr ⟨3, by decide +kernel, rfl, rfl⟩
set_option maxRecDepth 20000 in
theorem eX4_init_16 : gd cX4_init 16 (.putfield 18) 3 19 := ⟨by decide +kernel, rfl⟩
set_option maxRecDepth 20000 in
theorem eX4_init_19 : gd_aload cX4_init 19 0 20 := .inr ⟨0, by decide +kernel, rfl, rfl⟩
set_option maxRecDepth 20000 in
theorem eX4_init_20 : gd_iload cX4_init 20 4 22 := .inl ⟨by decide +kernel, rfl⟩
set_option maxRecDepth 20000 in
theorem eX4_init_22 : gd cX4_init 22 (.putfield 21) 3 25 := ⟨by decide +kernel, rfl⟩
set_option maxRecDepth 20000 in
theorem eX4_init_25 : gd_aload cX4_init 25 0 26 := .inr ⟨0, by decide +kernel, rfl, rfl⟩
set_option maxRecDepth 20000 in
theorem eX4_init_26 : gd_iload cX4_init 26 5 28 := .inl ⟨by decide +kernel, rfl⟩
set_option maxRecDepth 20000 in
theorem eX4_init_28 : gd cX4_init 28 (.putfield 24) 3 31 := ⟨by decide +kernel, rfl⟩
set_option maxRecDepth 20000 in
theorem eX4_init_31 : gd_aload cX4_init 31 0 32 := .inr ⟨0, by decide +kernel, rfl, rfl⟩
set_option maxRecDepth 20000 in
theorem eX4_init_32 : gd_iload cX4_init 32 6 34 := .inl ⟨by decide +kernel, rfl⟩
set_option maxRecDepth 20000 in
theorem eX4_init_34 : gd cX4_init 34 (.putfield 27) 3 37 := ⟨by decide +kernel, rfl⟩
set_option maxRecDepth 20000 in
theorem eX4_init_37 : gd_aload cX4_init 37 0 38 := .inr ⟨0, by decide +kernel, rfl, rfl⟩
set_option maxRecDepth 20000 in
theorem eX4_init_38 : gd_push cX4_init 38 0 39 := .inl ⟨by decide +kernel, rfl⟩
set_option maxRecDepth 20000 in
theorem eX4_init_39 : gd cX4_init 39 (.putfield 30) 3 42 := ⟨by decide +kernel, rfl⟩
set_option maxRecDepth 20000 in
theorem eX4_init_42 : gd_aload cX4_init 42 0 43 := .inr ⟨0, by decide +kernel, rfl, rfl⟩
set_option maxRecDepth 20000 in
theorem eX4_init_43 : gd_push cX4_init 43 (-1) 44 := .inl ⟨by decide +kernel, rfl⟩
set_option maxRecDepth 20000 in
theorem eX4_init_44 : gd cX4_init 44 (.putfield 33) 3 47 := ⟨by decide +kernel, rfl⟩
set_option maxRecDepth 20000 in
theorem eX4_init_47 : gd_aload cX4_init 47 0 48 := .inr ⟨0, by decide +kernel, rfl, rfl⟩
set_option maxRecDepth 20000 in
theorem eX4_init_48 : gd_push cX4_init 48 (-1) 49 := .inl ⟨by decide +kernel, rfl⟩
set_option maxRecDepth 20000 in
theorem eX4_init_49 : gd cX4_init 49 (.putfield 36) 3 52 := ⟨by decide +kernel, rfl⟩
set_option maxRecDepth 20000 in
theorem eX4_init_52 : gd_aload cX4_init 52 0 53 := .inr ⟨0, by decide +kernel, rfl, rfl⟩
set_option maxRecDepth 20000 in
theorem eX4_init_53 : gd_push cX4_init 53 0 54 := .inl ⟨by decide +kernel, rfl⟩
set_option maxRecDepth 20000 in
theorem eX4_init_54 : gd cX4_init 54 (.putfield 39) 3 57 := ⟨by decide +kernel, rfl⟩
set_option maxRecDepth 20000 in
theorem eX4_init_57 : gd cX4_init 57 .return_ 1 58 := ⟨by decide +kernel, rfl⟩
set_option maxRecDepth 20000 in
theorem mX4_init : ga_wm yX4_init cX4_init 7 none 6 := ⟨ga_tb (List.mem_append_right _ (List.mem_append_right _ (List.mem_append_left _ (List.mem_of_getElem? (i := 21) rfl)))) rfl, ga_tb (List.mem_append_right _ (List.mem_append_left _ (List.mem_of_getElem? (i := 10) rfl))) rfl, ⟨by decide, by decide⟩, by decide +kernel, by decide⟩
set_option maxRecDepth 20000 in
theorem iX4_init : Cond.instanceMethod yX4_init ∈ gaTb := ga_tb (List.mem_append_right _ (List.mem_append_right _ (List.mem_append_left _ (List.mem_of_getElem? (i := 20) rfl)))) rfl
set_option maxRecDepth 20000 in
theorem eX5_init_0 : gd_aload cX5_init 0 0 1 := .inr ⟨0, by decide +kernel, rfl, rfl⟩
set_option maxRecDepth 20000 in
theorem eX5_init_1 : gd cX5_init 1 (.invokespecial 1) 3 4 := ⟨by decide +kernel, rfl⟩
set_option maxRecDepth 20000 in
theorem noRX5_1 : Cond.methodLink RX5 1 objectInit ∈ gaTb := ga_tb (List.mem_append_right _ (List.mem_append_left _ (List.mem_of_getElem? (i := 22) rfl))) rfl
set_option maxRecDepth 20000 in
theorem eX5_init_4 : gd_aload cX5_init 4 0 5 := .inr ⟨0, by decide +kernel, rfl, rfl⟩
set_option maxRecDepth 20000 in
theorem eX5_init_5 : gd cX5_init 5 (.new 7) 3 8 := ⟨by decide +kernel, rfl⟩
set_option maxRecDepth 20000 in
theorem cnRX5_7 : Cond.classLink RX5 7 RX2 ∈ gaTb := ga_tb (List.mem_append_right _ (List.mem_append_left _ (List.mem_of_getElem? (i := 25) rfl))) rfl
set_option maxRecDepth 20000 in
theorem ciRX2 : Cond.instantiable RX2 4 ∈ gaTb := ga_tb (List.mem_append_right _ (List.mem_append_left _ (List.mem_of_getElem? (i := 26) rfl))) rfl
set_option maxRecDepth 20000 in
theorem niRX2 : Cond.initialized RX2 ∈ gaTb := ga_tb (List.mem_append_right _ (List.mem_append_left _ (List.mem_of_getElem? (i := 2) rfl))) rfl
set_option maxRecDepth 20000 in
theorem eX5_init_8 : gd cX5_init 8 .dup 1 9 := ⟨by decide +kernel, rfl⟩
set_option maxRecDepth 20000 in
theorem eX5_init_9 : gd cX5_init 9 (.invokespecial 9) 3 12 := ⟨by decide +kernel, rfl⟩
set_option maxRecDepth 20000 in
theorem nRX5_9 : Cond.methodLink RX5 9 yX2_init ∈ gaTb := ga_tb (List.mem_append_right _ (List.mem_append_left _ (List.mem_of_getElem? (i := 27) rfl))) rfl
set_option maxRecDepth 20000 in
theorem eX5_init_12 : gd cX5_init 12 (.putfield 10) 3 15 := ⟨by decide +kernel, rfl⟩
set_option maxRecDepth 20000 in
theorem eX5_init_15 : gd_aload cX5_init 15 0 16 := .inr ⟨0, by decide +kernel, rfl, rfl⟩
set_option maxRecDepth 20000 in
theorem eX5_init_16 : gd cX5_init 16 (.new 16) 3 19 := ⟨by decide +kernel, rfl⟩
set_option maxRecDepth 20000 in
theorem cnRX5_16 : Cond.classLink RX5 16 RJx4a65c ∈ gaTb := ga_tb (List.mem_append_right _ (List.mem_append_left _ (List.mem_of_getElem? (i := 54) rfl))) rfl
set_option maxRecDepth 20000 in
theorem ciRJx4a65c : Cond.instantiable RJx4a65c 3 ∈ gaTb := ga_tb (List.mem_append_right _ (List.mem_append_left _ (List.mem_of_getElem? (i := 55) rfl))) rfl
set_option maxRecDepth 20000 in
theorem niRJx4a65c : Cond.initialized RJx4a65c ∈ gaTb := ga_tb (List.mem_append_right _ (List.mem_append_left _ (List.mem_of_getElem? (i := 5) rfl))) rfl
set_option maxRecDepth 20000 in
theorem eX5_init_19 : gd cX5_init 19 .dup 1 20 := ⟨by decide +kernel, rfl⟩
set_option maxRecDepth 20000 in
theorem eX5_init_20 : gd cX5_init 20 (.invokespecial 18) 3 23 := ⟨by decide +kernel, rfl⟩
set_option maxRecDepth 20000 in
theorem nRX5_18 : Cond.methodLink RX5 18 yJx4a65c_init_da8c8 ∈ gaTb := ga_tb (List.mem_append_right _ (List.mem_append_left _ (List.mem_of_getElem? (i := 56) rfl))) rfl
set_option maxRecDepth 20000 in
theorem eX5_init_23 : gd cX5_init 23 (.putfield 19) 3 26 := ⟨by decide +kernel, rfl⟩
set_option maxRecDepth 20000 in
theorem eX5_init_26 : gd_aload cX5_init 26 0 27 := .inr ⟨0, by decide +kernel, rfl, rfl⟩
set_option maxRecDepth 20000 in
theorem eX5_init_27 : gd_push cX5_init 27 6 29 := .inr (.inl ⟨by decide +kernel, by decide, rfl⟩)
set_option maxRecDepth 20000 in
theorem eX5_init_29 : gd cX5_init 29 (.newarray .int) 2 31 := ⟨by decide +kernel, rfl⟩
set_option maxRecDepth 20000 in
theorem eX5_init_31 : gd cX5_init 31 (.putfield 23) 3 34 := ⟨by decide +kernel, rfl⟩
set_option maxRecDepth 20000 in
theorem eX5_init_34 : gd_aload cX5_init 34 0 35 := .inr ⟨0, by decide +kernel, rfl, rfl⟩
set_option maxRecDepth 20000 in
theorem eX5_init_35 : gd cX5_init 35 (.new 27) 3 38 := ⟨by decide +kernel, rfl⟩
set_option maxRecDepth 20000 in
theorem cnRX5_27 : Cond.classLink RX5 27 RX0 ∈ gaTb := ga_tb (List.mem_append_right _ (List.mem_append_left _ (List.mem_of_getElem? (i := 80) rfl))) rfl
set_option maxRecDepth 20000 in
theorem ciRX0 : Cond.instantiable RX0 5 ∈ gaTb := ga_tb (List.mem_append_right _ (List.mem_append_left _ (List.mem_of_getElem? (i := 81) rfl))) rfl
set_option maxRecDepth 20000 in
theorem niRX0 : Cond.initialized RX0 ∈ gaTb := ga_tb (List.mem_append_right _ (List.mem_append_left _ (List.mem_of_getElem? (i := 6) rfl))) rfl
set_option maxRecDepth 20000 in
theorem eX5_init_38 : gd cX5_init 38 .dup 1 39 := ⟨by decide +kernel, rfl⟩
set_option maxRecDepth 20000 in
theorem eX5_init_39 : gd cX5_init 39 (.invokespecial 29) 3 42 := ⟨by decide +kernel, rfl⟩
set_option maxRecDepth 20000 in
theorem nRX5_29 : Cond.methodLink RX5 29 yX0_init ∈ gaTb := ga_tb (List.mem_append_right _ (List.mem_append_left _ (List.mem_of_getElem? (i := 82) rfl))) rfl
set_option maxRecDepth 20000 in
theorem eX5_init_42 : gd cX5_init 42 (.putfield 30) 3 45 := ⟨by decide +kernel, rfl⟩
set_option maxRecDepth 20000 in
theorem eX5_init_45 : gd_aload cX5_init 45 0 46 := .inr ⟨0, by decide +kernel, rfl, rfl⟩
set_option maxRecDepth 20000 in
theorem eX5_init_46 : gd cX5_init 46 (.new 27) 3 49 := ⟨by decide +kernel, rfl⟩
set_option maxRecDepth 20000 in
theorem eX5_init_49 : gd cX5_init 49 .dup 1 50 := ⟨by decide +kernel, rfl⟩
set_option maxRecDepth 20000 in
theorem eX5_init_50 : gd cX5_init 50 (.invokespecial 29) 3 53 := ⟨by decide +kernel, rfl⟩
set_option maxRecDepth 20000 in
theorem eX5_init_53 : gd cX5_init 53 (.putfield 34) 3 56 := ⟨by decide +kernel, rfl⟩
set_option maxRecDepth 20000 in
theorem eX5_init_56 : gd_aload cX5_init 56 0 57 := .inr ⟨0, by decide +kernel, rfl, rfl⟩
set_option maxRecDepth 20000 in
theorem eX5_init_57 : gd cX5_init 57 (.new 37) 3 60 := ⟨by decide +kernel, rfl⟩
set_option maxRecDepth 20000 in
theorem cnRX5_37 : Cond.classLink RX5 37 RX1 ∈ gaTb := ga_tb (List.mem_append_right _ (List.mem_append_left _ (List.mem_of_getElem? (i := 106) rfl))) rfl
set_option maxRecDepth 20000 in
theorem ciRX1 : Cond.instantiable RX1 7 ∈ gaTb := ga_tb (List.mem_append_right _ (List.mem_append_left _ (List.mem_of_getElem? (i := 107) rfl))) rfl
set_option maxRecDepth 20000 in
theorem niRX1 : Cond.initialized RX1 ∈ gaTb := ga_tb (List.mem_append_right _ (List.mem_append_left _ (List.mem_of_getElem? (i := 7) rfl))) rfl
set_option maxRecDepth 20000 in
theorem eX5_init_60 : gd cX5_init 60 .dup 1 61 := ⟨by decide +kernel, rfl⟩
set_option maxRecDepth 20000 in
theorem eX5_init_61 : gd cX5_init 61 (.invokespecial 39) 3 64 := ⟨by decide +kernel, rfl⟩
set_option maxRecDepth 20000 in
theorem nRX5_39 : Cond.methodLink RX5 39 yX1_init ∈ gaTb := ga_tb (List.mem_append_right _ (List.mem_append_left _ (List.mem_of_getElem? (i := 108) rfl))) rfl
set_option maxRecDepth 20000 in
theorem eX5_init_64 : gd cX5_init 64 (.putfield 40) 3 67 := ⟨by decide +kernel, rfl⟩
set_option maxRecDepth 20000 in
theorem eX5_init_67 : gd_aload cX5_init 67 0 68 := .inr ⟨0, by decide +kernel, rfl, rfl⟩
set_option maxRecDepth 20000 in
theorem eX5_init_68 : gd cX5_init 68 (.new 44) 3 71 := ⟨by decide +kernel, rfl⟩
set_option maxRecDepth 20000 in
theorem cnRX5_44 : Cond.classLink RX5 44 RX3 ∈ gaTb := ga_tb (List.mem_append_right _ (List.mem_append_left _ (List.mem_of_getElem? (i := 142) rfl))) rfl
set_option maxRecDepth 20000 in
theorem ciRX3 : Cond.instantiable RX3 6 ∈ gaTb := ga_tb (List.mem_append_right _ (List.mem_append_left _ (List.mem_of_getElem? (i := 143) rfl))) rfl
set_option maxRecDepth 20000 in
theorem niRX3 : Cond.initialized RX3 ∈ gaTb := ga_tb (List.mem_append_right _ (List.mem_append_left _ (List.mem_of_getElem? (i := 8) rfl))) rfl
set_option maxRecDepth 20000 in
theorem eX5_init_71 : gd cX5_init 71 .dup 1 72 := ⟨by decide +kernel, rfl⟩
set_option maxRecDepth 20000 in
theorem eX5_init_72 : gd cX5_init 72 (.invokespecial 46) 3 75 := ⟨by decide +kernel, rfl⟩
set_option maxRecDepth 20000 in
theorem nRX5_46 : Cond.methodLink RX5 46 yX3_init ∈ gaTb := ga_tb (List.mem_append_right _ (List.mem_append_left _ (List.mem_of_getElem? (i := 144) rfl))) rfl
set_option maxRecDepth 20000 in
theorem eX5_init_75 : gd cX5_init 75 (.putfield 47) 3 78 := ⟨by decide +kernel, rfl⟩
set_option maxRecDepth 20000 in
theorem eX5_init_78 : gd_aload cX5_init 78 0 79 := .inr ⟨0, by decide +kernel, rfl, rfl⟩
set_option maxRecDepth 20000 in
theorem eX5_init_79 : gd_push cX5_init 79 40 81 := .inr (.inl ⟨by decide +kernel, by decide, rfl⟩)
set_option maxRecDepth 20000 in
theorem eX5_init_81 : gd cX5_init 81 (.newarray .int) 2 83 := ⟨by decide +kernel, rfl⟩
set_option maxRecDepth 20000 in
theorem eX5_init_83 : gd cX5_init 83 (.putfield 51) 3 86 := ⟨by decide +kernel, rfl⟩
set_option maxRecDepth 20000 in
theorem eX5_init_86 : gd_aload cX5_init 86 0 87 := .inr ⟨0, by decide +kernel, rfl, rfl⟩
set_option maxRecDepth 20000 in
theorem eX5_init_87 : gd_push cX5_init 87 24 89 := .inr (.inl ⟨by decide +kernel, by decide, rfl⟩)
set_option maxRecDepth 20000 in
theorem eX5_init_89 : gd cX5_init 89 (.putfield 54) 3 92 := ⟨by decide +kernel, rfl⟩
set_option maxRecDepth 20000 in
theorem eX5_init_92 : gd_aload cX5_init 92 0 93 := .inr ⟨0, by decide +kernel, rfl, rfl⟩
set_option maxRecDepth 20000 in
theorem eX5_init_93 : gd_push cX5_init 93 0 94 := .inl ⟨by decide +kernel, rfl⟩
set_option maxRecDepth 20000 in
theorem eX5_init_94 : gd cX5_init 94 (.putfield 58) 3 97 := ⟨by decide +kernel, rfl⟩
set_option maxRecDepth 20000 in
theorem eX5_init_97 : gd_aload cX5_init 97 0 98 := .inr ⟨0, by decide +kernel, rfl, rfl⟩
set_option maxRecDepth 20000 in
theorem eX5_init_98 : gd_push cX5_init 98 0 99 := .inl ⟨by decide +kernel, rfl⟩
set_option maxRecDepth 20000 in
theorem eX5_init_99 : gd cX5_init 99 (.putfield 61) 3 102 := ⟨by decide +kernel, rfl⟩
set_option maxRecDepth 20000 in
theorem eX5_init_102 : gd cX5_init 102 .return_ 1 103 := ⟨by decide +kernel, rfl⟩
set_option maxRecDepth 20000 in
theorem mX5_init : ga_wm yX5_init cX5_init 1 none 0 := ⟨ga_tb (List.mem_append_right _ (List.mem_append_left _ (List.mem_of_getElem? (i := 21) rfl))) rfl, ga_tb (List.mem_append_right _ (List.mem_append_left _ (List.mem_of_getElem? (i := 1) rfl))) rfl, ⟨by decide, by decide⟩, by decide +kernel, by decide⟩
set_option maxRecDepth 20000 in
theorem iX5_init : Cond.instanceMethod yX5_init ∈ gaTb := ga_tb (List.mem_append_right _ (List.mem_append_left _ (List.mem_of_getElem? (i := 20) rfl))) rfl
set_option maxRecDepth 20000 in
theorem eX6_init_0 : gd_aload cX6_init 0 0 1 := .inr ⟨0, by decide +kernel, rfl, rfl⟩
set_option maxRecDepth 20000 in
theorem eX6_init_1 : gd cX6_init 1 (.invokespecial 10) 3 4 := ⟨by decide +kernel, rfl⟩
set_option maxRecDepth 20000 in
theorem noRX6_10 : Cond.methodLink RX6 10 objectInit ∈ gaTb := ga_tb (List.mem_append_right _ (List.mem_append_right _ (List.mem_append_right _ (List.mem_append_left _ (List.mem_of_getElem? (i := 129) rfl))))) rfl
set_option maxRecDepth 20000 in
theorem eX6_init_4 : gd_aload cX6_init 4 0 5 := .inr ⟨0, by decide +kernel, rfl, rfl⟩
set_option maxRecDepth 20000 in
theorem eX6_init_5 : gd_push cX6_init 5 24 7 := .inr (.inl ⟨by decide +kernel, by decide, rfl⟩)
set_option maxRecDepth 20000 in
theorem eX6_init_7 : gd cX6_init 7 (.putfield 16) 3 10 := ⟨by decide +kernel, rfl⟩
set_option maxRecDepth 20000 in
theorem eX6_init_10 : gd_aload cX6_init 10 0 11 := .inr ⟨0, by decide +kernel, rfl, rfl⟩
set_option maxRecDepth 20000 in
theorem eX6_init_11 : gd_push cX6_init 11 4 12 := .inl ⟨by decide +kernel, rfl⟩
set_option maxRecDepth 20000 in
theorem eX6_init_12 : gd cX6_init 12 (.newarray .int) 2 14 := ⟨by decide +kernel, rfl⟩
set_option maxRecDepth 20000 in
theorem eX6_init_14 : gd cX6_init 14 (.putfield 19) 3 17 := ⟨by decide +kernel, rfl⟩
set_option maxRecDepth 20000 in
theorem eX6_init_17 : gd_aload cX6_init 17 0 18 := .inr ⟨0, by decide +kernel, rfl, rfl⟩
set_option maxRecDepth 20000 in
theorem eX6_init_18 : gd_push cX6_init 18 16 20 := .inr (.inl ⟨by decide +kernel, by decide, rfl⟩)
set_option maxRecDepth 20000 in
theorem eX6_init_20 : gd cX6_init 20 (.newarray .int) 2 22 := ⟨by decide +kernel, rfl⟩
set_option maxRecDepth 20000 in
theorem eX6_init_22 : gd cX6_init 22 (.putfield 23) 3 25 := ⟨by decide +kernel, rfl⟩
set_option maxRecDepth 20000 in
theorem eX6_init_25 : gd_aload cX6_init 25 0 26 := .inr ⟨0, by decide +kernel, rfl, rfl⟩
set_option maxRecDepth 20000 in
theorem eX6_init_26 : gd_push cX6_init 26 1200 29 := .inr (.inr ⟨by decide +kernel, by decide, rfl⟩)
set_option maxRecDepth 20000 in
theorem eX6_init_29 : gd cX6_init 29 (.newarray .int) 2 31 := ⟨by decide +kernel, rfl⟩
set_option maxRecDepth 20000 in
theorem eX6_init_31 : gd cX6_init 31 (.putfield 26) 3 34 := ⟨by decide +kernel, rfl⟩
set_option maxRecDepth 20000 in
theorem eX6_init_34 : gd_aload cX6_init 34 0 35 := .inr ⟨0, by decide +kernel, rfl, rfl⟩
set_option maxRecDepth 20000 in
theorem eX6_init_35 : gd_push cX6_init 35 40 37 := .inr (.inl ⟨by decide +kernel, by decide, rfl⟩)
set_option maxRecDepth 20000 in
theorem eX6_init_37 : gd cX6_init 37 (.newarray .int) 2 39 := ⟨by decide +kernel, rfl⟩
set_option maxRecDepth 20000 in
theorem eX6_init_39 : gd cX6_init 39 (.putfield 29) 3 42 := ⟨by decide +kernel, rfl⟩
set_option maxRecDepth 20000 in
theorem eX6_init_42 : gd_aload cX6_init 42 0 43 := .inr ⟨0, by decide +kernel, rfl, rfl⟩
set_option maxRecDepth 20000 in
theorem eX6_init_43 : gd_push cX6_init 43 40 45 := .inr (.inl ⟨by decide +kernel, by decide, rfl⟩)
set_option maxRecDepth 20000 in
theorem eX6_init_45 : gd cX6_init 45 (.newarray .int) 2 47 := ⟨by decide +kernel, rfl⟩
set_option maxRecDepth 20000 in
theorem eX6_init_47 : gd cX6_init 47 (.putfield 32) 3 50 := ⟨by decide +kernel, rfl⟩
set_option maxRecDepth 20000 in
theorem eX6_init_50 : gd_aload cX6_init 50 0 51 := .inr ⟨0, by decide +kernel, rfl, rfl⟩
set_option maxRecDepth 20000 in
theorem eX6_init_51 : gd_push cX6_init 51 40 53 := .inr (.inl ⟨by decide +kernel, by decide, rfl⟩)
set_option maxRecDepth 20000 in
theorem eX6_init_53 : gd cX6_init 53 (.newarray .int) 2 55 := ⟨by decide +kernel, rfl⟩
set_option maxRecDepth 20000 in
theorem eX6_init_55 : gd cX6_init 55 (.putfield 35) 3 58 := ⟨by decide +kernel, rfl⟩
set_option maxRecDepth 20000 in
theorem eX6_init_58 : gd_aload cX6_init 58 0 59 := .inr ⟨0, by decide +kernel, rfl, rfl⟩
set_option maxRecDepth 20000 in
theorem eX6_init_59 : gd_push cX6_init 59 40 61 := .inr (.inl ⟨by decide +kernel, by decide, rfl⟩)
set_option maxRecDepth 20000 in
theorem eX6_init_61 : gd cX6_init 61 (.newarray .int) 2 63 := ⟨by decide +kernel, rfl⟩
set_option maxRecDepth 20000 in
theorem eX6_init_63 : gd cX6_init 63 (.putfield 38) 3 66 := ⟨by decide +kernel, rfl⟩
set_option maxRecDepth 20000 in
theorem eX6_init_66 : gd_aload cX6_init 66 0 67 := .inr ⟨0, by decide +kernel, rfl, rfl⟩
set_option maxRecDepth 20000 in
theorem eX6_init_67 : gd_push cX6_init 67 40 69 := .inr (.inl ⟨by decide +kernel, by decide, rfl⟩)
set_option maxRecDepth 20000 in
theorem eX6_init_69 : gd cX6_init 69 (.newarray .int) 2 71 := ⟨by decide +kernel, rfl⟩
set_option maxRecDepth 20000 in
theorem eX6_init_71 : gd cX6_init 71 (.putfield 41) 3 74 := ⟨by decide +kernel, rfl⟩
set_option maxRecDepth 20000 in
theorem eX6_init_74 : gd_aload cX6_init 74 0 75 := .inr ⟨0, by decide +kernel, rfl, rfl⟩
set_option maxRecDepth 20000 in
theorem eX6_init_75 : gd_push cX6_init 75 40 77 := .inr (.inl ⟨by decide +kernel, by decide, rfl⟩)
set_option maxRecDepth 20000 in
theorem eX6_init_77 : gd cX6_init 77 (.newarray .int) 2 79 := ⟨by decide +kernel, rfl⟩
set_option maxRecDepth 20000 in
theorem eX6_init_79 : gd cX6_init 79 (.putfield 44) 3 82 := ⟨by decide +kernel, rfl⟩
set_option maxRecDepth 20000 in
theorem eX6_init_82 : gd_aload cX6_init 82 0 83 := .inr ⟨0, by decide +kernel, rfl, rfl⟩
set_option maxRecDepth 20000 in
theorem eX6_init_83 : gd_push cX6_init 83 40 85 := .inr (.inl ⟨by decide +kernel, by decide, rfl⟩)
set_option maxRecDepth 20000 in
theorem eX6_init_85 : gd cX6_init 85 (.newarray .int) 2 87 := ⟨by decide +kernel, rfl⟩
set_option maxRecDepth 20000 in
theorem eX6_init_87 : gd cX6_init 87 (.putfield 47) 3 90 := ⟨by decide +kernel, rfl⟩
set_option maxRecDepth 20000 in
theorem eX6_init_90 : gd_aload cX6_init 90 0 91 := .inr ⟨0, by decide +kernel, rfl, rfl⟩
set_option maxRecDepth 20000 in
theorem eX6_init_91 : gd_push cX6_init 91 40 93 := .inr (.inl ⟨by decide +kernel, by decide, rfl⟩)
set_option maxRecDepth 20000 in
theorem eX6_init_93 : gd cX6_init 93 (.newarray .int) 2 95 := ⟨by decide +kernel, rfl⟩
set_option maxRecDepth 20000 in
theorem eX6_init_95 : gd cX6_init 95 (.putfield 50) 3 98 := ⟨by decide +kernel, rfl⟩
set_option maxRecDepth 20000 in
theorem eX6_init_98 : gd_aload cX6_init 98 0 99 := .inr ⟨0, by decide +kernel, rfl, rfl⟩
set_option maxRecDepth 20000 in
theorem eX6_init_99 : gd_push cX6_init 99 40 101 := .inr (.inl ⟨by decide +kernel, by decide, rfl⟩)
set_option maxRecDepth 20000 in
theorem eX6_init_101 : gd cX6_init 101 (.newarray .int) 2 103 := ⟨by decide +kernel, rfl⟩
set_option maxRecDepth 20000 in
theorem eX6_init_103 : gd cX6_init 103 (.putfield 53) 3 106 := ⟨by decide +kernel, rfl⟩
set_option maxRecDepth 20000 in
theorem eX6_init_106 : gd_aload cX6_init 106 0 107 := .inr ⟨0, by decide +kernel, rfl, rfl⟩
set_option maxRecDepth 20000 in
theorem eX6_init_107 : gd_push cX6_init 107 40 109 := .inr (.inl ⟨by decide +kernel, by decide, rfl⟩)
set_option maxRecDepth 20000 in
theorem eX6_init_109 : gd cX6_init 109 (.newarray .int) 2 111 := ⟨by decide +kernel, rfl⟩
set_option maxRecDepth 20000 in
theorem eX6_init_111 : gd cX6_init 111 (.putfield 56) 3 114 := ⟨by decide +kernel, rfl⟩
set_option maxRecDepth 20000 in
theorem eX6_init_114 : gd_aload cX6_init 114 0 115 := .inr ⟨0, by decide +kernel, rfl, rfl⟩
set_option maxRecDepth 20000 in
theorem eX6_init_115 : gd_push cX6_init 115 1200 118 := .inr (.inr ⟨by decide +kernel, by decide, rfl⟩)
set_option maxRecDepth 20000 in
theorem eX6_init_118 : gd cX6_init 118 (.newarray .int) 2 120 := ⟨by decide +kernel, rfl⟩
set_option maxRecDepth 20000 in
theorem eX6_init_120 : gd cX6_init 120 (.putfield 59) 3 123 := ⟨by decide +kernel, rfl⟩
set_option maxRecDepth 20000 in
theorem eX6_init_123 : gd_aload cX6_init 123 0 124 := .inr ⟨0, by decide +kernel, rfl, rfl⟩
set_option maxRecDepth 20000 in
theorem eX6_init_124 : gd_push cX6_init 124 40 126 := .inr (.inl ⟨by decide +kernel, by decide, rfl⟩)
set_option maxRecDepth 20000 in
theorem eX6_init_126 : gd cX6_init 126 (.newarray .int) 2 128 := ⟨by decide +kernel, rfl⟩
set_option maxRecDepth 20000 in
theorem eX6_init_128 : gd cX6_init 128 (.putfield 62) 3 131 := ⟨by decide +kernel, rfl⟩
set_option maxRecDepth 20000 in
theorem eX6_init_131 : gd_aload cX6_init 131 0 132 := .inr ⟨0, by decide +kernel, rfl, rfl⟩
set_option maxRecDepth 20000 in
theorem eX6_init_132 : gd_push cX6_init 132 40 134 := .inr (.inl ⟨by decide +kernel, by decide, rfl⟩)
set_option maxRecDepth 20000 in
theorem eX6_init_134 : gd cX6_init 134 (.newarray .int) 2 136 := ⟨by decide +kernel, rfl⟩
set_option maxRecDepth 20000 in
theorem eX6_init_136 : gd cX6_init 136 (.putfield 65) 3 139 := ⟨by decide +kernel, rfl⟩
set_option maxRecDepth 20000 in
theorem eX6_init_139 : gd_aload cX6_init 139 0 140 := .inr ⟨0, by decide +kernel, rfl, rfl⟩
set_option maxRecDepth 20000 in
theorem eX6_init_140 : gd_push cX6_init 140 40 142 := .inr (.inl ⟨by decide +kernel, by decide, rfl⟩)
set_option maxRecDepth 20000 in
theorem eX6_init_142 : gd cX6_init 142 (.newarray .int) 2 144 := ⟨by decide +kernel, rfl⟩
set_option maxRecDepth 20000 in
theorem eX6_init_144 : gd cX6_init 144 (.putfield 68) 3 147 := ⟨by decide +kernel, rfl⟩
set_option maxRecDepth 20000 in
theorem eX6_init_147 : gd_aload cX6_init 147 0 148 := .inr ⟨0, by decide +kernel, rfl, rfl⟩
set_option maxRecDepth 20000 in
theorem eX6_init_148 : gd_push cX6_init 148 40 150 := .inr (.inl ⟨by decide +kernel, by decide, rfl⟩)
set_option maxRecDepth 20000 in
theorem eX6_init_150 : gd cX6_init 150 (.newarray .int) 2 152 := ⟨by decide +kernel, rfl⟩
set_option maxRecDepth 20000 in
theorem eX6_init_152 : gd cX6_init 152 (.putfield 71) 3 155 := ⟨by decide +kernel, rfl⟩
set_option maxRecDepth 20000 in
theorem eX6_init_155 : gd_aload cX6_init 155 0 156 := .inr ⟨0, by decide +kernel, rfl, rfl⟩
set_option maxRecDepth 20000 in
theorem eX6_init_156 : gd_push cX6_init 156 40 158 := .inr (.inl ⟨by decide +kernel, by decide, rfl⟩)
set_option maxRecDepth 20000 in
theorem eX6_init_158 : gd cX6_init 158 (.newarray .int) 2 160 := ⟨by decide +kernel, rfl⟩
set_option maxRecDepth 20000 in
theorem eX6_init_160 : gd cX6_init 160 (.putfield 74) 3 163 := ⟨by decide +kernel, rfl⟩
set_option maxRecDepth 20000 in
theorem eX6_init_163 : gd_aload cX6_init 163 0 164 := .inr ⟨0, by decide +kernel, rfl, rfl⟩
set_option maxRecDepth 20000 in
theorem eX6_init_164 : gd_push cX6_init 164 40 166 := .inr (.inl ⟨by decide +kernel, by decide, rfl⟩)
set_option maxRecDepth 20000 in
theorem eX6_init_166 : gd cX6_init 166 (.newarray .int) 2 168 := ⟨by decide +kernel, rfl⟩
set_option maxRecDepth 20000 in
theorem eX6_init_168 : gd cX6_init 168 (.putfield 77) 3 171 := ⟨by decide +kernel, rfl⟩
set_option maxRecDepth 20000 in
theorem eX6_init_171 : gd_aload cX6_init 171 0 172 := .inr ⟨0, by decide +kernel, rfl, rfl⟩
set_option maxRecDepth 20000 in
theorem eX6_init_172 : gd_push cX6_init 172 40 174 := .inr (.inl ⟨by decide +kernel, by decide, rfl⟩)
set_option maxRecDepth 20000 in
theorem eX6_init_174 : gd cX6_init 174 (.newarray .int) 2 176 := ⟨by decide +kernel, rfl⟩
set_option maxRecDepth 20000 in
theorem eX6_init_176 : gd cX6_init 176 (.putfield 80) 3 179 := ⟨by decide +kernel, rfl⟩
set_option maxRecDepth 20000 in
theorem eX6_init_179 : gd_aload cX6_init 179 0 180 := .inr ⟨0, by decide +kernel, rfl, rfl⟩
set_option maxRecDepth 20000 in
theorem eX6_init_180 : gd_push cX6_init 180 6 182 := .inr (.inl ⟨by decide +kernel, by decide, rfl⟩)
set_option maxRecDepth 20000 in
theorem eX6_init_182 : gd cX6_init 182 (.newarray .boolean) 2 184 := ⟨by decide +kernel, rfl⟩
set_option maxRecDepth 20000 in
theorem eX6_init_184 : gd cX6_init 184 (.putfield 83) 3 187 := ⟨by decide +kernel, rfl⟩
set_option maxRecDepth 20000 in
theorem eX6_init_187 : gd_aload cX6_init 187 0 188 := .inr ⟨0, by decide +kernel, rfl, rfl⟩
set_option maxRecDepth 20000 in
theorem eX6_init_188 : gd_push cX6_init 188 (-1) 189 := .inl ⟨by decide +kernel, rfl⟩
set_option maxRecDepth 20000 in
theorem eX6_init_189 : gd cX6_init 189 (.putfield 87) 3 192 := ⟨by decide +kernel, rfl⟩
set_option maxRecDepth 20000 in
theorem eX6_init_192 : gd_aload cX6_init 192 0 193 := .inr ⟨0, by decide +kernel, rfl, rfl⟩
set_option maxRecDepth 20000 in
theorem eX6_init_193 : gd_push cX6_init 193 3 194 := .inl ⟨by decide +kernel, rfl⟩
set_option maxRecDepth 20000 in
theorem eX6_init_194 : gd cX6_init 194 (.newarray .int) 2 196 := ⟨by decide +kernel, rfl⟩
set_option maxRecDepth 20000 in
theorem eX6_init_196 : gd cX6_init 196 (.putfield 90) 3 199 := ⟨by decide +kernel, rfl⟩
set_option maxRecDepth 20000 in
theorem eX6_init_199 : gd_aload cX6_init 199 0 200 := .inr ⟨0, by decide +kernel, rfl, rfl⟩
set_option maxRecDepth 20000 in
theorem eX6_init_200 : gd_push cX6_init 200 3 201 := .inl ⟨by decide +kernel, rfl⟩
set_option maxRecDepth 20000 in
theorem eX6_init_201 : gd cX6_init 201 (.newarray .int) 2 203 := ⟨by decide +kernel, rfl⟩
set_option maxRecDepth 20000 in
theorem eX6_init_203 : gd cX6_init 203 (.putfield 93) 3 206 := ⟨by decide +kernel, rfl⟩
set_option maxRecDepth 20000 in
theorem eX6_init_206 : gd_aload cX6_init 206 0 207 := .inr ⟨0, by decide +kernel, rfl, rfl⟩
set_option maxRecDepth 20000 in
theorem eX6_init_207 : gd_push cX6_init 207 3600 210 := .inr (.inr ⟨by decide +kernel, by decide, rfl⟩)
set_option maxRecDepth 20000 in
theorem eX6_init_210 : gd cX6_init 210 (.newarray .int) 2 212 := ⟨by decide +kernel, rfl⟩
set_option maxRecDepth 20000 in
theorem eX6_init_212 : gd cX6_init 212 (.putfield 96) 3 215 := ⟨by decide +kernel, rfl⟩
set_option maxRecDepth 20000 in
theorem eX6_init_215 : gd_aload cX6_init 215 0 216 := .inr ⟨0, by decide +kernel, rfl, rfl⟩
set_option maxRecDepth 20000 in
theorem eX6_init_216 : gd_push cX6_init 216 4 217 := .inl ⟨by decide +kernel, rfl⟩
set_option maxRecDepth 20000 in
theorem eX6_init_217 : gd cX6_init 217 (.newarray .int) 2 219 := ⟨by decide +kernel, rfl⟩
set_option maxRecDepth 20000 in
theorem eX6_init_219 : gd cX6_init 219 (.putfield 99) 3 222 := ⟨by decide +kernel, rfl⟩
set_option maxRecDepth 20000 in
theorem eX6_init_222 : gd_push cX6_init 222 0 223 := .inl ⟨by decide +kernel, rfl⟩
set_option maxRecDepth 20000 in
theorem eX6_init_223 : gd_istore cX6_init 223 1 224 := .inr ⟨1, by decide +kernel, rfl, rfl⟩
set_option maxRecDepth 20000 in
theorem eX6_init_224 : gd_iload cX6_init 224 1 225 := .inr ⟨1, by decide +kernel, rfl, rfl⟩
set_option maxRecDepth 20000 in
theorem eX6_init_225 : gd_push cX6_init 225 1200 228 := .inr (.inr ⟨by decide +kernel, by decide, rfl⟩)
set_option maxRecDepth 20000 in
theorem eX6_init_228 : gd_b cX6_init 228 (.if_icmp .ge) 246 231 := ⟨18, by decide +kernel, by decide, rfl⟩
set_option maxRecDepth 20000 in
theorem eX6_init_231 : gd_aload cX6_init 231 0 232 := .inr ⟨0, by decide +kernel, rfl, rfl⟩
set_option maxRecDepth 20000 in
theorem eX6_init_232 : gd cX6_init 232 (.getfield 26) 3 235 := ⟨by decide +kernel, rfl⟩
set_option maxRecDepth 20000 in
theorem eX6_init_235 : gd_iload cX6_init 235 1 236 := .inr ⟨1, by decide +kernel, rfl, rfl⟩
set_option maxRecDepth 20000 in
theorem eX6_init_236 : gd_push cX6_init 236 500 239 := .inr (.inr ⟨by decide +kernel, by decide, rfl⟩)
set_option maxRecDepth 20000 in
theorem eX6_init_239 : gd cX6_init 239 .iastore 1 240 := ⟨by decide +kernel, rfl⟩
set_option maxRecDepth 20000 in
theorem eX6_init_240 : gd cX6_init 240 (.iinc 1 1) 3 243 := ⟨by decide +kernel, rfl⟩
set_option maxRecDepth 20000 in
theorem eX6_init_243 : gd_b cX6_init 243 .goto 224 246 := ⟨(-19), by decide +kernel, by decide, rfl⟩
set_option maxRecDepth 20000 in
theorem eX6_init_246 : gd_push cX6_init 246 0 247 := .inl ⟨by decide +kernel, rfl⟩
set_option maxRecDepth 20000 in
theorem eX6_init_247 : gd_istore cX6_init 247 1 248 := .inr ⟨1, by decide +kernel, rfl, rfl⟩
set_option maxRecDepth 20000 in
theorem eX6_init_248 : gd_iload cX6_init 248 1 249 := .inr ⟨1, by decide +kernel, rfl, rfl⟩
set_option maxRecDepth 20000 in
theorem eX6_init_249 : gd_push cX6_init 249 4 250 := .inl ⟨by decide +kernel, rfl⟩
set_option maxRecDepth 20000 in
theorem eX6_init_250 : gd_b cX6_init 250 (.if_icmp .ge) 292 253 := ⟨42, by decide +kernel, by decide, rfl⟩
set_option maxRecDepth 20000 in
theorem eX6_init_253 : gd_push cX6_init 253 0 254 := .inl ⟨by decide +kernel, rfl⟩
set_option maxRecDepth 20000 in
theorem eX6_init_254 : gd_istore cX6_init 254 2 255 := .inr ⟨2, by decide +kernel, rfl, rfl⟩
set_option maxRecDepth 20000 in
theorem eX6_init_255 : gd_iload cX6_init 255 2 256 := .inr ⟨2, by decide +kernel, rfl, rfl⟩
set_option maxRecDepth 20000 in
theorem eX6_init_256 : gd_push cX6_init 256 4 257 := .inl ⟨by decide +kernel, rfl⟩
set_option maxRecDepth 20000 in
theorem eX6_init_257 : gd_b cX6_init 257 (.if_icmp .ge) 286 260 := ⟨29, by decide +kernel, by decide, rfl⟩
set_option maxRecDepth 20000 in
theorem eX6_init_260 : gd_aload cX6_init 260 0 261 := .inr ⟨0, by decide +kernel, rfl, rfl⟩
set_option maxRecDepth 20000 in
theorem eX6_init_261 : gd cX6_init 261 (.getfield 23) 3 264 := ⟨by decide +kernel, rfl⟩
set_option maxRecDepth 20000 in
theorem eX6_init_264 : gd_push cX6_init 264 4 265 := .inl ⟨by decide +kernel, rfl⟩
set_option maxRecDepth 20000 in
theorem eX6_init_265 : gd_iload cX6_init 265 1 266 := .inr ⟨1, by decide +kernel, rfl, rfl⟩
set_option maxRecDepth 20000 in
theorem eX6_init_266 : gd cX6_init 266 .imul 1 267 := ⟨by decide +kernel, rfl⟩
set_option maxRecDepth 20000 in
theorem eX6_init_267 : gd_iload cX6_init 267 2 268 := .inr ⟨2, by decide +kernel, rfl, rfl⟩
set_option maxRecDepth 20000 in
theorem eX6_init_268 : gd cX6_init 268 .iadd 1 269 := ⟨by decide +kernel, rfl⟩
set_option maxRecDepth 20000 in
theorem eX6_init_269 : gd_iload cX6_init 269 1 270 := .inr ⟨1, by decide +kernel, rfl, rfl⟩
set_option maxRecDepth 20000 in
theorem eX6_init_270 : gd_iload cX6_init 270 2 271 := .inr ⟨2, by decide +kernel, rfl, rfl⟩
set_option maxRecDepth 20000 in
theorem eX6_init_271 : gd_b cX6_init 271 (.if_icmp .ne) 278 274 := ⟨7, by decide +kernel, by decide, rfl⟩
set_option maxRecDepth 20000 in
theorem eX6_init_274 : gd_push cX6_init 274 0 275 := .inl ⟨by decide +kernel, rfl⟩
set_option maxRecDepth 20000 in
theorem eX6_init_275 : gd_b cX6_init 275 .goto 279 278 := ⟨4, by decide +kernel, by decide, rfl⟩
set_option maxRecDepth 20000 in
theorem eX6_init_278 : gd_push cX6_init 278 1 279 := .inl ⟨by decide +kernel, rfl⟩
set_option maxRecDepth 20000 in
theorem eX6_init_279 : gd cX6_init 279 .iastore 1 280 := ⟨by decide +kernel, rfl⟩
set_option maxRecDepth 20000 in
theorem eX6_init_280 : gd cX6_init 280 (.iinc 2 1) 3 283 := ⟨by decide +kernel, rfl⟩
set_option maxRecDepth 20000 in
theorem eX6_init_283 : gd_b cX6_init 283 .goto 255 286 := ⟨(-28), by decide +kernel, by decide, rfl⟩
set_option maxRecDepth 20000 in
theorem eX6_init_286 : gd cX6_init 286 (.iinc 1 1) 3 289 := ⟨by decide +kernel, rfl⟩
set_option maxRecDepth 20000 in
theorem eX6_init_289 : gd_b cX6_init 289 .goto 248 292 := ⟨(-41), by decide +kernel, by decide, rfl⟩
set_option maxRecDepth 20000 in
theorem eX6_init_292 : gd cX6_init 292 .return_ 1 293 := ⟨by decide +kernel, rfl⟩
set_option maxRecDepth 20000 in
theorem mX6_init : ga_wm yX6_init cX6_init 3 none 0 := ⟨ga_tb (List.mem_append_right _ (List.mem_append_right _ (List.mem_append_right _ (List.mem_append_left _ (List.mem_of_getElem? (i := 128) rfl))))) rfl, ga_tb (List.mem_append_right _ (List.mem_append_left _ (List.mem_of_getElem? (i := 9) rfl))) rfl, ⟨by decide, by decide⟩, by decide +kernel, by decide⟩
set_option maxRecDepth 20000 in
theorem iX6_init : Cond.instanceMethod yX6_init ∈ gaTb := ga_tb (List.mem_append_right _ (List.mem_append_right _ (List.mem_append_right _ (List.mem_append_left _ (List.mem_of_getElem? (i := 127) rfl))))) rfl
set_option maxRecDepth 20000 in
theorem eJx4a65c_init_da8c8_0 : gd_aload cJx4a65c_init_da8c8 0 0 1 := .inr ⟨0, by decide +kernel, rfl, rfl⟩
set_option maxRecDepth 20000 in
theorem eJx4a65c_init_da8c8_1 : gd cJx4a65c_init_da8c8 1 (.invokespecial 1) 3 4 := ⟨by decide +kernel, rfl⟩
set_option maxRecDepth 20000 in
theorem nRJx4a65c_1 : Cond.methodLink RJx4a65c 1 yJxc12de_init_da8c8 ∈ gaTb := ga_tb (List.mem_append_right _ (List.mem_append_left _ (List.mem_of_getElem? (i := 59) rfl))) rfl
set_option maxRecDepth 20000 in
theorem eJx4a65c_init_da8c8_4 : gd_aload cJx4a65c_init_da8c8 4 0 5 := .inr ⟨0, by decide +kernel, rfl, rfl⟩
set_option maxRecDepth 20000 in
theorem eJx4a65c_init_da8c8_5 : gd cJx4a65c_init_da8c8 5 (.getstatic 39) 3 8 := ⟨by decide +kernel, rfl⟩
set_option maxRecDepth 20000 in
theorem eJx4a65c_init_da8c8_8 : gd cJx4a65c_init_da8c8 8 (.putfield 9) 3 11 := ⟨by decide +kernel, rfl⟩
set_option maxRecDepth 20000 in
theorem eJx4a65c_init_da8c8_11 : gd cJx4a65c_init_da8c8 11 .return_ 1 12 := ⟨by decide +kernel, rfl⟩
set_option maxRecDepth 20000 in
theorem mJx4a65c_init_da8c8 : ga_wm yJx4a65c_init_da8c8 cJx4a65c_init_da8c8 1 none 0 := ⟨ga_tb (List.mem_append_right _ (List.mem_append_left _ (List.mem_of_getElem? (i := 58) rfl))) rfl, ga_tb (List.mem_append_right _ (List.mem_append_left _ (List.mem_of_getElem? (i := 5) rfl))) rfl, ⟨by decide, by decide⟩, by decide +kernel, by decide⟩
set_option maxRecDepth 20000 in
theorem iJx4a65c_init_da8c8 : Cond.instanceMethod yJx4a65c_init_da8c8 ∈ gaTb := ga_tb (List.mem_append_right _ (List.mem_append_left _ (List.mem_of_getElem? (i := 57) rfl))) rfl
set_option maxRecDepth 20000 in
theorem eJxc12de_init_da8c8_0 : gd_aload cJxc12de_init_da8c8 0 0 1 := .inr ⟨0, by decide +kernel, rfl, rfl⟩
set_option maxRecDepth 20000 in
theorem eJxc12de_init_da8c8_1 : gd cJxc12de_init_da8c8 1 (.invokespecial 1) 3 4 := ⟨by decide +kernel, rfl⟩
set_option maxRecDepth 20000 in
theorem nRJxc12de_1 : Cond.methodLink RJxc12de 1 yJxa1e45_init_da8c8 ∈ gaTb := ga_tb (List.mem_append_right _ (List.mem_append_left _ (List.mem_of_getElem? (i := 62) rfl))) rfl
set_option maxRecDepth 20000 in
theorem eJxc12de_init_da8c8_4 : gd_aload cJxc12de_init_da8c8 4 0 5 := .inr ⟨0, by decide +kernel, rfl, rfl⟩
set_option maxRecDepth 20000 in
theorem eJxc12de_init_da8c8_5 : gd_push cJxc12de_init_da8c8 5 0 6 := .inl ⟨by decide +kernel, rfl⟩
set_option maxRecDepth 20000 in
theorem eJxc12de_init_da8c8_6 : gd cJxc12de_init_da8c8 6 (.putfield 7) 3 9 := ⟨by decide +kernel, rfl⟩
set_option maxRecDepth 20000 in
theorem lRJxc12de_7 : ga_fld RJxc12de 7 7 0 := ⟨(RJx4a65c, TJx4a65c, 3), "java/util/AbstractList", rfl, by decide, ga_tb (List.mem_append_right _ (List.mem_append_left _ (List.mem_of_getElem? (i := 70) rfl))) rfl, .inl rfl⟩
set_option maxRecDepth 20000 in
theorem eJxc12de_init_da8c8_9 : gd cJxc12de_init_da8c8 9 .return_ 1 10 := ⟨by decide +kernel, rfl⟩
set_option maxRecDepth 20000 in
theorem mJxc12de_init_da8c8 : ga_wm yJxc12de_init_da8c8 cJxc12de_init_da8c8 1 none 0 := ⟨ga_tb (List.mem_append_right _ (List.mem_append_left _ (List.mem_of_getElem? (i := 61) rfl))) rfl, ga_tb (List.mem_append_right _ (List.mem_append_left _ (List.mem_of_getElem? (i := 4) rfl))) rfl, ⟨by decide, by decide⟩, by decide +kernel, by decide⟩
set_option maxRecDepth 20000 in
theorem iJxc12de_init_da8c8 : Cond.instanceMethod yJxc12de_init_da8c8 ∈ gaTb := ga_tb (List.mem_append_right _ (List.mem_append_left _ (List.mem_of_getElem? (i := 60) rfl))) rfl
set_option maxRecDepth 20000 in
theorem eJxa1e45_init_da8c8_0 : gd_aload cJxa1e45_init_da8c8 0 0 1 := .inr ⟨0, by decide +kernel, rfl, rfl⟩
set_option maxRecDepth 20000 in
theorem eJxa1e45_init_da8c8_1 : gd cJxa1e45_init_da8c8 1 (.invokespecial 1) 3 4 := ⟨by decide +kernel, rfl⟩
set_option maxRecDepth 20000 in
theorem noRJxa1e45_1 : Cond.methodLink RJxa1e45 1 objectInit ∈ gaTb := ga_tb (List.mem_append_right _ (List.mem_append_left _ (List.mem_of_getElem? (i := 65) rfl))) rfl
set_option maxRecDepth 20000 in
theorem eJxa1e45_init_da8c8_4 : gd cJxa1e45_init_da8c8 4 .return_ 1 5 := ⟨by decide +kernel, rfl⟩
set_option maxRecDepth 20000 in
theorem mJxa1e45_init_da8c8 : ga_wm yJxa1e45_init_da8c8 cJxa1e45_init_da8c8 1 none 0 := ⟨ga_tb (List.mem_append_right _ (List.mem_append_left _ (List.mem_of_getElem? (i := 64) rfl))) rfl, ga_tb (List.mem_append_right _ (List.mem_append_left _ (List.mem_of_getElem? (i := 3) rfl))) rfl, ⟨by decide, by decide⟩, by decide +kernel, by decide⟩
set_option maxRecDepth 20000 in
theorem iJxa1e45_init_da8c8 : Cond.instanceMethod yJxa1e45_init_da8c8 ∈ gaTb := ga_tb (List.mem_append_right _ (List.mem_append_left _ (List.mem_of_getElem? (i := 63) rfl))) rfl
set_option maxRecDepth 20000 in
theorem eX5_job_0 : gd_aload cX5_job 0 0 1 := .inr ⟨0, by decide +kernel, rfl, rfl⟩
set_option maxRecDepth 20000 in
theorem eX5_job_1 : gd_aload cX5_job 1 0 2 := .inr ⟨0, by decide +kernel, rfl, rfl⟩
set_option maxRecDepth 20000 in
theorem eX5_job_2 : gd_iload cX5_job 2 1 3 := .inr ⟨1, by decide +kernel, rfl, rfl⟩
set_option maxRecDepth 20000 in
theorem eX5_job_3 : gd_iload cX5_job 3 2 4 := .inr ⟨2, by decide +kernel, rfl, rfl⟩
set_option maxRecDepth 20000 in
theorem eX5_job_4 : gd_iload cX5_job 4 3 5 := .inr ⟨3, by decide +kernel, rfl, rfl⟩
set_option maxRecDepth 20000 in
theorem eX5_job_5 : gd_iload cX5_job 5 4 7 := .inl ⟨by decide +kernel, rfl⟩
set_option maxRecDepth 20000 in
theorem eX5_job_7 : gd_iload cX5_job 7 5 9 := .inl ⟨by decide +kernel, rfl⟩
set_option maxRecDepth 20000 in
theorem eX5_job_9 : gd_iload cX5_job 9 6 11 := .inl ⟨by decide +kernel, rfl⟩
set_option maxRecDepth 20000 in
theorem eX5_job_11 : gd cX5_job 11 (.invokevirtual 97) 3 14 := ⟨by decide +kernel, rfl⟩
set_option maxRecDepth 20000 in
theorem nRX5_97 : Cond.methodLink RX5 97 yX5_troubleOfJob ∈ gaTb := ga_tb (List.mem_append_right _ (List.mem_append_right _ (List.mem_append_left _ (List.mem_of_getElem? (i := 9) rfl)))) rfl
set_option maxRecDepth 20000 in
theorem eX5_job_14 : gd cX5_job 14 (.putfield 61) 3 17 := ⟨by decide +kernel, rfl⟩
set_option maxRecDepth 20000 in
theorem eX5_job_17 : gd_aload cX5_job 17 0 18 := .inr ⟨0, by decide +kernel, rfl, rfl⟩
set_option maxRecDepth 20000 in
theorem eX5_job_18 : gd cX5_job 18 (.getfield 61) 3 21 := ⟨by decide +kernel, rfl⟩
set_option maxRecDepth 20000 in
theorem eX5_job_21 : gd_b cX5_job 21 (.ifCond .eq) 26 24 := ⟨5, by decide +kernel, by decide, rfl⟩
set_option maxRecDepth 20000 in
theorem eX5_job_24 : gd_push cX5_job 24 (-1) 25 := .inl ⟨by decide +kernel, rfl⟩
set_option maxRecDepth 20000 in
theorem eX5_job_25 : gd cX5_job 25 .ireturn 1 26 := ⟨by decide +kernel, rfl⟩
set_option maxRecDepth 20000 in
theorem eX5_job_26 : gd_aload cX5_job 26 0 27 := .inr ⟨0, by decide +kernel, rfl, rfl⟩
set_option maxRecDepth 20000 in
theorem eX5_job_27 : gd cX5_job 27 (.getfield 19) 3 30 := ⟨by decide +kernel, rfl⟩
set_option maxRecDepth 20000 in
theorem eX5_job_30 : gd cX5_job 30 (.new 101) 3 33 := ⟨by decide +kernel, rfl⟩
set_option maxRecDepth 20000 in
theorem cnRX5_101 : Cond.classLink RX5 101 RX4 ∈ gaTb := ga_tb (List.mem_append_right _ (List.mem_append_right _ (List.mem_append_left _ (List.mem_of_getElem? (i := 17) rfl)))) rfl
set_option maxRecDepth 20000 in
theorem ciRX4 : Cond.instantiable RX4 10 ∈ gaTb := ga_tb (List.mem_append_right _ (List.mem_append_right _ (List.mem_append_left _ (List.mem_of_getElem? (i := 18) rfl)))) rfl
set_option maxRecDepth 20000 in
theorem niRX4 : Cond.initialized RX4 ∈ gaTb := ga_tb (List.mem_append_right _ (List.mem_append_left _ (List.mem_of_getElem? (i := 10) rfl))) rfl
set_option maxRecDepth 20000 in
theorem eX5_job_33 : gd cX5_job 33 .dup 1 34 := ⟨by decide +kernel, rfl⟩
set_option maxRecDepth 20000 in
theorem eX5_job_34 : gd_iload cX5_job 34 1 35 := .inr ⟨1, by decide +kernel, rfl, rfl⟩
set_option maxRecDepth 20000 in
theorem eX5_job_35 : gd_iload cX5_job 35 2 36 := .inr ⟨2, by decide +kernel, rfl, rfl⟩
set_option maxRecDepth 20000 in
theorem eX5_job_36 : gd_iload cX5_job 36 3 37 := .inr ⟨3, by decide +kernel, rfl, rfl⟩
set_option maxRecDepth 20000 in
theorem eX5_job_37 : gd_iload cX5_job 37 4 39 := .inl ⟨by decide +kernel, rfl⟩
set_option maxRecDepth 20000 in
theorem eX5_job_39 : gd_iload cX5_job 39 5 41 := .inl ⟨by decide +kernel, rfl⟩
set_option maxRecDepth 20000 in
theorem eX5_job_41 : gd_iload cX5_job 41 6 43 := .inl ⟨by decide +kernel, rfl⟩
set_option maxRecDepth 20000 in
theorem eX5_job_43 : gd cX5_job 43 (.invokespecial 103) 3 46 := ⟨by decide +kernel, rfl⟩
set_option maxRecDepth 20000 in
theorem nRX5_103 : Cond.methodLink RX5 103 yX4_init ∈ gaTb := ga_tb (List.mem_append_right _ (List.mem_append_right _ (List.mem_append_left _ (List.mem_of_getElem? (i := 19) rfl)))) rfl
set_option maxRecDepth 20000 in
theorem eX5_job_46 : gd cX5_job 46 (.invokevirtual 106) 3 49 := ⟨by decide +kernel, rfl⟩
set_option maxRecDepth 20000 in
theorem nRX5_106 : Cond.methodLink RX5 106 yJx4a65c_add_9ea2d ∈ gaTb := ga_tb (List.mem_append_right _ (List.mem_append_right _ (List.mem_append_left _ (List.mem_of_getElem? (i := 68) rfl)))) rfl
set_option maxRecDepth 20000 in
theorem eX5_job_49 : gd cX5_job 49 .pop 1 50 := ⟨by decide +kernel, rfl⟩
set_option maxRecDepth 20000 in
theorem eX5_job_50 : gd_aload cX5_job 50 0 51 := .inr ⟨0, by decide +kernel, rfl, rfl⟩
set_option maxRecDepth 20000 in
theorem eX5_job_51 : gd cX5_job 51 (.getfield 19) 3 54 := ⟨by decide +kernel, rfl⟩
set_option maxRecDepth 20000 in
theorem eX5_job_54 : gd cX5_job 54 (.invokevirtual 109) 3 57 := ⟨by decide +kernel, rfl⟩
set_option maxRecDepth 20000 in
theorem eX5_job_57 : gd_push cX5_job 57 1 58 := .inl ⟨by decide +kernel, rfl⟩
set_option maxRecDepth 20000 in
theorem eX5_job_58 : gd cX5_job 58 .isub 1 59 := ⟨by decide +kernel, rfl⟩
set_option maxRecDepth 20000 in
theorem eX5_job_59 : gd cX5_job 59 .ireturn 1 60 := ⟨by decide +kernel, rfl⟩
set_option maxRecDepth 20000 in
theorem mX5_job : ga_wm yX5_job cX5_job 7 (some .int) 6 := ⟨ga_tb (List.mem_append_right _ (List.mem_append_right _ (List.mem_append_left _ (List.mem_of_getElem? (i := 8) rfl)))) rfl, ga_tb (List.mem_append_right _ (List.mem_append_left _ (List.mem_of_getElem? (i := 1) rfl))) rfl, ⟨by decide, by decide⟩, by decide +kernel, by decide⟩
set_option maxRecDepth 20000 in
theorem iX5_job : Cond.instanceMethod yX5_job ∈ gaTb := ga_tb (List.mem_append_right _ (List.mem_append_right _ (List.mem_append_left _ (List.mem_of_getElem? (i := 6) rfl)))) rfl
set_option maxRecDepth 20000 in
theorem eJx4a65c_add_9ea2d_0 : gd_aload cJx4a65c_add_9ea2d 0 0 1 := .inr ⟨0, by decide +kernel, rfl, rfl⟩
set_option maxRecDepth 20000 in
theorem eJx4a65c_add_9ea2d_1 : gd cJx4a65c_add_9ea2d 1 .dup 1 2 := ⟨by decide +kernel, rfl⟩
set_option maxRecDepth 20000 in
theorem eJx4a65c_add_9ea2d_2 : gd cJx4a65c_add_9ea2d 2 (.getfield 63) 3 5 := ⟨by decide +kernel, rfl⟩
set_option maxRecDepth 20000 in
theorem lRJx4a65c_63 : ga_fld RJx4a65c 63 7 0 := ⟨(RJx4a65c, TJx4a65c, 3), "java/util/ArrayList", rfl, by decide, ga_tb (List.mem_append_right _ (List.mem_append_left _ (List.mem_of_getElem? (i := 71) rfl))) rfl, .inr (ga_tb (List.mem_append_right _ (List.mem_append_left _ (List.mem_of_getElem? (i := 72) rfl))) rfl)⟩
set_option maxRecDepth 20000 in
theorem eJx4a65c_add_9ea2d_5 : gd_push cJx4a65c_add_9ea2d 5 1 6 := .inl ⟨by decide +kernel, rfl⟩
set_option maxRecDepth 20000 in
theorem eJx4a65c_add_9ea2d_6 : gd cJx4a65c_add_9ea2d 6 .iadd 1 7 := ⟨by decide +kernel, rfl⟩
set_option maxRecDepth 20000 in
theorem eJx4a65c_add_9ea2d_7 : gd cJx4a65c_add_9ea2d 7 (.putfield 63) 3 10 := ⟨by decide +kernel, rfl⟩
set_option maxRecDepth 20000 in
theorem eJx4a65c_add_9ea2d_10 : gd_aload cJx4a65c_add_9ea2d 10 0 11 := .inr ⟨0, by decide +kernel, rfl, rfl⟩
set_option maxRecDepth 20000 in
theorem eJx4a65c_add_9ea2d_11 : gd_aload cJx4a65c_add_9ea2d 11 1 12 := .inr ⟨1, by decide +kernel, rfl, rfl⟩
set_option maxRecDepth 20000 in
theorem eJx4a65c_add_9ea2d_12 : gd_aload cJx4a65c_add_9ea2d 12 0 13 := .inr ⟨0, by decide +kernel, rfl, rfl⟩
set_option maxRecDepth 20000 in
theorem eJx4a65c_add_9ea2d_13 : gd cJx4a65c_add_9ea2d 13 (.getfield 9) 3 16 := ⟨by decide +kernel, rfl⟩
set_option maxRecDepth 20000 in
theorem eJx4a65c_add_9ea2d_16 : gd_aload cJx4a65c_add_9ea2d 16 0 17 := .inr ⟨0, by decide +kernel, rfl, rfl⟩
set_option maxRecDepth 20000 in
theorem eJx4a65c_add_9ea2d_17 : gd cJx4a65c_add_9ea2d 17 (.getfield 48) 3 20 := ⟨by decide +kernel, rfl⟩
set_option maxRecDepth 20000 in
theorem eJx4a65c_add_9ea2d_20 : gd cJx4a65c_add_9ea2d 20 (.invokevirtual 131) 3 23 := ⟨by decide +kernel, rfl⟩
set_option maxRecDepth 20000 in
theorem nRJx4a65c_131 : Cond.methodLink RJx4a65c 131 yJx4a65c_add_72be8 ∈ gaTb := ga_tb (List.mem_append_right _ (List.mem_append_right _ (List.mem_append_left _ (List.mem_of_getElem? (i := 72) rfl)))) rfl
set_option maxRecDepth 20000 in
theorem eJx4a65c_add_9ea2d_23 : gd_push cJx4a65c_add_9ea2d 23 1 24 := .inl ⟨by decide +kernel, rfl⟩
set_option maxRecDepth 20000 in
theorem eJx4a65c_add_9ea2d_24 : gd cJx4a65c_add_9ea2d 24 .ireturn 1 25 := ⟨by decide +kernel, rfl⟩
set_option maxRecDepth 20000 in
theorem mJx4a65c_add_9ea2d : ga_wm yJx4a65c_add_9ea2d cJx4a65c_add_9ea2d 2 (some .boolean) 1 := ⟨ga_tb (List.mem_append_right _ (List.mem_append_right _ (List.mem_append_left _ (List.mem_of_getElem? (i := 71) rfl)))) rfl, ga_tb (List.mem_append_right _ (List.mem_append_left _ (List.mem_of_getElem? (i := 5) rfl))) rfl, ⟨by decide, by decide⟩, by decide +kernel, by decide⟩
set_option maxRecDepth 20000 in
theorem iJx4a65c_add_9ea2d : Cond.instanceMethod yJx4a65c_add_9ea2d ∈ gaTb := ga_tb (List.mem_append_right _ (List.mem_append_right _ (List.mem_append_left _ (List.mem_of_getElem? (i := 69) rfl)))) rfl
set_option maxRecDepth 20000 in
theorem eJx4a65c_add_72be8_0 : gd_iload cJx4a65c_add_72be8 0 3 1 := .inr ⟨3, by decide +kernel, rfl, rfl⟩
set_option maxRecDepth 20000 in
theorem eJx4a65c_add_72be8_1 : gd_aload cJx4a65c_add_72be8 1 2 2 := .inr ⟨2, by decide +kernel, rfl, rfl⟩
set_option maxRecDepth 20000 in
theorem eJx4a65c_add_72be8_2 : gd cJx4a65c_add_72be8 2 .arraylength 1 3 := ⟨by decide +kernel, rfl⟩
set_option maxRecDepth 20000 in
theorem eJx4a65c_add_72be8_3 : gd_b cJx4a65c_add_72be8 3 (.if_icmp .ne) 11 6 := ⟨8, by decide +kernel, by decide, rfl⟩
set_option maxRecDepth 20000 in
theorem eJx4a65c_add_72be8_6 : gd_aload cJx4a65c_add_72be8 6 0 7 := .inr ⟨0, by decide +kernel, rfl, rfl⟩
set_option maxRecDepth 20000 in
theorem eJx4a65c_add_72be8_7 : gd cJx4a65c_add_72be8 7 (.invokevirtual 129) 3 10 := ⟨by decide +kernel, rfl⟩
set_option maxRecDepth 20000 in
theorem nRJx4a65c_129 : Cond.methodLink RJx4a65c 129 yJx4a65c_grow_d5877 ∈ gaTb := ga_tb (List.mem_append_right _ (List.mem_append_right _ (List.mem_append_left _ (List.mem_of_getElem? (i := 76) rfl)))) rfl
set_option maxRecDepth 20000 in
theorem eJx4a65c_add_72be8_10 : gd_astore cJx4a65c_add_72be8 10 2 11 := .inr ⟨2, by decide +kernel, rfl, rfl⟩
set_option maxRecDepth 20000 in
theorem eJx4a65c_add_72be8_11 : gd_aload cJx4a65c_add_72be8 11 2 12 := .inr ⟨2, by decide +kernel, rfl, rfl⟩
set_option maxRecDepth 20000 in
theorem eJx4a65c_add_72be8_12 : gd_iload cJx4a65c_add_72be8 12 3 13 := .inr ⟨3, by decide +kernel, rfl, rfl⟩
set_option maxRecDepth 20000 in
theorem eJx4a65c_add_72be8_13 : gd_aload cJx4a65c_add_72be8 13 1 14 := .inr ⟨1, by decide +kernel, rfl, rfl⟩
set_option maxRecDepth 20000 in
theorem eJx4a65c_add_72be8_14 : gd cJx4a65c_add_72be8 14 .aastore 1 15 := ⟨by decide +kernel, rfl⟩
set_option maxRecDepth 20000 in
theorem eJx4a65c_add_72be8_15 : gd_aload cJx4a65c_add_72be8 15 0 16 := .inr ⟨0, by decide +kernel, rfl, rfl⟩
set_option maxRecDepth 20000 in
theorem eJx4a65c_add_72be8_16 : gd_iload cJx4a65c_add_72be8 16 3 17 := .inr ⟨3, by decide +kernel, rfl, rfl⟩
set_option maxRecDepth 20000 in
theorem eJx4a65c_add_72be8_17 : gd_push cJx4a65c_add_72be8 17 1 18 := .inl ⟨by decide +kernel, rfl⟩
set_option maxRecDepth 20000 in
theorem eJx4a65c_add_72be8_18 : gd cJx4a65c_add_72be8 18 .iadd 1 19 := ⟨by decide +kernel, rfl⟩
set_option maxRecDepth 20000 in
theorem eJx4a65c_add_72be8_19 : gd cJx4a65c_add_72be8 19 (.putfield 48) 3 22 := ⟨by decide +kernel, rfl⟩
set_option maxRecDepth 20000 in
theorem eJx4a65c_add_72be8_22 : gd cJx4a65c_add_72be8 22 .return_ 1 23 := ⟨by decide +kernel, rfl⟩
set_option maxRecDepth 20000 in
theorem mJx4a65c_add_72be8 : ga_wm yJx4a65c_add_72be8 cJx4a65c_add_72be8 4 none 3 := ⟨ga_tb (List.mem_append_right _ (List.mem_append_right _ (List.mem_append_left _ (List.mem_of_getElem? (i := 75) rfl)))) rfl, ga_tb (List.mem_append_right _ (List.mem_append_left _ (List.mem_of_getElem? (i := 5) rfl))) rfl, ⟨by decide, by decide⟩, by decide +kernel, by decide⟩
set_option maxRecDepth 20000 in
theorem iJx4a65c_add_72be8 : Cond.instanceMethod yJx4a65c_add_72be8 ∈ gaTb := ga_tb (List.mem_append_right _ (List.mem_append_right _ (List.mem_append_left _ (List.mem_of_getElem? (i := 74) rfl)))) rfl
set_option maxRecDepth 20000 in
theorem eJx4a65c_grow_92f84_0 : gd_aload cJx4a65c_grow_92f84 0 0 1 := .inr ⟨0, by decide +kernel, rfl, rfl⟩
set_option maxRecDepth 20000 in
theorem eJx4a65c_grow_92f84_1 : gd cJx4a65c_grow_92f84 1 (.getfield 9) 3 4 := ⟨by decide +kernel, rfl⟩
set_option maxRecDepth 20000 in
theorem eJx4a65c_grow_92f84_4 : gd cJx4a65c_grow_92f84 4 .arraylength 1 5 := ⟨by decide +kernel, rfl⟩
set_option maxRecDepth 20000 in
theorem eJx4a65c_grow_92f84_5 : gd_istore cJx4a65c_grow_92f84 5 2 6 := .inr ⟨2, by decide +kernel, rfl, rfl⟩
set_option maxRecDepth 20000 in
theorem eJx4a65c_grow_92f84_6 : gd_iload cJx4a65c_grow_92f84 6 2 7 := .inr ⟨2, by decide +kernel, rfl, rfl⟩
set_option maxRecDepth 20000 in
theorem eJx4a65c_grow_92f84_7 : gd_b cJx4a65c_grow_92f84 7 (.ifCond .gt) 20 10 := ⟨13, by decide +kernel, by decide, rfl⟩
set_option maxRecDepth 20000 in
theorem eJx4a65c_grow_92f84_10 : gd_aload cJx4a65c_grow_92f84 10 0 11 := .inr ⟨0, by decide +kernel, rfl, rfl⟩
set_option maxRecDepth 20000 in
theorem eJx4a65c_grow_92f84_11 : gd cJx4a65c_grow_92f84 11 (.getfield 9) 3 14 := ⟨by decide +kernel, rfl⟩
set_option maxRecDepth 20000 in
theorem eJx4a65c_grow_92f84_14 : gd cJx4a65c_grow_92f84 14 (.getstatic 39) 3 17 := ⟨by decide +kernel, rfl⟩
set_option maxRecDepth 20000 in
theorem eJx4a65c_grow_92f84_17 : gd_b cJx4a65c_grow_92f84 17 (.if_acmp .eq) 45 20 := ⟨28, by decide +kernel, by decide, rfl⟩
set_option maxRecDepth 20000 in
theorem eJx4a65c_grow_92f84_20 : gd_iload cJx4a65c_grow_92f84 20 2 21 := .inr ⟨2, by decide +kernel, rfl, rfl⟩
set_option maxRecDepth 20000 in
theorem eJx4a65c_grow_92f84_21 : gd_iload cJx4a65c_grow_92f84 21 1 22 := .inr ⟨1, by decide +kernel, rfl, rfl⟩
set_option maxRecDepth 20000 in
theorem eJx4a65c_grow_92f84_22 : gd_iload cJx4a65c_grow_92f84 22 2 23 := .inr ⟨2, by decide +kernel, rfl, rfl⟩
set_option maxRecDepth 20000 in
theorem eJx4a65c_grow_92f84_23 : gd cJx4a65c_grow_92f84 23 .isub 1 24 := ⟨by decide +kernel, rfl⟩
set_option maxRecDepth 20000 in
theorem eJx4a65c_grow_92f84_24 : gd_iload cJx4a65c_grow_92f84 24 2 25 := .inr ⟨2, by decide +kernel, rfl, rfl⟩
set_option maxRecDepth 20000 in
theorem eJx4a65c_grow_92f84_25 : gd_push cJx4a65c_grow_92f84 25 1 26 := .inl ⟨by decide +kernel, rfl⟩
set_option maxRecDepth 20000 in
theorem eJx4a65c_grow_92f84_26 : gd cJx4a65c_grow_92f84 26 .ishr 1 27 := ⟨by decide +kernel, rfl⟩
set_option maxRecDepth 20000 in
theorem eJx4a65c_grow_92f84_27 : gd cJx4a65c_grow_92f84 27 (.invokestatic 73) 3 30 := ⟨by decide +kernel, rfl⟩
set_option maxRecDepth 20000 in
theorem nRJx4a65c_73 : Cond.methodLink RJx4a65c 73 yJ8_newLength_cabcc ∈ gaTb := ga_tb (List.mem_append_right _ (List.mem_append_right _ (List.mem_append_left _ (List.mem_of_getElem? (i := 84) rfl)))) rfl
set_option maxRecDepth 20000 in
theorem eJx4a65c_grow_92f84_30 : gd_istore cJx4a65c_grow_92f84 30 3 31 := .inr ⟨3, by decide +kernel, rfl, rfl⟩
set_option maxRecDepth 20000 in
theorem eJx4a65c_grow_92f84_31 : gd_aload cJx4a65c_grow_92f84 31 0 32 := .inr ⟨0, by decide +kernel, rfl, rfl⟩
set_option maxRecDepth 20000 in
theorem eJx4a65c_grow_92f84_32 : gd_aload cJx4a65c_grow_92f84 32 0 33 := .inr ⟨0, by decide +kernel, rfl, rfl⟩
set_option maxRecDepth 20000 in
theorem eJx4a65c_grow_92f84_33 : gd cJx4a65c_grow_92f84 33 (.getfield 9) 3 36 := ⟨by decide +kernel, rfl⟩
set_option maxRecDepth 20000 in
theorem eJx4a65c_grow_92f84_36 : gd_iload cJx4a65c_grow_92f84 36 3 37 := .inr ⟨3, by decide +kernel, rfl, rfl⟩
set_option maxRecDepth 20000 in
theorem eJx4a65c_grow_92f84_37 : gd cJx4a65c_grow_92f84 37 (.invokestatic 66) 3 40 := ⟨by decide +kernel, rfl⟩
set_option maxRecDepth 20000 in
theorem nRJx4a65c_66 : Cond.methodLink RJx4a65c 66 yJ7_copyOf_1904c ∈ gaTb := ga_tb (List.mem_append_right _ (List.mem_append_right _ (List.mem_append_left _ (List.mem_of_getElem? (i := 94) rfl)))) rfl
set_option maxRecDepth 20000 in
theorem eJx4a65c_grow_92f84_40 : gd cJx4a65c_grow_92f84 40 .dup_x1 1 41 := ⟨by decide +kernel, rfl⟩
set_option maxRecDepth 20000 in
theorem eJx4a65c_grow_92f84_41 : gd cJx4a65c_grow_92f84 41 (.putfield 9) 3 44 := ⟨by decide +kernel, rfl⟩
set_option maxRecDepth 20000 in
theorem eJx4a65c_grow_92f84_44 : gd cJx4a65c_grow_92f84 44 .areturn 1 45 := ⟨by decide +kernel, rfl⟩
set_option maxRecDepth 20000 in
theorem eJx4a65c_grow_92f84_45 : gd_aload cJx4a65c_grow_92f84 45 0 46 := .inr ⟨0, by decide +kernel, rfl, rfl⟩
set_option maxRecDepth 20000 in
theorem eJx4a65c_grow_92f84_46 : gd_push cJx4a65c_grow_92f84 46 10 48 := .inr (.inl ⟨by decide +kernel, by decide, rfl⟩)
set_option maxRecDepth 20000 in
theorem eJx4a65c_grow_92f84_48 : gd_iload cJx4a65c_grow_92f84 48 1 49 := .inr ⟨1, by decide +kernel, rfl, rfl⟩
set_option maxRecDepth 20000 in
theorem eJx4a65c_grow_92f84_49 : gd cJx4a65c_grow_92f84 49 (.invokestatic 79) 3 52 := ⟨by decide +kernel, rfl⟩
set_option maxRecDepth 20000 in
theorem eJx4a65c_grow_92f84_52 : gd cJx4a65c_grow_92f84 52 (.anewarray 7) 3 55 := ⟨by decide +kernel, rfl⟩
set_option maxRecDepth 20000 in
theorem eJx4a65c_grow_92f84_55 : gd cJx4a65c_grow_92f84 55 .dup_x1 1 56 := ⟨by decide +kernel, rfl⟩
set_option maxRecDepth 20000 in
theorem eJx4a65c_grow_92f84_56 : gd cJx4a65c_grow_92f84 56 (.putfield 9) 3 59 := ⟨by decide +kernel, rfl⟩
set_option maxRecDepth 20000 in
theorem eJx4a65c_grow_92f84_59 : gd cJx4a65c_grow_92f84 59 .areturn 1 60 := ⟨by decide +kernel, rfl⟩
set_option maxRecDepth 20000 in
theorem mJx4a65c_grow_92f84 : ga_wm yJx4a65c_grow_92f84 cJx4a65c_grow_92f84 4 (some (.array (.object "java/lang/Object"))) 1 := ⟨ga_tb (List.mem_append_right _ (List.mem_append_right _ (List.mem_append_left _ (List.mem_of_getElem? (i := 83) rfl)))) rfl, ga_tb (List.mem_append_right _ (List.mem_append_left _ (List.mem_of_getElem? (i := 5) rfl))) rfl, ⟨by decide, by decide⟩, by decide +kernel, by decide⟩
set_option maxRecDepth 20000 in
theorem iJx4a65c_grow_92f84 : Cond.instanceMethod yJx4a65c_grow_92f84 ∈ gaTb := ga_tb (List.mem_append_right _ (List.mem_append_right _ (List.mem_append_left _ (List.mem_of_getElem? (i := 82) rfl)))) rfl
set_option maxRecDepth 20000 in
theorem eJx4a65c_grow_d5877_0 : gd_aload cJx4a65c_grow_d5877 0 0 1 := .inr ⟨0, by decide +kernel, rfl, rfl⟩
set_option maxRecDepth 20000 in
theorem eJx4a65c_grow_d5877_1 : gd_aload cJx4a65c_grow_d5877 1 0 2 := .inr ⟨0, by decide +kernel, rfl, rfl⟩
set_option maxRecDepth 20000 in
theorem eJx4a65c_grow_d5877_2 : gd cJx4a65c_grow_d5877 2 (.getfield 48) 3 5 := ⟨by decide +kernel, rfl⟩
set_option maxRecDepth 20000 in
theorem eJx4a65c_grow_d5877_5 : gd_push cJx4a65c_grow_d5877 5 1 6 := .inl ⟨by decide +kernel, rfl⟩
set_option maxRecDepth 20000 in
theorem eJx4a65c_grow_d5877_6 : gd cJx4a65c_grow_d5877 6 .iadd 1 7 := ⟨by decide +kernel, rfl⟩
set_option maxRecDepth 20000 in
theorem eJx4a65c_grow_d5877_7 : gd cJx4a65c_grow_d5877 7 (.invokevirtual 69) 3 10 := ⟨by decide +kernel, rfl⟩
set_option maxRecDepth 20000 in
theorem nRJx4a65c_69 : Cond.methodLink RJx4a65c 69 yJx4a65c_grow_92f84 ∈ gaTb := ga_tb (List.mem_append_right _ (List.mem_append_right _ (List.mem_append_left _ (List.mem_of_getElem? (i := 80) rfl)))) rfl
set_option maxRecDepth 20000 in
theorem eJx4a65c_grow_d5877_10 : gd cJx4a65c_grow_d5877 10 .areturn 1 11 := ⟨by decide +kernel, rfl⟩
set_option maxRecDepth 20000 in
theorem mJx4a65c_grow_d5877 : ga_wm yJx4a65c_grow_d5877 cJx4a65c_grow_d5877 1 (some (.array (.object "java/lang/Object"))) 0 := ⟨ga_tb (List.mem_append_right _ (List.mem_append_right _ (List.mem_append_left _ (List.mem_of_getElem? (i := 79) rfl)))) rfl, ga_tb (List.mem_append_right _ (List.mem_append_left _ (List.mem_of_getElem? (i := 5) rfl))) rfl, ⟨by decide, by decide⟩, by decide +kernel, by decide⟩
set_option maxRecDepth 20000 in
theorem iJx4a65c_grow_d5877 : Cond.instanceMethod yJx4a65c_grow_d5877 ∈ gaTb := ga_tb (List.mem_append_right _ (List.mem_append_right _ (List.mem_append_left _ (List.mem_of_getElem? (i := 78) rfl)))) rfl
set_option maxRecDepth 20000 in
theorem eJ7_copyOf_1904c_0 : gd_aload cJ7_copyOf_1904c 0 0 1 := .inr ⟨0, by decide +kernel, rfl, rfl⟩
set_option maxRecDepth 20000 in
theorem eJ7_copyOf_1904c_1 : gd_iload cJ7_copyOf_1904c 1 1 2 := .inr ⟨1, by decide +kernel, rfl, rfl⟩
set_option maxRecDepth 20000 in
theorem eJ7_copyOf_1904c_2 : gd_aload cJ7_copyOf_1904c 2 0 3 := .inr ⟨0, by decide +kernel, rfl, rfl⟩
set_option maxRecDepth 20000 in
theorem eJ7_copyOf_1904c_3 : gd cJ7_copyOf_1904c 3 (.invokevirtual 86) 3 6 := ⟨by decide +kernel, rfl⟩
set_option maxRecDepth 20000 in
theorem eJ7_copyOf_1904c_6 : gd cJ7_copyOf_1904c 6 (.invokestatic 300) 3 9 := ⟨by decide +kernel, rfl⟩
set_option maxRecDepth 20000 in
theorem nRJ7_300 : Cond.methodLink RJ7 300 yJ7_copyOf_6403c ∈ gaTb := ga_tb (List.mem_append_right _ (List.mem_append_right _ (List.mem_append_left _ (List.mem_of_getElem? (i := 109) rfl)))) rfl
set_option maxRecDepth 20000 in
theorem eJ7_copyOf_1904c_9 : gd cJ7_copyOf_1904c 9 .areturn 1 10 := ⟨by decide +kernel, rfl⟩
set_option maxRecDepth 20000 in
theorem mJ7_copyOf_1904c : ga_wm yJ7_copyOf_1904c cJ7_copyOf_1904c 2 (some (.array (.object "java/lang/Object"))) 2 := ⟨ga_tb (List.mem_append_right _ (List.mem_append_right _ (List.mem_append_left _ (List.mem_of_getElem? (i := 96) rfl)))) rfl, ga_tb (List.mem_append_right _ (List.mem_append_left _ (List.mem_of_getElem? (i := 13) rfl))) rfl, ⟨by decide, by decide⟩, by decide +kernel, by decide⟩
set_option maxRecDepth 20000 in
theorem sJ7_copyOf_1904c : Cond.static yJ7_copyOf_1904c ∈ gaTb := ga_tb (List.mem_append_right _ (List.mem_append_right _ (List.mem_append_left _ (List.mem_of_getElem? (i := 95) rfl)))) rfl
set_option maxRecDepth 20000 in
theorem eJ7_copyOf_6403c_0 : gd_aload cJ7_copyOf_6403c 0 2 1 := .inr ⟨2, by decide +kernel, rfl, rfl⟩
set_option maxRecDepth 20000 in
theorem eJ7_copyOf_6403c_1 : gd cJ7_copyOf_6403c 1 (.ldc 110) 2 3 := ⟨by decide +kernel, rfl⟩
set_option maxRecDepth 20000 in
theorem eJ7_copyOf_6403c_3 : gd_b cJ7_copyOf_6403c 3 (.if_acmp .ne) 13 6 := ⟨10, by decide +kernel, by decide, rfl⟩
set_option maxRecDepth 20000 in
theorem eJ7_copyOf_6403c_6 : gd_iload cJ7_copyOf_6403c 6 1 7 := .inr ⟨1, by decide +kernel, rfl, rfl⟩
set_option maxRecDepth 20000 in
theorem eJ7_copyOf_6403c_7 : gd cJ7_copyOf_6403c 7 (.anewarray 2) 3 10 := ⟨by decide +kernel, rfl⟩
set_option maxRecDepth 20000 in
theorem eJ7_copyOf_6403c_10 : gd_b cJ7_copyOf_6403c 10 .goto 24 13 := ⟨14, by decide +kernel, by decide, rfl⟩
set_option maxRecDepth 20000 in
theorem eJ7_copyOf_6403c_13 : gd_aload cJ7_copyOf_6403c 13 2 14 := .inr ⟨2, by decide +kernel, rfl, rfl⟩
set_option maxRecDepth 20000 in
theorem eJ7_copyOf_6403c_14 : gd cJ7_copyOf_6403c 14 (.invokevirtual 90) 3 17 := ⟨by decide +kernel, rfl⟩
set_option maxRecDepth 20000 in
theorem eJ7_copyOf_6403c_17 : gd_iload cJ7_copyOf_6403c 17 1 18 := .inr ⟨1, by decide +kernel, rfl, rfl⟩
set_option maxRecDepth 20000 in
theorem eJ7_copyOf_6403c_18 : gd cJ7_copyOf_6403c 18 (.invokestatic 95) 3 21 := ⟨by decide +kernel, rfl⟩
set_option maxRecDepth 20000 in
theorem eJ7_copyOf_6403c_21 : gd cJ7_copyOf_6403c 21 (.checkcast 110) 3 24 := ⟨by decide +kernel, rfl⟩
set_option maxRecDepth 20000 in
theorem eJ7_copyOf_6403c_24 : gd_astore cJ7_copyOf_6403c 24 3 25 := .inr ⟨3, by decide +kernel, rfl, rfl⟩
set_option maxRecDepth 20000 in
theorem eJ7_copyOf_6403c_25 : gd_aload cJ7_copyOf_6403c 25 0 26 := .inr ⟨0, by decide +kernel, rfl, rfl⟩
set_option maxRecDepth 20000 in
theorem eJ7_copyOf_6403c_26 : gd_push cJ7_copyOf_6403c 26 0 27 := .inl ⟨by decide +kernel, rfl⟩
set_option maxRecDepth 20000 in
theorem eJ7_copyOf_6403c_27 : gd_aload cJ7_copyOf_6403c 27 3 28 := .inr ⟨3, by decide +kernel, rfl, rfl⟩
set_option maxRecDepth 20000 in
theorem eJ7_copyOf_6403c_28 : gd_push cJ7_copyOf_6403c 28 0 29 := .inl ⟨by decide +kernel, rfl⟩
set_option maxRecDepth 20000 in
theorem eJ7_copyOf_6403c_29 : gd_aload cJ7_copyOf_6403c 29 0 30 := .inr ⟨0, by decide +kernel, rfl, rfl⟩
set_option maxRecDepth 20000 in
theorem eJ7_copyOf_6403c_30 : gd cJ7_copyOf_6403c 30 .arraylength 1 31 := ⟨by decide +kernel, rfl⟩
set_option maxRecDepth 20000 in
theorem eJ7_copyOf_6403c_31 : gd_iload cJ7_copyOf_6403c 31 1 32 := .inr ⟨1, by decide +kernel, rfl, rfl⟩
set_option maxRecDepth 20000 in
theorem eJ7_copyOf_6403c_32 : gd cJ7_copyOf_6403c 32 (.invokestatic 304) 3 35 := ⟨by decide +kernel, rfl⟩
set_option maxRecDepth 20000 in
theorem eJ7_copyOf_6403c_35 : gd cJ7_copyOf_6403c 35 (.invokestatic 150) 3 38 := ⟨by decide +kernel, rfl⟩
set_option maxRecDepth 20000 in
theorem eJ7_copyOf_6403c_38 : gd_aload cJ7_copyOf_6403c 38 3 39 := .inr ⟨3, by decide +kernel, rfl, rfl⟩
set_option maxRecDepth 20000 in
theorem eJ7_copyOf_6403c_39 : gd cJ7_copyOf_6403c 39 .areturn 1 40 := ⟨by decide +kernel, rfl⟩
set_option maxRecDepth 20000 in
theorem mJ7_copyOf_6403c : ga_wm yJ7_copyOf_6403c cJ7_copyOf_6403c 4 (some (.array (.object "java/lang/Object"))) 3 := ⟨ga_tb (List.mem_append_right _ (List.mem_append_right _ (List.mem_append_left _ (List.mem_of_getElem? (i := 111) rfl)))) rfl, ga_tb (List.mem_append_right _ (List.mem_append_left _ (List.mem_of_getElem? (i := 13) rfl))) rfl, ⟨by decide, by decide⟩, by decide +kernel, by decide⟩
set_option maxRecDepth 20000 in
theorem sJ7_copyOf_6403c : Cond.static yJ7_copyOf_6403c ∈ gaTb := ga_tb (List.mem_append_right _ (List.mem_append_right _ (List.mem_append_left _ (List.mem_of_getElem? (i := 110) rfl)))) rfl
set_option maxRecDepth 20000 in
theorem eJ8_newLength_cabcc_0 : gd_iload cJ8_newLength_cabcc 0 0 1 := .inr ⟨0, by decide +kernel, rfl, rfl⟩
set_option maxRecDepth 20000 in
theorem eJ8_newLength_cabcc_1 : gd_iload cJ8_newLength_cabcc 1 1 2 := .inr ⟨1, by decide +kernel, rfl, rfl⟩
set_option maxRecDepth 20000 in
theorem eJ8_newLength_cabcc_2 : gd_iload cJ8_newLength_cabcc 2 2 3 := .inr ⟨2, by decide +kernel, rfl, rfl⟩
set_option maxRecDepth 20000 in
theorem eJ8_newLength_cabcc_3 : gd cJ8_newLength_cabcc 3 (.invokestatic 194) 3 6 := ⟨by decide +kernel, rfl⟩
set_option maxRecDepth 20000 in
theorem eJ8_newLength_cabcc_6 : gd cJ8_newLength_cabcc 6 .iadd 1 7 := ⟨by decide +kernel, rfl⟩
set_option maxRecDepth 20000 in
theorem eJ8_newLength_cabcc_7 : gd_istore cJ8_newLength_cabcc 7 3 8 := .inr ⟨3, by decide +kernel, rfl, rfl⟩
set_option maxRecDepth 20000 in
theorem eJ8_newLength_cabcc_8 : gd_push cJ8_newLength_cabcc 8 0 9 := .inl ⟨by decide +kernel, rfl⟩
set_option maxRecDepth 20000 in
theorem eJ8_newLength_cabcc_9 : gd_iload cJ8_newLength_cabcc 9 3 10 := .inr ⟨3, by decide +kernel, rfl, rfl⟩
set_option maxRecDepth 20000 in
theorem eJ8_newLength_cabcc_10 : gd_b cJ8_newLength_cabcc 10 (.if_icmp .ge) 21 13 := ⟨11, by decide +kernel, by decide, rfl⟩
set_option maxRecDepth 20000 in
theorem eJ8_newLength_cabcc_13 : gd_iload cJ8_newLength_cabcc 13 3 14 := .inr ⟨3, by decide +kernel, rfl, rfl⟩
set_option maxRecDepth 20000 in
theorem eJ8_newLength_cabcc_14 : gd cJ8_newLength_cabcc 14 (.ldc 200) 2 16 := ⟨by decide +kernel, rfl⟩
set_option maxRecDepth 20000 in
theorem eJ8_newLength_cabcc_16 : gd_b cJ8_newLength_cabcc 16 (.if_icmp .gt) 21 19 := ⟨5, by decide +kernel, by decide, rfl⟩
set_option maxRecDepth 20000 in
theorem eJ8_newLength_cabcc_19 : gd_iload cJ8_newLength_cabcc 19 3 20 := .inr ⟨3, by decide +kernel, rfl, rfl⟩
set_option maxRecDepth 20000 in
theorem eJ8_newLength_cabcc_20 : gd cJ8_newLength_cabcc 20 .ireturn 1 21 := ⟨by decide +kernel, rfl⟩
set_option maxRecDepth 20000 in
theorem eJ8_newLength_cabcc_21 : gd_iload cJ8_newLength_cabcc 21 0 22 := .inr ⟨0, by decide +kernel, rfl, rfl⟩
set_option maxRecDepth 20000 in
theorem eJ8_newLength_cabcc_22 : gd_iload cJ8_newLength_cabcc 22 1 23 := .inr ⟨1, by decide +kernel, rfl, rfl⟩
set_option maxRecDepth 20000 in
theorem eJ8_newLength_cabcc_23 : gd cJ8_newLength_cabcc 23 (.invokestatic 201) 3 26 := ⟨by decide +kernel, rfl⟩
set_option maxRecDepth 20000 in
theorem nRJ8_201 : Cond.methodLink RJ8 201 yJ8_hugeLength_7cf53 ∈ gaTb := ga_tb (List.mem_append_right _ (List.mem_append_right _ (List.mem_append_left _ (List.mem_of_getElem? (i := 91) rfl)))) rfl
set_option maxRecDepth 20000 in
theorem eJ8_newLength_cabcc_26 : gd cJ8_newLength_cabcc 26 .ireturn 1 27 := ⟨by decide +kernel, rfl⟩
set_option maxRecDepth 20000 in
theorem mJ8_newLength_cabcc : ga_wm yJ8_newLength_cabcc cJ8_newLength_cabcc 4 (some .int) 3 := ⟨ga_tb (List.mem_append_right _ (List.mem_append_right _ (List.mem_append_left _ (List.mem_of_getElem? (i := 86) rfl)))) rfl, ga_tb (List.mem_append_right _ (List.mem_append_left _ (List.mem_of_getElem? (i := 11) rfl))) rfl, ⟨by decide, by decide⟩, by decide +kernel, by decide⟩
set_option maxRecDepth 20000 in
theorem sJ8_newLength_cabcc : Cond.static yJ8_newLength_cabcc ∈ gaTb := ga_tb (List.mem_append_right _ (List.mem_append_right _ (List.mem_append_left _ (List.mem_of_getElem? (i := 85) rfl)))) rfl
set_option maxRecDepth 20000 in
theorem oi_i : Cond.instanceMethod objectInit ∈ gaTb := ga_tb (List.mem_append_right _ (List.mem_append_left _ (List.mem_of_getElem? (i := 23) rfl))) rfl
set_option maxRecDepth 20000 in
theorem oi_c : Cond.code objectInit ⟨#[0xb1]⟩ 1 none ∈ gaTb := ga_tb (List.mem_append_right _ (List.mem_append_left _ (List.mem_of_getElem? (i := 24) rfl))) rfl
set_option maxRecDepth 20000 in
theorem ar_int : Cond.arrayClass .int ∈ gaTb := ga_tb (List.mem_append_right _ (List.mem_append_left _ (List.mem_of_getElem? (i := 53) rfl))) rfl
set_option maxRecDepth 20000 in
theorem ar_boolean : Cond.arrayClass .boolean ∈ gaTb := ga_tb (List.mem_append_right _ (List.mem_append_right _ (List.mem_append_right _ (List.mem_append_left _ (List.mem_of_getElem? (i := 236) rfl))))) rfl
