theorem in_L : Cond.initialized "GeoThreadsLaw" ∈ lw_gd := (gd_mem (List.mem_of_getElem? (i := 51) (by decide +kernel)) rfl)
theorem in_X11 : Cond.initialized "GeoThreads" ∈ lw_gd := (gd_mem (List.mem_of_getElem? (i := 52) (by decide +kernel)) rfl)
theorem in_Math : Cond.initialized "java/lang/Math" ∈ lw_gd := (gd_mem (List.mem_of_getElem? (i := 53) (by decide +kernel)) rfl)
theorem in_X4 : Cond.initialized "GeoThreads$Plan" ∈ lw_gd := (gd_mem (List.mem_of_getElem? (i := 54) (by decide +kernel)) rfl)
theorem in_X0 : Cond.initialized "GeoThreads$Course" ∈ lw_gd := (gd_mem (List.mem_of_getElem? (i := 55) (by decide +kernel)) rfl)
theorem in_X10 : Cond.initialized "GeoThreads$Work" ∈ lw_gd := (gd_mem (List.mem_of_getElem? (i := 56) (by decide +kernel)) rfl)
theorem in_X2 : Cond.initialized "GeoThreads$Hunt" ∈ lw_gd := (gd_mem (List.mem_of_getElem? (i := 57) (by decide +kernel)) rfl)
theorem in_X12 : Cond.initialized "GeoThreadsModel" ∈ lw_gd := (gd_mem (List.mem_of_getElem? (i := 58) (by decide +kernel)) rfl)
theorem in_X1 : Cond.initialized "GeoThreads$Grid" ∈ lw_gd := (gd_mem (List.mem_of_getElem? (i := 59) (by decide +kernel)) rfl)
theorem in_X3 : Cond.initialized "GeoThreads$Line" ∈ lw_gd := (gd_mem (List.mem_of_getElem? (i := 60) (by decide +kernel)) rfl)
theorem in_X8 : Cond.initialized "GeoThreads$Task" ∈ lw_gd := (gd_mem (List.mem_of_getElem? (i := 61) (by decide +kernel)) rfl)
theorem in_X9 : Cond.initialized "GeoThreads$Way" ∈ lw_gd := (gd_mem (List.mem_of_getElem? (i := 62) (by decide +kernel)) rfl)
theorem in_X5 : Cond.initialized "GeoThreads$Reader" ∈ lw_gd := (gd_mem (List.mem_of_getElem? (i := 63) (by decide +kernel)) rfl)
theorem in_X6 : Cond.initialized "GeoThreads$Search" ∈ lw_gd := (gd_mem (List.mem_of_getElem? (i := 64) (by decide +kernel)) rfl)
theorem in_X7 : Cond.initialized "GeoThreads$Share" ∈ lw_gd := (gd_mem (List.mem_of_getElem? (i := 65) (by decide +kernel)) rfl)
theorem cl_L_7 : Cond.classLink RL 7 "GeoThreads" ∈ lw_gd := (gd_mem (List.mem_of_getElem? (i := 66) (by decide +kernel)) rfl)
theorem it_X11 : Cond.instantiable "GeoThreads" 6 ∈ lw_gd := (gd_mem (List.mem_of_getElem? (i := 67) (by decide +kernel)) rfl)
theorem lk_L_15 : Cond.methodLink RL 15 yX11_init ∈ lw_gd := (gd_mem (List.mem_of_getElem? (i := 68) (by decide +kernel)) rfl)
theorem lk_X11_3 : Cond.methodLink RX11 3 Lib.objectInit ∈ lw_gd := (gd_mem (List.mem_of_getElem? (i := 71) (by decide +kernel)) rfl)
theorem lk_X11_11 : Cond.methodLink RX11 11 Lib.Math.min.name ∈ lw_gd := (gd_mem (List.mem_of_getElem? (i := 74) (by decide +kernel)) rfl)
theorem lk_X11_17 : Cond.methodLink RX11 17 Lib.Math.max.name ∈ lw_gd := (gd_mem (List.mem_of_getElem? (i := 77) (by decide +kernel)) rfl)
theorem cl_X11_27 : Cond.classLink RX11 27 "GeoThreads$Plan" ∈ lw_gd := (gd_mem (List.mem_of_getElem? (i := 80) (by decide +kernel)) rfl)
theorem it_X4 : Cond.instantiable "GeoThreads$Plan" 8 ∈ lw_gd := (gd_mem (List.mem_of_getElem? (i := 81) (by decide +kernel)) rfl)
theorem ln_X11_29 : Cond.methodLinkNest RX11 29 yX4_init "GeoThreads" ∈ nwL := (nw_mem (List.mem_of_getElem? (i := 82) (by decide +kernel)) rfl)
theorem lk_X4_3 : Cond.methodLink RX4 3 Lib.objectInit ∈ lw_gd := (gd_mem (List.mem_of_getElem? (i := 85) (by decide +kernel)) rfl)
theorem cl_X4_9 : Cond.classLink RX4 9 "GeoThreads$Grid" ∈ lw_gd := (gd_mem (List.mem_of_getElem? (i := 86) (by decide +kernel)) rfl)
theorem cl_X4_17 : Cond.classLink RX4 17 "GeoThreads$Task" ∈ lw_gd := (gd_mem (List.mem_of_getElem? (i := 88) (by decide +kernel)) rfl)
theorem cl_X4_23 : Cond.classLink RX4 23 "GeoThreads$Search" ∈ lw_gd := (gd_mem (List.mem_of_getElem? (i := 90) (by decide +kernel)) rfl)
theorem fl_X4_11_4 : FL RX4 11 4 0 := ⟨"GeoThreads$Plan", (RX4, TX4, 8), rfl, by decide, (gd_mem (List.mem_of_getElem? (i := 92) (by decide +kernel)) rfl), (Or.inl rfl)⟩
theorem fp_X4_11_4 : FP RX4 "<init>" 11 4 0 (.array (.object "GeoThreads$Grid")) := ⟨"GeoThreads$Plan", (RX4, TX4, 8), rfl, by decide, (gd_mem (List.mem_of_getElem? (i := 92) (by decide +kernel)) rfl), rfl, by decide +kernel, Or.inr ⟨rfl, rfl, rfl⟩⟩
theorem fl_X11_80_4 : FL RX11 80 4 0 := ⟨"GeoThreads$Plan", (RX4, TX4, 8), rfl, by decide, (gd_mem (List.mem_of_getElem? (i := 93) (by decide +kernel)) rfl), (Or.inl rfl)⟩
theorem fl_X4_19_4 : FL RX4 19 4 1 := ⟨"GeoThreads$Plan", (RX4, TX4, 8), rfl, by decide, (gd_mem (List.mem_of_getElem? (i := 94) (by decide +kernel)) rfl), (Or.inl rfl)⟩
theorem fp_X4_19_4 : FP RX4 "<init>" 19 4 1 (.array (.object "GeoThreads$Task")) := ⟨"GeoThreads$Plan", (RX4, TX4, 8), rfl, by decide, (gd_mem (List.mem_of_getElem? (i := 94) (by decide +kernel)) rfl), rfl, by decide +kernel, Or.inr ⟨rfl, rfl, rfl⟩⟩
theorem fl_X0_142_4 : FL RX0 142 4 1 := ⟨"GeoThreads$Plan", (RX4, TX4, 8), rfl, by decide, (gd_mem (List.mem_of_getElem? (i := 95) (by decide +kernel)) rfl), (Or.inl rfl)⟩
theorem fl_X11_196_4 : FL RX11 196 4 1 := ⟨"GeoThreads$Plan", (RX4, TX4, 8), rfl, by decide, (gd_mem (List.mem_of_getElem? (i := 96) (by decide +kernel)) rfl), (Or.inl rfl)⟩
theorem fl_X4_25_4 : FL RX4 25 4 2 := ⟨"GeoThreads$Plan", (RX4, TX4, 8), rfl, by decide, (gd_mem (List.mem_of_getElem? (i := 97) (by decide +kernel)) rfl), (Or.inl rfl)⟩
theorem fp_X4_25_4 : FP RX4 "<init>" 25 4 2 (.array (.object "GeoThreads$Search")) := ⟨"GeoThreads$Plan", (RX4, TX4, 8), rfl, by decide, (gd_mem (List.mem_of_getElem? (i := 97) (by decide +kernel)) rfl), rfl, by decide +kernel, Or.inr ⟨rfl, rfl, rfl⟩⟩
theorem fl_X0_62_4 : FL RX0 62 4 2 := ⟨"GeoThreads$Plan", (RX4, TX4, 8), rfl, by decide, (gd_mem (List.mem_of_getElem? (i := 98) (by decide +kernel)) rfl), (Or.inl rfl)⟩
theorem fl_X11_137_4 : FL RX11 137 4 2 := ⟨"GeoThreads$Plan", (RX4, TX4, 8), rfl, by decide, (gd_mem (List.mem_of_getElem? (i := 99) (by decide +kernel)) rfl), (Or.inl rfl)⟩
theorem fl_X4_29_4 : FL RX4 29 4 3 := ⟨"GeoThreads$Plan", (RX4, TX4, 8), rfl, by decide, (gd_mem (List.mem_of_getElem? (i := 100) (by decide +kernel)) rfl), (Or.inl rfl)⟩
theorem fp_X4_29_4 : FP RX4 "<init>" 29 4 3 (.array .int) := ⟨"GeoThreads$Plan", (RX4, TX4, 8), rfl, by decide, (gd_mem (List.mem_of_getElem? (i := 100) (by decide +kernel)) rfl), rfl, by decide +kernel, Or.inr ⟨rfl, rfl, rfl⟩⟩
theorem fl_X0_119_4 : FL RX0 119 4 3 := ⟨"GeoThreads$Plan", (RX4, TX4, 8), rfl, by decide, (gd_mem (List.mem_of_getElem? (i := 101) (by decide +kernel)) rfl), (Or.inl rfl)⟩
theorem fl_X11_166_4 : FL RX11 166 4 3 := ⟨"GeoThreads$Plan", (RX4, TX4, 8), rfl, by decide, (gd_mem (List.mem_of_getElem? (i := 102) (by decide +kernel)) rfl), (Or.inl rfl)⟩
theorem fl_X4_33_4 : FL RX4 33 4 4 := ⟨"GeoThreads$Plan", (RX4, TX4, 8), rfl, by decide, (gd_mem (List.mem_of_getElem? (i := 103) (by decide +kernel)) rfl), (Or.inl rfl)⟩
theorem fp_X4_33_4 (mn : String) : FP RX4 mn 33 4 4 .int := ⟨"GeoThreads$Plan", (RX4, TX4, 8), rfl, by decide, (gd_mem (List.mem_of_getElem? (i := 103) (by decide +kernel)) rfl), rfl, by decide +kernel, Or.inl rfl⟩
theorem fl_X11_60_4 : FL RX11 60 4 4 := ⟨"GeoThreads$Plan", (RX4, TX4, 8), rfl, by decide, (gd_mem (List.mem_of_getElem? (i := 104) (by decide +kernel)) rfl), (Or.inl rfl)⟩
theorem fp_X11_60_4 (mn : String) : FP RX11 mn 60 4 4 .int := ⟨"GeoThreads$Plan", (RX4, TX4, 8), rfl, by decide, (gd_mem (List.mem_of_getElem? (i := 104) (by decide +kernel)) rfl), rfl, by decide +kernel, Or.inl rfl⟩
theorem fl_X4_37_4 : FL RX4 37 4 5 := ⟨"GeoThreads$Plan", (RX4, TX4, 8), rfl, by decide, (gd_mem (List.mem_of_getElem? (i := 105) (by decide +kernel)) rfl), (Or.inl rfl)⟩
theorem fp_X4_37_4 (mn : String) : FP RX4 mn 37 4 5 .int := ⟨"GeoThreads$Plan", (RX4, TX4, 8), rfl, by decide, (gd_mem (List.mem_of_getElem? (i := 105) (by decide +kernel)) rfl), rfl, by decide +kernel, Or.inl rfl⟩
theorem fl_X0_102_4 : FL RX0 102 4 5 := ⟨"GeoThreads$Plan", (RX4, TX4, 8), rfl, by decide, (gd_mem (List.mem_of_getElem? (i := 106) (by decide +kernel)) rfl), (Or.inl rfl)⟩
theorem fp_X0_102_4 (mn : String) : FP RX0 mn 102 4 5 .int := ⟨"GeoThreads$Plan", (RX4, TX4, 8), rfl, by decide, (gd_mem (List.mem_of_getElem? (i := 106) (by decide +kernel)) rfl), rfl, by decide +kernel, Or.inl rfl⟩
theorem fl_X11_182_4 : FL RX11 182 4 5 := ⟨"GeoThreads$Plan", (RX4, TX4, 8), rfl, by decide, (gd_mem (List.mem_of_getElem? (i := 107) (by decide +kernel)) rfl), (Or.inl rfl)⟩
theorem fp_X11_182_4 (mn : String) : FP RX11 mn 182 4 5 .int := ⟨"GeoThreads$Plan", (RX4, TX4, 8), rfl, by decide, (gd_mem (List.mem_of_getElem? (i := 107) (by decide +kernel)) rfl), rfl, by decide +kernel, Or.inl rfl⟩
theorem fl_X0_57_4 : FL RX0 57 4 6 := ⟨"GeoThreads$Plan", (RX4, TX4, 8), rfl, by decide, (gd_mem (List.mem_of_getElem? (i := 108) (by decide +kernel)) rfl), (Or.inl rfl)⟩
theorem fp_X0_57_4 (mn : String) : FP RX0 mn 57 4 6 .int := ⟨"GeoThreads$Plan", (RX4, TX4, 8), rfl, by decide, (gd_mem (List.mem_of_getElem? (i := 108) (by decide +kernel)) rfl), rfl, by decide +kernel, Or.inl rfl⟩
theorem fl_X11_134_4 : FL RX11 134 4 6 := ⟨"GeoThreads$Plan", (RX4, TX4, 8), rfl, by decide, (gd_mem (List.mem_of_getElem? (i := 109) (by decide +kernel)) rfl), (Or.inl rfl)⟩
theorem fp_X11_134_4 (mn : String) : FP RX11 mn 134 4 6 .int := ⟨"GeoThreads$Plan", (RX4, TX4, 8), rfl, by decide, (gd_mem (List.mem_of_getElem? (i := 109) (by decide +kernel)) rfl), rfl, by decide +kernel, Or.inl rfl⟩
theorem fl_X0_116_4 : FL RX0 116 4 7 := ⟨"GeoThreads$Plan", (RX4, TX4, 8), rfl, by decide, (gd_mem (List.mem_of_getElem? (i := 110) (by decide +kernel)) rfl), (Or.inl rfl)⟩
theorem fp_X0_116_4 (mn : String) : FP RX0 mn 116 4 7 .int := ⟨"GeoThreads$Plan", (RX4, TX4, 8), rfl, by decide, (gd_mem (List.mem_of_getElem? (i := 110) (by decide +kernel)) rfl), rfl, by decide +kernel, Or.inl rfl⟩
theorem fl_X11_163_4 : FL RX11 163 4 7 := ⟨"GeoThreads$Plan", (RX4, TX4, 8), rfl, by decide, (gd_mem (List.mem_of_getElem? (i := 111) (by decide +kernel)) rfl), (Or.inl rfl)⟩
theorem fp_X11_163_4 (mn : String) : FP RX11 mn 163 4 7 .int := ⟨"GeoThreads$Plan", (RX4, TX4, 8), rfl, by decide, (gd_mem (List.mem_of_getElem? (i := 111) (by decide +kernel)) rfl), rfl, by decide +kernel, Or.inl rfl⟩
theorem ar_int : Cond.arrayClass .int ∈ lw_gd := (gd_mem (List.mem_of_getElem? (i := 129) (by decide +kernel)) rfl)
theorem cl_X11_34 : Cond.classLink RX11 34 "GeoThreads$Course" ∈ lw_gd := (gd_mem (List.mem_of_getElem? (i := 130) (by decide +kernel)) rfl)
theorem it_X0 : Cond.instantiable "GeoThreads$Course" 19 ∈ lw_gd := (gd_mem (List.mem_of_getElem? (i := 131) (by decide +kernel)) rfl)
theorem lk_X11_36 : Cond.methodLink RX11 36 yX0_init ∈ lw_gd := (gd_mem (List.mem_of_getElem? (i := 132) (by decide +kernel)) rfl)
theorem lk_X0_3 : Cond.methodLink RX0 3 Lib.objectInit ∈ lw_gd := (gd_mem (List.mem_of_getElem? (i := 135) (by decide +kernel)) rfl)
theorem cl_X0_9 : Cond.classLink RX0 9 "GeoThreads$Work" ∈ lw_gd := (gd_mem (List.mem_of_getElem? (i := 136) (by decide +kernel)) rfl)
theorem cl_X0_17 : Cond.classLink RX0 17 "GeoThreads$Hunt" ∈ lw_gd := (gd_mem (List.mem_of_getElem? (i := 138) (by decide +kernel)) rfl)
theorem it_X10 : Cond.instantiable "GeoThreads$Work" 13 ∈ lw_gd := (gd_mem (List.mem_of_getElem? (i := 140) (by decide +kernel)) rfl)
theorem ln_X0_23 : Cond.methodLinkNest RX0 23 yX10_init "GeoThreads" ∈ nwL := (nw_mem (List.mem_of_getElem? (i := 141) (by decide +kernel)) rfl)
theorem lk_X10_3 : Cond.methodLink RX10 3 Lib.objectInit ∈ lw_gd := (gd_mem (List.mem_of_getElem? (i := 144) (by decide +kernel)) rfl)
theorem fl_X10_9_9 : FL RX10 9 9 0 := ⟨"GeoThreads$Work", (RX10, TX10, 13), rfl, by decide, (gd_mem (List.mem_of_getElem? (i := 145) (by decide +kernel)) rfl), (Or.inl rfl)⟩
theorem fp_X10_9_9 (mn : String) : FP RX10 mn 9 9 0 .int := ⟨"GeoThreads$Work", (RX10, TX10, 13), rfl, by decide, (gd_mem (List.mem_of_getElem? (i := 145) (by decide +kernel)) rfl), rfl, by decide +kernel, Or.inl rfl⟩
theorem fl_X7_25_9 : FL RX7 25 9 0 := ⟨"GeoThreads$Work", (RX10, TX10, 13), rfl, by decide, (gd_mem (List.mem_of_getElem? (i := 146) (by decide +kernel)) rfl), (Or.inl rfl)⟩
theorem fp_X7_25_9 (mn : String) : FP RX7 mn 25 9 0 .int := ⟨"GeoThreads$Work", (RX10, TX10, 13), rfl, by decide, (gd_mem (List.mem_of_getElem? (i := 146) (by decide +kernel)) rfl), rfl, by decide +kernel, Or.inl rfl⟩
theorem fl_X9_38_9 : FL RX9 38 9 0 := ⟨"GeoThreads$Work", (RX10, TX10, 13), rfl, by decide, (gd_mem (List.mem_of_getElem? (i := 147) (by decide +kernel)) rfl), (Or.inl rfl)⟩
theorem fp_X9_38_9 (mn : String) : FP RX9 mn 38 9 0 .int := ⟨"GeoThreads$Work", (RX10, TX10, 13), rfl, by decide, (gd_mem (List.mem_of_getElem? (i := 147) (by decide +kernel)) rfl), rfl, by decide +kernel, Or.inl rfl⟩
theorem fl_X5_63_9 : FL RX5 63 9 0 := ⟨"GeoThreads$Work", (RX10, TX10, 13), rfl, by decide, (gd_mem (List.mem_of_getElem? (i := 148) (by decide +kernel)) rfl), (Or.inl rfl)⟩
theorem fp_X5_63_9 (mn : String) : FP RX5 mn 63 9 0 .int := ⟨"GeoThreads$Work", (RX10, TX10, 13), rfl, by decide, (gd_mem (List.mem_of_getElem? (i := 148) (by decide +kernel)) rfl), rfl, by decide +kernel, Or.inl rfl⟩
theorem fl_X0_135_9 : FL RX0 135 9 0 := ⟨"GeoThreads$Work", (RX10, TX10, 13), rfl, by decide, (gd_mem (List.mem_of_getElem? (i := 149) (by decide +kernel)) rfl), (Or.inl rfl)⟩
theorem fp_X0_135_9 (mn : String) : FP RX0 mn 135 9 0 .int := ⟨"GeoThreads$Work", (RX10, TX10, 13), rfl, by decide, (gd_mem (List.mem_of_getElem? (i := 149) (by decide +kernel)) rfl), rfl, by decide +kernel, Or.inl rfl⟩
theorem fl_X11_205_9 : FL RX11 205 9 0 := ⟨"GeoThreads$Work", (RX10, TX10, 13), rfl, by decide, (gd_mem (List.mem_of_getElem? (i := 150) (by decide +kernel)) rfl), (Or.inl rfl)⟩
theorem fp_X11_205_9 (mn : String) : FP RX11 mn 205 9 0 .int := ⟨"GeoThreads$Work", (RX10, TX10, 13), rfl, by decide, (gd_mem (List.mem_of_getElem? (i := 150) (by decide +kernel)) rfl), rfl, by decide +kernel, Or.inl rfl⟩
theorem fl_X10_15_9 : FL RX10 15 9 1 := ⟨"GeoThreads$Work", (RX10, TX10, 13), rfl, by decide, (gd_mem (List.mem_of_getElem? (i := 151) (by decide +kernel)) rfl), (Or.inl rfl)⟩
theorem fp_X10_15_9 (mn : String) : FP RX10 mn 15 9 1 .int := ⟨"GeoThreads$Work", (RX10, TX10, 13), rfl, by decide, (gd_mem (List.mem_of_getElem? (i := 151) (by decide +kernel)) rfl), rfl, by decide +kernel, Or.inl rfl⟩
theorem fl_X11_210_9 : FL RX11 210 9 1 := ⟨"GeoThreads$Work", (RX10, TX10, 13), rfl, by decide, (gd_mem (List.mem_of_getElem? (i := 152) (by decide +kernel)) rfl), (Or.inl rfl)⟩
theorem fp_X11_210_9 (mn : String) : FP RX11 mn 210 9 1 .int := ⟨"GeoThreads$Work", (RX10, TX10, 13), rfl, by decide, (gd_mem (List.mem_of_getElem? (i := 152) (by decide +kernel)) rfl), rfl, by decide +kernel, Or.inl rfl⟩
theorem fl_X0_229_9 : FL RX0 229 9 1 := ⟨"GeoThreads$Work", (RX10, TX10, 13), rfl, by decide, (gd_mem (List.mem_of_getElem? (i := 153) (by decide +kernel)) rfl), (Or.inl rfl)⟩
theorem fp_X0_229_9 (mn : String) : FP RX0 mn 229 9 1 .int := ⟨"GeoThreads$Work", (RX10, TX10, 13), rfl, by decide, (gd_mem (List.mem_of_getElem? (i := 153) (by decide +kernel)) rfl), rfl, by decide +kernel, Or.inl rfl⟩
theorem fl_X10_18_9 : FL RX10 18 9 2 := ⟨"GeoThreads$Work", (RX10, TX10, 13), rfl, by decide, (gd_mem (List.mem_of_getElem? (i := 154) (by decide +kernel)) rfl), (Or.inl rfl)⟩
theorem fp_X10_18_9 (mn : String) : FP RX10 mn 18 9 2 .int := ⟨"GeoThreads$Work", (RX10, TX10, 13), rfl, by decide, (gd_mem (List.mem_of_getElem? (i := 154) (by decide +kernel)) rfl), rfl, by decide +kernel, Or.inl rfl⟩
theorem fl_X8_21_9 : FL RX8 21 9 2 := ⟨"GeoThreads$Work", (RX10, TX10, 13), rfl, by decide, (gd_mem (List.mem_of_getElem? (i := 155) (by decide +kernel)) rfl), (Or.inl rfl)⟩
theorem fp_X8_21_9 (mn : String) : FP RX8 mn 21 9 2 .int := ⟨"GeoThreads$Work", (RX10, TX10, 13), rfl, by decide, (gd_mem (List.mem_of_getElem? (i := 155) (by decide +kernel)) rfl), rfl, by decide +kernel, Or.inl rfl⟩
theorem fl_X0_171_9 : FL RX0 171 9 2 := ⟨"GeoThreads$Work", (RX10, TX10, 13), rfl, by decide, (gd_mem (List.mem_of_getElem? (i := 156) (by decide +kernel)) rfl), (Or.inl rfl)⟩
theorem fp_X0_171_9 (mn : String) : FP RX0 mn 171 9 2 .int := ⟨"GeoThreads$Work", (RX10, TX10, 13), rfl, by decide, (gd_mem (List.mem_of_getElem? (i := 156) (by decide +kernel)) rfl), rfl, by decide +kernel, Or.inl rfl⟩
theorem fl_X11_213_9 : FL RX11 213 9 2 := ⟨"GeoThreads$Work", (RX10, TX10, 13), rfl, by decide, (gd_mem (List.mem_of_getElem? (i := 157) (by decide +kernel)) rfl), (Or.inl rfl)⟩
theorem fp_X11_213_9 (mn : String) : FP RX11 mn 213 9 2 .int := ⟨"GeoThreads$Work", (RX10, TX10, 13), rfl, by decide, (gd_mem (List.mem_of_getElem? (i := 157) (by decide +kernel)) rfl), rfl, by decide +kernel, Or.inl rfl⟩
theorem fl_X10_21_9 : FL RX10 21 9 3 := ⟨"GeoThreads$Work", (RX10, TX10, 13), rfl, by decide, (gd_mem (List.mem_of_getElem? (i := 158) (by decide +kernel)) rfl), (Or.inl rfl)⟩
theorem fp_X10_21_9 (mn : String) : FP RX10 mn 21 9 3 .int := ⟨"GeoThreads$Work", (RX10, TX10, 13), rfl, by decide, (gd_mem (List.mem_of_getElem? (i := 158) (by decide +kernel)) rfl), rfl, by decide +kernel, Or.inl rfl⟩
theorem fl_X0_141_9 : FL RX0 141 9 3 := ⟨"GeoThreads$Work", (RX10, TX10, 13), rfl, by decide, (gd_mem (List.mem_of_getElem? (i := 159) (by decide +kernel)) rfl), (Or.inl rfl)⟩
theorem fp_X0_141_9 (mn : String) : FP RX0 mn 141 9 3 .int := ⟨"GeoThreads$Work", (RX10, TX10, 13), rfl, by decide, (gd_mem (List.mem_of_getElem? (i := 159) (by decide +kernel)) rfl), rfl, by decide +kernel, Or.inl rfl⟩
theorem fl_X11_216_9 : FL RX11 216 9 3 := ⟨"GeoThreads$Work", (RX10, TX10, 13), rfl, by decide, (gd_mem (List.mem_of_getElem? (i := 160) (by decide +kernel)) rfl), (Or.inl rfl)⟩
theorem fp_X11_216_9 (mn : String) : FP RX11 mn 216 9 3 .int := ⟨"GeoThreads$Work", (RX10, TX10, 13), rfl, by decide, (gd_mem (List.mem_of_getElem? (i := 160) (by decide +kernel)) rfl), rfl, by decide +kernel, Or.inl rfl⟩
theorem fl_X10_24_9 : FL RX10 24 9 4 := ⟨"GeoThreads$Work", (RX10, TX10, 13), rfl, by decide, (gd_mem (List.mem_of_getElem? (i := 161) (by decide +kernel)) rfl), (Or.inl rfl)⟩
theorem fp_X10_24_9 (mn : String) : FP RX10 mn 24 9 4 .int := ⟨"GeoThreads$Work", (RX10, TX10, 13), rfl, by decide, (gd_mem (List.mem_of_getElem? (i := 161) (by decide +kernel)) rfl), rfl, by decide +kernel, Or.inl rfl⟩
theorem fl_X9_25_9 : FL RX9 25 9 4 := ⟨"GeoThreads$Work", (RX10, TX10, 13), rfl, by decide, (gd_mem (List.mem_of_getElem? (i := 162) (by decide +kernel)) rfl), (Or.inl rfl)⟩
theorem fp_X9_25_9 (mn : String) : FP RX9 mn 25 9 4 .int := ⟨"GeoThreads$Work", (RX10, TX10, 13), rfl, by decide, (gd_mem (List.mem_of_getElem? (i := 162) (by decide +kernel)) rfl), rfl, by decide +kernel, Or.inl rfl⟩
theorem fl_X11_219_9 : FL RX11 219 9 4 := ⟨"GeoThreads$Work", (RX10, TX10, 13), rfl, by decide, (gd_mem (List.mem_of_getElem? (i := 163) (by decide +kernel)) rfl), (Or.inl rfl)⟩
theorem fp_X11_219_9 (mn : String) : FP RX11 mn 219 9 4 .int := ⟨"GeoThreads$Work", (RX10, TX10, 13), rfl, by decide, (gd_mem (List.mem_of_getElem? (i := 163) (by decide +kernel)) rfl), rfl, by decide +kernel, Or.inl rfl⟩
theorem fl_X10_27_9 : FL RX10 27 9 5 := ⟨"GeoThreads$Work", (RX10, TX10, 13), rfl, by decide, (gd_mem (List.mem_of_getElem? (i := 164) (by decide +kernel)) rfl), (Or.inl rfl)⟩
theorem fp_X10_27_9 (mn : String) : FP RX10 mn 27 9 5 .int := ⟨"GeoThreads$Work", (RX10, TX10, 13), rfl, by decide, (gd_mem (List.mem_of_getElem? (i := 164) (by decide +kernel)) rfl), rfl, by decide +kernel, Or.inl rfl⟩
theorem fl_X0_138_9 : FL RX0 138 9 5 := ⟨"GeoThreads$Work", (RX10, TX10, 13), rfl, by decide, (gd_mem (List.mem_of_getElem? (i := 165) (by decide +kernel)) rfl), (Or.inl rfl)⟩
theorem fp_X0_138_9 (mn : String) : FP RX0 mn 138 9 5 .int := ⟨"GeoThreads$Work", (RX10, TX10, 13), rfl, by decide, (gd_mem (List.mem_of_getElem? (i := 165) (by decide +kernel)) rfl), rfl, by decide +kernel, Or.inl rfl⟩
theorem fl_X11_222_9 : FL RX11 222 9 5 := ⟨"GeoThreads$Work", (RX10, TX10, 13), rfl, by decide, (gd_mem (List.mem_of_getElem? (i := 166) (by decide +kernel)) rfl), (Or.inl rfl)⟩
theorem fp_X11_222_9 (mn : String) : FP RX11 mn 222 9 5 .int := ⟨"GeoThreads$Work", (RX10, TX10, 13), rfl, by decide, (gd_mem (List.mem_of_getElem? (i := 166) (by decide +kernel)) rfl), rfl, by decide +kernel, Or.inl rfl⟩
theorem fl_X10_30_9 : FL RX10 30 9 6 := ⟨"GeoThreads$Work", (RX10, TX10, 13), rfl, by decide, (gd_mem (List.mem_of_getElem? (i := 167) (by decide +kernel)) rfl), (Or.inl rfl)⟩
theorem fp_X10_30_9 (mn : String) : FP RX10 mn 30 9 6 .int := ⟨"GeoThreads$Work", (RX10, TX10, 13), rfl, by decide, (gd_mem (List.mem_of_getElem? (i := 167) (by decide +kernel)) rfl), rfl, by decide +kernel, Or.inl rfl⟩
theorem fl_X5_66_9 : FL RX5 66 9 6 := ⟨"GeoThreads$Work", (RX10, TX10, 13), rfl, by decide, (gd_mem (List.mem_of_getElem? (i := 168) (by decide +kernel)) rfl), (Or.inl rfl)⟩
theorem fp_X5_66_9 (mn : String) : FP RX5 mn 66 9 6 .int := ⟨"GeoThreads$Work", (RX10, TX10, 13), rfl, by decide, (gd_mem (List.mem_of_getElem? (i := 168) (by decide +kernel)) rfl), rfl, by decide +kernel, Or.inl rfl⟩
theorem fl_X0_206_9 : FL RX0 206 9 6 := ⟨"GeoThreads$Work", (RX10, TX10, 13), rfl, by decide, (gd_mem (List.mem_of_getElem? (i := 169) (by decide +kernel)) rfl), (Or.inl rfl)⟩
theorem fp_X0_206_9 (mn : String) : FP RX0 mn 206 9 6 .int := ⟨"GeoThreads$Work", (RX10, TX10, 13), rfl, by decide, (gd_mem (List.mem_of_getElem? (i := 169) (by decide +kernel)) rfl), rfl, by decide +kernel, Or.inl rfl⟩
theorem fl_X11_225_9 : FL RX11 225 9 6 := ⟨"GeoThreads$Work", (RX10, TX10, 13), rfl, by decide, (gd_mem (List.mem_of_getElem? (i := 170) (by decide +kernel)) rfl), (Or.inl rfl)⟩
theorem fp_X11_225_9 (mn : String) : FP RX11 mn 225 9 6 .int := ⟨"GeoThreads$Work", (RX10, TX10, 13), rfl, by decide, (gd_mem (List.mem_of_getElem? (i := 170) (by decide +kernel)) rfl), rfl, by decide +kernel, Or.inl rfl⟩
theorem fl_X10_33_9 : FL RX10 33 9 7 := ⟨"GeoThreads$Work", (RX10, TX10, 13), rfl, by decide, (gd_mem (List.mem_of_getElem? (i := 171) (by decide +kernel)) rfl), (Or.inl rfl)⟩
theorem fp_X10_33_9 (mn : String) : FP RX10 mn 33 9 7 .int := ⟨"GeoThreads$Work", (RX10, TX10, 13), rfl, by decide, (gd_mem (List.mem_of_getElem? (i := 171) (by decide +kernel)) rfl), rfl, by decide +kernel, Or.inl rfl⟩
theorem fl_X5_31_9 : FL RX5 31 9 7 := ⟨"GeoThreads$Work", (RX10, TX10, 13), rfl, by decide, (gd_mem (List.mem_of_getElem? (i := 172) (by decide +kernel)) rfl), (Or.inl rfl)⟩
theorem fp_X5_31_9 (mn : String) : FP RX5 mn 31 9 7 .int := ⟨"GeoThreads$Work", (RX10, TX10, 13), rfl, by decide, (gd_mem (List.mem_of_getElem? (i := 172) (by decide +kernel)) rfl), rfl, by decide +kernel, Or.inl rfl⟩
theorem fl_X7_42_9 : FL RX7 42 9 7 := ⟨"GeoThreads$Work", (RX10, TX10, 13), rfl, by decide, (gd_mem (List.mem_of_getElem? (i := 173) (by decide +kernel)) rfl), (Or.inl rfl)⟩
theorem fp_X7_42_9 (mn : String) : FP RX7 mn 42 9 7 .int := ⟨"GeoThreads$Work", (RX10, TX10, 13), rfl, by decide, (gd_mem (List.mem_of_getElem? (i := 173) (by decide +kernel)) rfl), rfl, by decide +kernel, Or.inl rfl⟩
theorem fl_X10_36_9 : FL RX10 36 9 8 := ⟨"GeoThreads$Work", (RX10, TX10, 13), rfl, by decide, (gd_mem (List.mem_of_getElem? (i := 174) (by decide +kernel)) rfl), (Or.inl rfl)⟩
theorem fp_X10_36_9 (mn : String) : FP RX10 mn 36 9 8 .int := ⟨"GeoThreads$Work", (RX10, TX10, 13), rfl, by decide, (gd_mem (List.mem_of_getElem? (i := 174) (by decide +kernel)) rfl), rfl, by decide +kernel, Or.inl rfl⟩
theorem fl_X5_42_9 : FL RX5 42 9 8 := ⟨"GeoThreads$Work", (RX10, TX10, 13), rfl, by decide, (gd_mem (List.mem_of_getElem? (i := 175) (by decide +kernel)) rfl), (Or.inl rfl)⟩
theorem fp_X5_42_9 (mn : String) : FP RX5 mn 42 9 8 .int := ⟨"GeoThreads$Work", (RX10, TX10, 13), rfl, by decide, (gd_mem (List.mem_of_getElem? (i := 175) (by decide +kernel)) rfl), rfl, by decide +kernel, Or.inl rfl⟩
theorem fl_X7_65_9 : FL RX7 65 9 8 := ⟨"GeoThreads$Work", (RX10, TX10, 13), rfl, by decide, (gd_mem (List.mem_of_getElem? (i := 176) (by decide +kernel)) rfl), (Or.inl rfl)⟩
theorem fp_X7_65_9 (mn : String) : FP RX7 mn 65 9 8 .int := ⟨"GeoThreads$Work", (RX10, TX10, 13), rfl, by decide, (gd_mem (List.mem_of_getElem? (i := 176) (by decide +kernel)) rfl), rfl, by decide +kernel, Or.inl rfl⟩
theorem fl_X10_39_9 : FL RX10 39 9 9 := ⟨"GeoThreads$Work", (RX10, TX10, 13), rfl, by decide, (gd_mem (List.mem_of_getElem? (i := 177) (by decide +kernel)) rfl), (Or.inl rfl)⟩
theorem fp_X10_39_9 (mn : String) : FP RX10 mn 39 9 9 .long := ⟨"GeoThreads$Work", (RX10, TX10, 13), rfl, by decide, (gd_mem (List.mem_of_getElem? (i := 177) (by decide +kernel)) rfl), rfl, by decide +kernel, Or.inl rfl⟩
theorem fl_X7_85_9 : FL RX7 85 9 9 := ⟨"GeoThreads$Work", (RX10, TX10, 13), rfl, by decide, (gd_mem (List.mem_of_getElem? (i := 178) (by decide +kernel)) rfl), (Or.inl rfl)⟩
theorem fp_X7_85_9 (mn : String) : FP RX7 mn 85 9 9 .long := ⟨"GeoThreads$Work", (RX10, TX10, 13), rfl, by decide, (gd_mem (List.mem_of_getElem? (i := 178) (by decide +kernel)) rfl), rfl, by decide +kernel, Or.inl rfl⟩
theorem fl_X10_43_9 : FL RX10 43 9 10 := ⟨"GeoThreads$Work", (RX10, TX10, 13), rfl, by decide, (gd_mem (List.mem_of_getElem? (i := 179) (by decide +kernel)) rfl), (Or.inl rfl)⟩
theorem fp_X10_43_9 (mn : String) : FP RX10 mn 43 9 10 .long := ⟨"GeoThreads$Work", (RX10, TX10, 13), rfl, by decide, (gd_mem (List.mem_of_getElem? (i := 179) (by decide +kernel)) rfl), rfl, by decide +kernel, Or.inl rfl⟩
theorem fl_X5_69_9 : FL RX5 69 9 10 := ⟨"GeoThreads$Work", (RX10, TX10, 13), rfl, by decide, (gd_mem (List.mem_of_getElem? (i := 180) (by decide +kernel)) rfl), (Or.inl rfl)⟩
theorem fp_X5_69_9 (mn : String) : FP RX5 mn 69 9 10 .long := ⟨"GeoThreads$Work", (RX10, TX10, 13), rfl, by decide, (gd_mem (List.mem_of_getElem? (i := 180) (by decide +kernel)) rfl), rfl, by decide +kernel, Or.inl rfl⟩
theorem fl_X10_46_9 : FL RX10 46 9 11 := ⟨"GeoThreads$Work", (RX10, TX10, 13), rfl, by decide, (gd_mem (List.mem_of_getElem? (i := 181) (by decide +kernel)) rfl), (Or.inl rfl)⟩
theorem fp_X10_46_9 (mn : String) : FP RX10 mn 46 9 11 .boolean := ⟨"GeoThreads$Work", (RX10, TX10, 13), rfl, by decide, (gd_mem (List.mem_of_getElem? (i := 181) (by decide +kernel)) rfl), rfl, by decide +kernel, Or.inl rfl⟩
theorem fl_X0_161_9 : FL RX0 161 9 11 := ⟨"GeoThreads$Work", (RX10, TX10, 13), rfl, by decide, (gd_mem (List.mem_of_getElem? (i := 182) (by decide +kernel)) rfl), (Or.inl rfl)⟩
theorem fp_X0_161_9 (mn : String) : FP RX0 mn 161 9 11 .boolean := ⟨"GeoThreads$Work", (RX10, TX10, 13), rfl, by decide, (gd_mem (List.mem_of_getElem? (i := 182) (by decide +kernel)) rfl), rfl, by decide +kernel, Or.inl rfl⟩
theorem fl_X10_50_9 : FL RX10 50 9 12 := ⟨"GeoThreads$Work", (RX10, TX10, 13), rfl, by decide, (gd_mem (List.mem_of_getElem? (i := 183) (by decide +kernel)) rfl), (Or.inl rfl)⟩
theorem fp_X10_50_9 (mn : String) : FP RX10 mn 50 9 12 .boolean := ⟨"GeoThreads$Work", (RX10, TX10, 13), rfl, by decide, (gd_mem (List.mem_of_getElem? (i := 183) (by decide +kernel)) rfl), rfl, by decide +kernel, Or.inl rfl⟩
theorem fl_X0_164_9 : FL RX0 164 9 12 := ⟨"GeoThreads$Work", (RX10, TX10, 13), rfl, by decide, (gd_mem (List.mem_of_getElem? (i := 184) (by decide +kernel)) rfl), (Or.inl rfl)⟩
theorem fp_X0_164_9 (mn : String) : FP RX0 mn 164 9 12 .boolean := ⟨"GeoThreads$Work", (RX10, TX10, 13), rfl, by decide, (gd_mem (List.mem_of_getElem? (i := 184) (by decide +kernel)) rfl), rfl, by decide +kernel, Or.inl rfl⟩
theorem it_X2 : Cond.instantiable "GeoThreads$Hunt" 3 ∈ lw_gd := (gd_mem (List.mem_of_getElem? (i := 212) (by decide +kernel)) rfl)
theorem ln_X0_53 : Cond.methodLinkNest RX0 53 yX2_init "GeoThreads" ∈ nwL := (nw_mem (List.mem_of_getElem? (i := 213) (by decide +kernel)) rfl)
theorem lk_X2_3 : Cond.methodLink RX2 3 Lib.objectInit ∈ lw_gd := (gd_mem (List.mem_of_getElem? (i := 216) (by decide +kernel)) rfl)
theorem fl_X2_9_2 : FL RX2 9 2 0 := ⟨"GeoThreads$Hunt", (RX2, TX2, 3), rfl, by decide, (gd_mem (List.mem_of_getElem? (i := 217) (by decide +kernel)) rfl), (Or.inl rfl)⟩
theorem fp_X2_9_2 (mn : String) : FP RX2 mn 9 2 0 .long := ⟨"GeoThreads$Hunt", (RX2, TX2, 3), rfl, by decide, (gd_mem (List.mem_of_getElem? (i := 217) (by decide +kernel)) rfl), rfl, by decide +kernel, Or.inl rfl⟩
theorem fl_X0_226_2 : FL RX0 226 2 0 := ⟨"GeoThreads$Hunt", (RX2, TX2, 3), rfl, by decide, (gd_mem (List.mem_of_getElem? (i := 218) (by decide +kernel)) rfl), (Or.inl rfl)⟩
theorem fp_X0_226_2 (mn : String) : FP RX0 mn 226 2 0 .long := ⟨"GeoThreads$Hunt", (RX2, TX2, 3), rfl, by decide, (gd_mem (List.mem_of_getElem? (i := 218) (by decide +kernel)) rfl), rfl, by decide +kernel, Or.inl rfl⟩
theorem fl_X11_236_2 : FL RX11 236 2 0 := ⟨"GeoThreads$Hunt", (RX2, TX2, 3), rfl, by decide, (gd_mem (List.mem_of_getElem? (i := 219) (by decide +kernel)) rfl), (Or.inl rfl)⟩
theorem fp_X11_236_2 (mn : String) : FP RX11 mn 236 2 0 .long := ⟨"GeoThreads$Hunt", (RX2, TX2, 3), rfl, by decide, (gd_mem (List.mem_of_getElem? (i := 219) (by decide +kernel)) rfl), rfl, by decide +kernel, Or.inl rfl⟩
theorem fl_X2_15_2 : FL RX2 15 2 1 := ⟨"GeoThreads$Hunt", (RX2, TX2, 3), rfl, by decide, (gd_mem (List.mem_of_getElem? (i := 220) (by decide +kernel)) rfl), (Or.inl rfl)⟩
theorem fp_X2_15_2 (mn : String) : FP RX2 mn 15 2 1 .int := ⟨"GeoThreads$Hunt", (RX2, TX2, 3), rfl, by decide, (gd_mem (List.mem_of_getElem? (i := 220) (by decide +kernel)) rfl), rfl, by decide +kernel, Or.inl rfl⟩
theorem fl_X0_223_2 : FL RX0 223 2 1 := ⟨"GeoThreads$Hunt", (RX2, TX2, 3), rfl, by decide, (gd_mem (List.mem_of_getElem? (i := 221) (by decide +kernel)) rfl), (Or.inl rfl)⟩
theorem fp_X0_223_2 (mn : String) : FP RX0 mn 223 2 1 .int := ⟨"GeoThreads$Hunt", (RX2, TX2, 3), rfl, by decide, (gd_mem (List.mem_of_getElem? (i := 221) (by decide +kernel)) rfl), rfl, by decide +kernel, Or.inl rfl⟩
theorem fl_X11_233_2 : FL RX11 233 2 1 := ⟨"GeoThreads$Hunt", (RX2, TX2, 3), rfl, by decide, (gd_mem (List.mem_of_getElem? (i := 222) (by decide +kernel)) rfl), (Or.inl rfl)⟩
theorem fp_X11_233_2 (mn : String) : FP RX11 mn 233 2 1 .int := ⟨"GeoThreads$Hunt", (RX2, TX2, 3), rfl, by decide, (gd_mem (List.mem_of_getElem? (i := 222) (by decide +kernel)) rfl), rfl, by decide +kernel, Or.inl rfl⟩
theorem fl_X2_19_2 : FL RX2 19 2 2 := ⟨"GeoThreads$Hunt", (RX2, TX2, 3), rfl, by decide, (gd_mem (List.mem_of_getElem? (i := 223) (by decide +kernel)) rfl), (Or.inl rfl)⟩
theorem fp_X2_19_2 (mn : String) : FP RX2 mn 19 2 2 .long := ⟨"GeoThreads$Hunt", (RX2, TX2, 3), rfl, by decide, (gd_mem (List.mem_of_getElem? (i := 223) (by decide +kernel)) rfl), rfl, by decide +kernel, Or.inl rfl⟩
theorem fl_X7_89_2 : FL RX7 89 2 2 := ⟨"GeoThreads$Hunt", (RX2, TX2, 3), rfl, by decide, (gd_mem (List.mem_of_getElem? (i := 224) (by decide +kernel)) rfl), (Or.inl rfl)⟩
theorem fp_X7_89_2 (mn : String) : FP RX7 mn 89 2 2 .long := ⟨"GeoThreads$Hunt", (RX2, TX2, 3), rfl, by decide, (gd_mem (List.mem_of_getElem? (i := 224) (by decide +kernel)) rfl), rfl, by decide +kernel, Or.inl rfl⟩
theorem fl_X11_240_2 : FL RX11 240 2 2 := ⟨"GeoThreads$Hunt", (RX2, TX2, 3), rfl, by decide, (gd_mem (List.mem_of_getElem? (i := 225) (by decide +kernel)) rfl), (Or.inl rfl)⟩
theorem fp_X11_240_2 (mn : String) : FP RX11 mn 240 2 2 .long := ⟨"GeoThreads$Hunt", (RX2, TX2, 3), rfl, by decide, (gd_mem (List.mem_of_getElem? (i := 225) (by decide +kernel)) rfl), rfl, by decide +kernel, Or.inl rfl⟩
theorem fl_X0_42_0 : FL RX0 42 0 0 := ⟨"GeoThreads$Course", (RX0, TX0, 19), rfl, by decide, (gd_mem (List.mem_of_getElem? (i := 233) (by decide +kernel)) rfl), (Or.inl rfl)⟩
theorem fp_X0_42_0 : FP RX0 "<init>" 42 0 0 (.object "GeoThreads$Plan") := ⟨"GeoThreads$Course", (RX0, TX0, 19), rfl, by decide, (gd_mem (List.mem_of_getElem? (i := 233) (by decide +kernel)) rfl), rfl, by decide +kernel, Or.inr ⟨rfl, rfl, rfl⟩⟩
theorem fl_X0_46_0 : FL RX0 46 0 1 := ⟨"GeoThreads$Course", (RX0, TX0, 19), rfl, by decide, (gd_mem (List.mem_of_getElem? (i := 234) (by decide +kernel)) rfl), (Or.inl rfl)⟩
theorem fp_X0_46_0 : FP RX0 "<init>" 46 0 1 .int := ⟨"GeoThreads$Course", (RX0, TX0, 19), rfl, by decide, (gd_mem (List.mem_of_getElem? (i := 234) (by decide +kernel)) rfl), rfl, by decide +kernel, Or.inr ⟨rfl, rfl, rfl⟩⟩
theorem fl_X0_49_0 : FL RX0 49 0 2 := ⟨"GeoThreads$Course", (RX0, TX0, 19), rfl, by decide, (gd_mem (List.mem_of_getElem? (i := 235) (by decide +kernel)) rfl), (Or.inl rfl)⟩
theorem fp_X0_49_0 : FP RX0 "<init>" 49 0 2 .boolean := ⟨"GeoThreads$Course", (RX0, TX0, 19), rfl, by decide, (gd_mem (List.mem_of_getElem? (i := 235) (by decide +kernel)) rfl), rfl, by decide +kernel, Or.inr ⟨rfl, rfl, rfl⟩⟩
theorem fl_X0_11_0 : FL RX0 11 0 3 := ⟨"GeoThreads$Course", (RX0, TX0, 19), rfl, by decide, (gd_mem (List.mem_of_getElem? (i := 236) (by decide +kernel)) rfl), (Or.inl rfl)⟩
theorem fp_X0_11_0 : FP RX0 "<init>" 11 0 3 (.array (.object "GeoThreads$Work")) := ⟨"GeoThreads$Course", (RX0, TX0, 19), rfl, by decide, (gd_mem (List.mem_of_getElem? (i := 236) (by decide +kernel)) rfl), rfl, by decide +kernel, Or.inr ⟨rfl, rfl, rfl⟩⟩
theorem fl_X11_192_0 : FL RX11 192 0 3 := ⟨"GeoThreads$Course", (RX0, TX0, 19), rfl, by decide, (gd_mem (List.mem_of_getElem? (i := 237) (by decide +kernel)) rfl), (Or.inl rfl)⟩
theorem fl_X0_19_0 : FL RX0 19 0 4 := ⟨"GeoThreads$Course", (RX0, TX0, 19), rfl, by decide, (gd_mem (List.mem_of_getElem? (i := 238) (by decide +kernel)) rfl), (Or.inl rfl)⟩
theorem fp_X0_19_0 : FP RX0 "<init>" 19 0 4 (.array (.object "GeoThreads$Hunt")) := ⟨"GeoThreads$Course", (RX0, TX0, 19), rfl, by decide, (gd_mem (List.mem_of_getElem? (i := 238) (by decide +kernel)) rfl), rfl, by decide +kernel, Or.inr ⟨rfl, rfl, rfl⟩⟩
theorem fl_X11_146_0 : FL RX11 146 0 4 := ⟨"GeoThreads$Course", (RX0, TX0, 19), rfl, by decide, (gd_mem (List.mem_of_getElem? (i := 239) (by decide +kernel)) rfl), (Or.inl rfl)⟩
theorem fl_X0_24_0 : FL RX0 24 0 5 := ⟨"GeoThreads$Course", (RX0, TX0, 19), rfl, by decide, (gd_mem (List.mem_of_getElem? (i := 240) (by decide +kernel)) rfl), (Or.inl rfl)⟩
theorem fp_X0_24_0 : FP RX0 "<init>" 24 0 5 (.object "GeoThreads$Work") := ⟨"GeoThreads$Course", (RX0, TX0, 19), rfl, by decide, (gd_mem (List.mem_of_getElem? (i := 240) (by decide +kernel)) rfl), rfl, by decide +kernel, Or.inr ⟨rfl, rfl, rfl⟩⟩
theorem fl_X0_28_0 : FL RX0 28 0 6 := ⟨"GeoThreads$Course", (RX0, TX0, 19), rfl, by decide, (gd_mem (List.mem_of_getElem? (i := 241) (by decide +kernel)) rfl), (Or.inl rfl)⟩
theorem fp_X0_28_0 : FP RX0 "<init>" 28 0 6 (.array .int) := ⟨"GeoThreads$Course", (RX0, TX0, 19), rfl, by decide, (gd_mem (List.mem_of_getElem? (i := 241) (by decide +kernel)) rfl), rfl, by decide +kernel, Or.inr ⟨rfl, rfl, rfl⟩⟩
theorem fl_X0_32_0 : FL RX0 32 0 7 := ⟨"GeoThreads$Course", (RX0, TX0, 19), rfl, by decide, (gd_mem (List.mem_of_getElem? (i := 242) (by decide +kernel)) rfl), (Or.inl rfl)⟩
theorem fp_X0_32_0 : FP RX0 "<init>" 32 0 7 (.array .int) := ⟨"GeoThreads$Course", (RX0, TX0, 19), rfl, by decide, (gd_mem (List.mem_of_getElem? (i := 242) (by decide +kernel)) rfl), rfl, by decide +kernel, Or.inr ⟨rfl, rfl, rfl⟩⟩
theorem fl_X11_252_0 : FL RX11 252 0 7 := ⟨"GeoThreads$Course", (RX0, TX0, 19), rfl, by decide, (gd_mem (List.mem_of_getElem? (i := 243) (by decide +kernel)) rfl), (Or.inl rfl)⟩
theorem fl_X0_35_0 : FL RX0 35 0 8 := ⟨"GeoThreads$Course", (RX0, TX0, 19), rfl, by decide, (gd_mem (List.mem_of_getElem? (i := 244) (by decide +kernel)) rfl), (Or.inl rfl)⟩
theorem fp_X0_35_0 : FP RX0 "<init>" 35 0 8 (.array .int) := ⟨"GeoThreads$Course", (RX0, TX0, 19), rfl, by decide, (gd_mem (List.mem_of_getElem? (i := 244) (by decide +kernel)) rfl), rfl, by decide +kernel, Or.inr ⟨rfl, rfl, rfl⟩⟩
theorem fl_X11_249_0 : FL RX11 249 0 8 := ⟨"GeoThreads$Course", (RX0, TX0, 19), rfl, by decide, (gd_mem (List.mem_of_getElem? (i := 245) (by decide +kernel)) rfl), (Or.inl rfl)⟩
theorem fl_X0_75_0 : FL RX0 75 0 9 := ⟨"GeoThreads$Course", (RX0, TX0, 19), rfl, by decide, (gd_mem (List.mem_of_getElem? (i := 246) (by decide +kernel)) rfl), (Or.inl rfl)⟩
theorem fp_X0_75_0 (mn : String) : FP RX0 mn 75 0 9 .int := ⟨"GeoThreads$Course", (RX0, TX0, 19), rfl, by decide, (gd_mem (List.mem_of_getElem? (i := 246) (by decide +kernel)) rfl), rfl, by decide +kernel, Or.inl rfl⟩
theorem fl_X11_246_0 : FL RX11 246 0 9 := ⟨"GeoThreads$Course", (RX0, TX0, 19), rfl, by decide, (gd_mem (List.mem_of_getElem? (i := 247) (by decide +kernel)) rfl), (Or.inl rfl)⟩
theorem fp_X11_246_0 (mn : String) : FP RX11 mn 246 0 9 .int := ⟨"GeoThreads$Course", (RX0, TX0, 19), rfl, by decide, (gd_mem (List.mem_of_getElem? (i := 247) (by decide +kernel)) rfl), rfl, by decide +kernel, Or.inl rfl⟩
theorem fl_X0_38_0 : FL RX0 38 0 10 := ⟨"GeoThreads$Course", (RX0, TX0, 19), rfl, by decide, (gd_mem (List.mem_of_getElem? (i := 248) (by decide +kernel)) rfl), (Or.inl rfl)⟩
theorem fp_X0_38_0 (mn : String) : FP RX0 mn 38 0 10 .int := ⟨"GeoThreads$Course", (RX0, TX0, 19), rfl, by decide, (gd_mem (List.mem_of_getElem? (i := 248) (by decide +kernel)) rfl), rfl, by decide +kernel, Or.inl rfl⟩
theorem fl_X0_78_0 : FL RX0 78 0 11 := ⟨"GeoThreads$Course", (RX0, TX0, 19), rfl, by decide, (gd_mem (List.mem_of_getElem? (i := 249) (by decide +kernel)) rfl), (Or.inl rfl)⟩
theorem fp_X0_78_0 (mn : String) : FP RX0 mn 78 0 11 .int := ⟨"GeoThreads$Course", (RX0, TX0, 19), rfl, by decide, (gd_mem (List.mem_of_getElem? (i := 249) (by decide +kernel)) rfl), rfl, by decide +kernel, Or.inl rfl⟩
theorem fl_X11_259_0 : FL RX11 259 0 11 := ⟨"GeoThreads$Course", (RX0, TX0, 19), rfl, by decide, (gd_mem (List.mem_of_getElem? (i := 250) (by decide +kernel)) rfl), (Or.inl rfl)⟩
theorem fp_X11_259_0 (mn : String) : FP RX11 mn 259 0 11 .int := ⟨"GeoThreads$Course", (RX0, TX0, 19), rfl, by decide, (gd_mem (List.mem_of_getElem? (i := 250) (by decide +kernel)) rfl), rfl, by decide +kernel, Or.inl rfl⟩
theorem fl_X0_81_0 : FL RX0 81 0 12 := ⟨"GeoThreads$Course", (RX0, TX0, 19), rfl, by decide, (gd_mem (List.mem_of_getElem? (i := 251) (by decide +kernel)) rfl), (Or.inl rfl)⟩
theorem fp_X0_81_0 (mn : String) : FP RX0 mn 81 0 12 .int := ⟨"GeoThreads$Course", (RX0, TX0, 19), rfl, by decide, (gd_mem (List.mem_of_getElem? (i := 251) (by decide +kernel)) rfl), rfl, by decide +kernel, Or.inl rfl⟩
theorem fl_X11_262_0 : FL RX11 262 0 12 := ⟨"GeoThreads$Course", (RX0, TX0, 19), rfl, by decide, (gd_mem (List.mem_of_getElem? (i := 252) (by decide +kernel)) rfl), (Or.inl rfl)⟩
theorem fp_X11_262_0 (mn : String) : FP RX11 mn 262 0 12 .int := ⟨"GeoThreads$Course", (RX0, TX0, 19), rfl, by decide, (gd_mem (List.mem_of_getElem? (i := 252) (by decide +kernel)) rfl), rfl, by decide +kernel, Or.inl rfl⟩
theorem fl_X0_84_0 : FL RX0 84 0 13 := ⟨"GeoThreads$Course", (RX0, TX0, 19), rfl, by decide, (gd_mem (List.mem_of_getElem? (i := 253) (by decide +kernel)) rfl), (Or.inl rfl)⟩
theorem fp_X0_84_0 (mn : String) : FP RX0 mn 84 0 13 .int := ⟨"GeoThreads$Course", (RX0, TX0, 19), rfl, by decide, (gd_mem (List.mem_of_getElem? (i := 253) (by decide +kernel)) rfl), rfl, by decide +kernel, Or.inl rfl⟩
theorem fl_X11_255_0 : FL RX11 255 0 13 := ⟨"GeoThreads$Course", (RX0, TX0, 19), rfl, by decide, (gd_mem (List.mem_of_getElem? (i := 254) (by decide +kernel)) rfl), (Or.inl rfl)⟩
theorem fp_X11_255_0 (mn : String) : FP RX11 mn 255 0 13 .int := ⟨"GeoThreads$Course", (RX0, TX0, 19), rfl, by decide, (gd_mem (List.mem_of_getElem? (i := 254) (by decide +kernel)) rfl), rfl, by decide +kernel, Or.inl rfl⟩
theorem fl_X0_87_0 : FL RX0 87 0 14 := ⟨"GeoThreads$Course", (RX0, TX0, 19), rfl, by decide, (gd_mem (List.mem_of_getElem? (i := 255) (by decide +kernel)) rfl), (Or.inl rfl)⟩
theorem fp_X0_87_0 (mn : String) : FP RX0 mn 87 0 14 .int := ⟨"GeoThreads$Course", (RX0, TX0, 19), rfl, by decide, (gd_mem (List.mem_of_getElem? (i := 255) (by decide +kernel)) rfl), rfl, by decide +kernel, Or.inl rfl⟩
theorem fl_X11_256_0 : FL RX11 256 0 14 := ⟨"GeoThreads$Course", (RX0, TX0, 19), rfl, by decide, (gd_mem (List.mem_of_getElem? (i := 256) (by decide +kernel)) rfl), (Or.inl rfl)⟩
theorem fp_X11_256_0 (mn : String) : FP RX11 mn 256 0 14 .int := ⟨"GeoThreads$Course", (RX0, TX0, 19), rfl, by decide, (gd_mem (List.mem_of_getElem? (i := 256) (by decide +kernel)) rfl), rfl, by decide +kernel, Or.inl rfl⟩
theorem fl_X0_90_0 : FL RX0 90 0 15 := ⟨"GeoThreads$Course", (RX0, TX0, 19), rfl, by decide, (gd_mem (List.mem_of_getElem? (i := 257) (by decide +kernel)) rfl), (Or.inl rfl)⟩
theorem fp_X0_90_0 (mn : String) : FP RX0 mn 90 0 15 .int := ⟨"GeoThreads$Course", (RX0, TX0, 19), rfl, by decide, (gd_mem (List.mem_of_getElem? (i := 257) (by decide +kernel)) rfl), rfl, by decide +kernel, Or.inl rfl⟩
theorem fl_X11_185_0 : FL RX11 185 0 15 := ⟨"GeoThreads$Course", (RX0, TX0, 19), rfl, by decide, (gd_mem (List.mem_of_getElem? (i := 258) (by decide +kernel)) rfl), (Or.inl rfl)⟩
theorem fp_X11_185_0 (mn : String) : FP RX11 mn 185 0 15 .int := ⟨"GeoThreads$Course", (RX0, TX0, 19), rfl, by decide, (gd_mem (List.mem_of_getElem? (i := 258) (by decide +kernel)) rfl), rfl, by decide +kernel, Or.inl rfl⟩
theorem fl_X11_57_0 : FL RX11 57 0 16 := ⟨"GeoThreads$Course", (RX0, TX0, 19), rfl, by decide, (gd_mem (List.mem_of_getElem? (i := 259) (by decide +kernel)) rfl), (Or.inl rfl)⟩
theorem fp_X11_57_0 (mn : String) : FP RX11 mn 57 0 16 .int := ⟨"GeoThreads$Course", (RX0, TX0, 19), rfl, by decide, (gd_mem (List.mem_of_getElem? (i := 259) (by decide +kernel)) rfl), rfl, by decide +kernel, Or.inl rfl⟩
theorem fl_X0_93_0 : FL RX0 93 0 16 := ⟨"GeoThreads$Course", (RX0, TX0, 19), rfl, by decide, (gd_mem (List.mem_of_getElem? (i := 260) (by decide +kernel)) rfl), (Or.inl rfl)⟩
theorem fp_X0_93_0 (mn : String) : FP RX0 mn 93 0 16 .int := ⟨"GeoThreads$Course", (RX0, TX0, 19), rfl, by decide, (gd_mem (List.mem_of_getElem? (i := 260) (by decide +kernel)) rfl), rfl, by decide +kernel, Or.inl rfl⟩
theorem fl_X0_96_0 : FL RX0 96 0 17 := ⟨"GeoThreads$Course", (RX0, TX0, 19), rfl, by decide, (gd_mem (List.mem_of_getElem? (i := 261) (by decide +kernel)) rfl), (Or.inl rfl)⟩
theorem fp_X0_96_0 (mn : String) : FP RX0 mn 96 0 17 .int := ⟨"GeoThreads$Course", (RX0, TX0, 19), rfl, by decide, (gd_mem (List.mem_of_getElem? (i := 261) (by decide +kernel)) rfl), rfl, by decide +kernel, Or.inl rfl⟩
theorem fl_X0_99_0 : FL RX0 99 0 18 := ⟨"GeoThreads$Course", (RX0, TX0, 19), rfl, by decide, (gd_mem (List.mem_of_getElem? (i := 262) (by decide +kernel)) rfl), (Or.inl rfl)⟩
theorem fp_X0_99_0 (mn : String) : FP RX0 mn 99 0 18 .boolean := ⟨"GeoThreads$Course", (RX0, TX0, 19), rfl, by decide, (gd_mem (List.mem_of_getElem? (i := 262) (by decide +kernel)) rfl), rfl, by decide +kernel, Or.inl rfl⟩
theorem lk_X11_49 : Cond.methodLink RX11 49 yX0_begin ∈ lw_gd := (gd_mem (List.mem_of_getElem? (i := 302) (by decide +kernel)) rfl)
theorem lk_X0_54 : Cond.methodLink RX0 54 yX10_begin ∈ lw_gd := (gd_mem (List.mem_of_getElem? (i := 306) (by decide +kernel)) rfl)
theorem lk_X0_72 : Cond.methodLink RX0 72 yX2_begin ∈ lw_gd := (gd_mem (List.mem_of_getElem? (i := 310) (by decide +kernel)) rfl)
theorem fl_X11_20_10 : FL RX11 20 10 0 := ⟨"GeoThreads", (RX11, TX11, 6), rfl, by decide, (gd_mem (List.mem_of_getElem? (i := 314) (by decide +kernel)) rfl), (Or.inl rfl)⟩
theorem fp_X11_20_10 : FP RX11 "<init>" 20 10 0 .int := ⟨"GeoThreads", (RX11, TX11, 6), rfl, by decide, (gd_mem (List.mem_of_getElem? (i := 314) (by decide +kernel)) rfl), rfl, by decide +kernel, Or.inr ⟨rfl, rfl, rfl⟩⟩
theorem fl_X11_24_10 : FL RX11 24 10 1 := ⟨"GeoThreads", (RX11, TX11, 6), rfl, by decide, (gd_mem (List.mem_of_getElem? (i := 315) (by decide +kernel)) rfl), (Or.inl rfl)⟩
theorem fp_X11_24_10 : FP RX11 "<init>" 24 10 1 .int := ⟨"GeoThreads", (RX11, TX11, 6), rfl, by decide, (gd_mem (List.mem_of_getElem? (i := 315) (by decide +kernel)) rfl), rfl, by decide +kernel, Or.inr ⟨rfl, rfl, rfl⟩⟩
theorem fl_X11_30_10 : FL RX11 30 10 2 := ⟨"GeoThreads", (RX11, TX11, 6), rfl, by decide, (gd_mem (List.mem_of_getElem? (i := 316) (by decide +kernel)) rfl), (Or.inl rfl)⟩
theorem fp_X11_30_10 : FP RX11 "<init>" 30 10 2 (.object "GeoThreads$Plan") := ⟨"GeoThreads", (RX11, TX11, 6), rfl, by decide, (gd_mem (List.mem_of_getElem? (i := 316) (by decide +kernel)) rfl), rfl, by decide +kernel, Or.inr ⟨rfl, rfl, rfl⟩⟩
theorem fl_X11_39_10 : FL RX11 39 10 3 := ⟨"GeoThreads", (RX11, TX11, 6), rfl, by decide, (gd_mem (List.mem_of_getElem? (i := 317) (by decide +kernel)) rfl), (Or.inl rfl)⟩
theorem fp_X11_39_10 : FP RX11 "<init>" 39 10 3 (.object "GeoThreads$Course") := ⟨"GeoThreads", (RX11, TX11, 6), rfl, by decide, (gd_mem (List.mem_of_getElem? (i := 317) (by decide +kernel)) rfl), rfl, by decide +kernel, Or.inr ⟨rfl, rfl, rfl⟩⟩
theorem fl_X11_43_10 : FL RX11 43 10 4 := ⟨"GeoThreads", (RX11, TX11, 6), rfl, by decide, (gd_mem (List.mem_of_getElem? (i := 318) (by decide +kernel)) rfl), (Or.inl rfl)⟩
theorem fp_X11_43_10 : FP RX11 "<init>" 43 10 4 (.object "GeoThreads$Course") := ⟨"GeoThreads", (RX11, TX11, 6), rfl, by decide, (gd_mem (List.mem_of_getElem? (i := 318) (by decide +kernel)) rfl), rfl, by decide +kernel, Or.inr ⟨rfl, rfl, rfl⟩⟩
theorem fl_X11_46_10 : FL RX11 46 10 5 := ⟨"GeoThreads", (RX11, TX11, 6), rfl, by decide, (gd_mem (List.mem_of_getElem? (i := 319) (by decide +kernel)) rfl), (Or.inl rfl)⟩
theorem fp_X11_46_10 : FP RX11 "<init>" 46 10 5 (.object "GeoThreads$Course") := ⟨"GeoThreads", (RX11, TX11, 6), rfl, by decide, (gd_mem (List.mem_of_getElem? (i := 319) (by decide +kernel)) rfl), rfl, by decide +kernel, Or.inr ⟨rfl, rfl, rfl⟩⟩
theorem lk_L_21 : Cond.methodLink RL 21 yX11_grid ∈ lw_gd := (gd_mem (List.mem_of_getElem? (i := 333) (by decide +kernel)) rfl)
theorem lk_X11_53 : Cond.methodLink RX11 53 yX11_isKind ∈ lw_gd := (gd_mem (List.mem_of_getElem? (i := 337) (by decide +kernel)) rfl)
theorem lk_X11_63 : Cond.methodLink RX11 63 yX11_refusal ∈ lw_gd := (gd_mem (List.mem_of_getElem? (i := 340) (by decide +kernel)) rfl)
theorem cl_X11_67 : Cond.classLink RX11 67 "GeoThreads$Grid" ∈ lw_gd := (gd_mem (List.mem_of_getElem? (i := 343) (by decide +kernel)) rfl)
theorem it_X1 : Cond.instantiable "GeoThreads$Grid" 2 ∈ lw_gd := (gd_mem (List.mem_of_getElem? (i := 344) (by decide +kernel)) rfl)
theorem lk_X11_69 : Cond.methodLink RX11 69 yX1_init ∈ lw_gd := (gd_mem (List.mem_of_getElem? (i := 345) (by decide +kernel)) rfl)
theorem lk_X1_3 : Cond.methodLink RX1 3 Lib.objectInit ∈ lw_gd := (gd_mem (List.mem_of_getElem? (i := 348) (by decide +kernel)) rfl)
theorem cl_X1_15 : Cond.classLink RX1 15 "GeoThreads$Line" ∈ lw_gd := (gd_mem (List.mem_of_getElem? (i := 349) (by decide +kernel)) rfl)
theorem fl_X1_9_1 : FL RX1 9 1 0 := ⟨"GeoThreads$Grid", (RX1, TX1, 2), rfl, by decide, (gd_mem (List.mem_of_getElem? (i := 351) (by decide +kernel)) rfl), (Or.inl rfl)⟩
theorem fp_X1_9_1 : FP RX1 "<init>" 9 1 0 .int := ⟨"GeoThreads$Grid", (RX1, TX1, 2), rfl, by decide, (gd_mem (List.mem_of_getElem? (i := 351) (by decide +kernel)) rfl), rfl, by decide +kernel, Or.inr ⟨rfl, rfl, rfl⟩⟩
theorem fl_X5_22_1 : FL RX5 22 1 0 := ⟨"GeoThreads$Grid", (RX1, TX1, 2), rfl, by decide, (gd_mem (List.mem_of_getElem? (i := 352) (by decide +kernel)) rfl), (Or.inl rfl)⟩
theorem fl_X11_91_1 : FL RX11 91 1 0 := ⟨"GeoThreads$Grid", (RX1, TX1, 2), rfl, by decide, (gd_mem (List.mem_of_getElem? (i := 353) (by decide +kernel)) rfl), (Or.inl rfl)⟩
theorem fl_X7_51_1 : FL RX7 51 1 0 := ⟨"GeoThreads$Grid", (RX1, TX1, 2), rfl, by decide, (gd_mem (List.mem_of_getElem? (i := 354) (by decide +kernel)) rfl), (Or.inl rfl)⟩
theorem fl_X1_17_1 : FL RX1 17 1 1 := ⟨"GeoThreads$Grid", (RX1, TX1, 2), rfl, by decide, (gd_mem (List.mem_of_getElem? (i := 355) (by decide +kernel)) rfl), (Or.inl rfl)⟩
theorem fp_X1_17_1 : FP RX1 "<init>" 17 1 1 (.array (.object "GeoThreads$Line")) := ⟨"GeoThreads$Grid", (RX1, TX1, 2), rfl, by decide, (gd_mem (List.mem_of_getElem? (i := 355) (by decide +kernel)) rfl), rfl, by decide +kernel, Or.inr ⟨rfl, rfl, rfl⟩⟩
theorem fl_X11_72_1 : FL RX11 72 1 1 := ⟨"GeoThreads$Grid", (RX1, TX1, 2), rfl, by decide, (gd_mem (List.mem_of_getElem? (i := 356) (by decide +kernel)) rfl), (Or.inl rfl)⟩
theorem fl_X5_34_1 : FL RX5 34 1 1 := ⟨"GeoThreads$Grid", (RX1, TX1, 2), rfl, by decide, (gd_mem (List.mem_of_getElem? (i := 357) (by decide +kernel)) rfl), (Or.inl rfl)⟩
theorem fl_X7_61_1 : FL RX7 61 1 1 := ⟨"GeoThreads$Grid", (RX1, TX1, 2), rfl, by decide, (gd_mem (List.mem_of_getElem? (i := 358) (by decide +kernel)) rfl), (Or.inl rfl)⟩
theorem lk_X11_76 : Cond.methodLink RX11 76 yX11_newLine ∈ lw_gd := (gd_mem (List.mem_of_getElem? (i := 364) (by decide +kernel)) rfl)
theorem cl_X11_98 : Cond.classLink RX11 98 "GeoThreads$Line" ∈ lw_gd := (gd_mem (List.mem_of_getElem? (i := 367) (by decide +kernel)) rfl)
theorem it_X3 : Cond.instantiable "GeoThreads$Line" 2 ∈ lw_gd := (gd_mem (List.mem_of_getElem? (i := 368) (by decide +kernel)) rfl)
theorem lk_X11_270 : Cond.methodLink RX11 270 yX3_init ∈ lw_gd := (gd_mem (List.mem_of_getElem? (i := 369) (by decide +kernel)) rfl)
theorem lk_X3_3 : Cond.methodLink RX3 3 Lib.objectInit ∈ lw_gd := (gd_mem (List.mem_of_getElem? (i := 372) (by decide +kernel)) rfl)
theorem fl_X3_9_3 : FL RX3 9 3 0 := ⟨"GeoThreads$Line", (RX3, TX3, 2), rfl, by decide, (gd_mem (List.mem_of_getElem? (i := 373) (by decide +kernel)) rfl), (Or.inl rfl)⟩
theorem fp_X3_9_3 : FP RX3 "<init>" 9 3 0 .int := ⟨"GeoThreads$Line", (RX3, TX3, 2), rfl, by decide, (gd_mem (List.mem_of_getElem? (i := 373) (by decide +kernel)) rfl), rfl, by decide +kernel, Or.inr ⟨rfl, rfl, rfl⟩⟩
theorem fl_X11_104_3 : FL RX11 104 3 0 := ⟨"GeoThreads$Line", (RX3, TX3, 2), rfl, by decide, (gd_mem (List.mem_of_getElem? (i := 374) (by decide +kernel)) rfl), (Or.inl rfl)⟩
theorem fl_X3_15_3 : FL RX3 15 3 1 := ⟨"GeoThreads$Line", (RX3, TX3, 2), rfl, by decide, (gd_mem (List.mem_of_getElem? (i := 375) (by decide +kernel)) rfl), (Or.inl rfl)⟩
theorem fp_X3_15_3 : FP RX3 "<init>" 15 3 1 (.array .long) := ⟨"GeoThreads$Line", (RX3, TX3, 2), rfl, by decide, (gd_mem (List.mem_of_getElem? (i := 375) (by decide +kernel)) rfl), rfl, by decide +kernel, Or.inr ⟨rfl, rfl, rfl⟩⟩
theorem fl_X11_100_3 : FL RX11 100 3 1 := ⟨"GeoThreads$Line", (RX3, TX3, 2), rfl, by decide, (gd_mem (List.mem_of_getElem? (i := 376) (by decide +kernel)) rfl), (Or.inl rfl)⟩
theorem ar_long : Cond.arrayClass .long ∈ lw_gd := (gd_mem (List.mem_of_getElem? (i := 382) (by decide +kernel)) rfl)
theorem lk_L_26 : Cond.methodLink RL 26 yX11_line ∈ lw_gd := (gd_mem (List.mem_of_getElem? (i := 383) (by decide +kernel)) rfl)
theorem lk_X11_84 : Cond.methodLink RX11 84 yX4_gridAt ∈ lw_gd := (gd_mem (List.mem_of_getElem? (i := 387) (by decide +kernel)) rfl)
theorem lk_X11_88 : Cond.methodLink RX11 88 yX1_has ∈ lw_gd := (gd_mem (List.mem_of_getElem? (i := 391) (by decide +kernel)) rfl)
theorem lk_L_32 : Cond.methodLink RL 32 yX11_put ∈ lw_gd := (gd_mem (List.mem_of_getElem? (i := 395) (by decide +kernel)) rfl)
theorem lk_X11_94 : Cond.methodLink RX11 94 yX1_faultOf ∈ lw_gd := (gd_mem (List.mem_of_getElem? (i := 399) (by decide +kernel)) rfl)
theorem lk_X1_21 : Cond.methodLink RX1 21 yX1_has ∈ lw_gd := (gd_mem (List.mem_of_getElem? (i := 403) (by decide +kernel)) rfl)
theorem lk_X11_97 : Cond.methodLink RX11 97 yX3_has ∈ lw_gd := (gd_mem (List.mem_of_getElem? (i := 404) (by decide +kernel)) rfl)
theorem lk_X11_105 : Cond.methodLink RX11 105 yX11_numberOf ∈ lw_gd := (gd_mem (List.mem_of_getElem? (i := 408) (by decide +kernel)) rfl)
theorem kc_X11_271 : Cond.constantFloat RX11 271 (1082130432 : UInt32) ∈ lw_gd := (gd_mem (List.mem_of_getElem? (i := 411) (by decide +kernel)) rfl)
theorem kc_X11_272 : Cond.constantDouble RX11 272 (4616189618054758400 : UInt64) ∈ lw_gd := (gd_mem (List.mem_of_getElem? (i := 412) (by decide +kernel)) rfl)
theorem lk_L_37 : Cond.methodLink RL 37 yX11_item ∈ lw_gd := (gd_mem (List.mem_of_getElem? (i := 413) (by decide +kernel)) rfl)
theorem kc_X11_109 : Cond.constantLong RX11 109 (-9223372036854775808 : Int64) ∈ lw_gd := (gd_mem (List.mem_of_getElem? (i := 417) (by decide +kernel)) rfl)
theorem lk_L_42 : Cond.methodLink RL 42 yX11_lay ∈ lw_gd := (gd_mem (List.mem_of_getElem? (i := 418) (by decide +kernel)) rfl)
theorem lk_L_47 : Cond.methodLink RL 47 yX11_size ∈ lw_gd := (gd_mem (List.mem_of_getElem? (i := 422) (by decide +kernel)) rfl)
theorem lk_L_52 : Cond.methodLink RL 52 yX11_way ∈ lw_gd := (gd_mem (List.mem_of_getElem? (i := 426) (by decide +kernel)) rfl)
theorem kc_X11_111 : Cond.constant RX11 111 (100000 : Int32) ∈ lw_gd := (gd_mem (List.mem_of_getElem? (i := 430) (by decide +kernel)) rfl)
theorem lk_X11_112 : Cond.methodLink RX11 112 yX11_isLoad ∈ lw_gd := (gd_mem (List.mem_of_getElem? (i := 431) (by decide +kernel)) rfl)
theorem lk_X11_116 : Cond.methodLink RX11 116 yX11_refusalOfTask ∈ lw_gd := (gd_mem (List.mem_of_getElem? (i := 435) (by decide +kernel)) rfl)
theorem cl_X11_120 : Cond.classLink RX11 120 "GeoThreads$Way" ∈ lw_gd := (gd_mem (List.mem_of_getElem? (i := 439) (by decide +kernel)) rfl)
theorem it_X9 : Cond.instantiable "GeoThreads$Way" 6 ∈ lw_gd := (gd_mem (List.mem_of_getElem? (i := 440) (by decide +kernel)) rfl)
theorem lk_X11_122 : Cond.methodLink RX11 122 yX9_init ∈ lw_gd := (gd_mem (List.mem_of_getElem? (i := 441) (by decide +kernel)) rfl)
theorem lk_X9_3 : Cond.methodLink RX9 3 yX8_init ∈ lw_gd := (gd_mem (List.mem_of_getElem? (i := 444) (by decide +kernel)) rfl)
theorem lk_X8_3 : Cond.methodLink RX8 3 Lib.objectInit ∈ lw_gd := (gd_mem (List.mem_of_getElem? (i := 447) (by decide +kernel)) rfl)
theorem fl_X9_9_8 : FL RX9 9 8 3 := ⟨"GeoThreads$Way", (RX9, TX9, 6), rfl, by decide, (gd_mem (List.mem_of_getElem? (i := 448) (by decide +kernel)) rfl), (Or.inl rfl)⟩
theorem fp_X9_9_8 : FP RX9 "<init>" 9 8 3 .int := ⟨"GeoThreads$Way", (RX9, TX9, 6), rfl, by decide, (gd_mem (List.mem_of_getElem? (i := 448) (by decide +kernel)) rfl), rfl, by decide +kernel, Or.inr ⟨rfl, rfl, rfl⟩⟩
theorem fl_X9_15_8 : FL RX9 15 8 4 := ⟨"GeoThreads$Way", (RX9, TX9, 6), rfl, by decide, (gd_mem (List.mem_of_getElem? (i := 449) (by decide +kernel)) rfl), (Or.inl rfl)⟩
theorem fp_X9_15_8 : FP RX9 "<init>" 15 8 4 .long := ⟨"GeoThreads$Way", (RX9, TX9, 6), rfl, by decide, (gd_mem (List.mem_of_getElem? (i := 449) (by decide +kernel)) rfl), rfl, by decide +kernel, Or.inr ⟨rfl, rfl, rfl⟩⟩
theorem fl_X9_19_8 : FL RX9 19 8 5 := ⟨"GeoThreads$Way", (RX9, TX9, 6), rfl, by decide, (gd_mem (List.mem_of_getElem? (i := 450) (by decide +kernel)) rfl), (Or.inl rfl)⟩
theorem fp_X9_19_8 : FP RX9 "<init>" 19 8 5 .int := ⟨"GeoThreads$Way", (RX9, TX9, 6), rfl, by decide, (gd_mem (List.mem_of_getElem? (i := 450) (by decide +kernel)) rfl), rfl, by decide +kernel, Or.inr ⟨rfl, rfl, rfl⟩⟩
theorem fl_X8_9_5 : FL RX8 9 5 0 := ⟨"GeoThreads$Task", (RX5, TX5, 5), rfl, by decide, (gd_mem (List.mem_of_getElem? (i := 451) (by decide +kernel)) rfl), (Or.inl rfl)⟩
theorem fp_X8_9_5 : FP RX8 "<init>" 9 5 0 .int := ⟨"GeoThreads$Task", (RX5, TX5, 5), rfl, by decide, (gd_mem (List.mem_of_getElem? (i := 451) (by decide +kernel)) rfl), rfl, by decide +kernel, Or.inr ⟨rfl, rfl, rfl⟩⟩
theorem fl_X8_9_7 : FL RX8 9 7 0 := ⟨"GeoThreads$Task", (RX7, TX7, 7), rfl, by decide, (gd_mem (List.mem_of_getElem? (i := 451) (by decide +kernel)) rfl), (Or.inl rfl)⟩
theorem fp_X8_9_7 : FP RX8 "<init>" 9 7 0 .int := ⟨"GeoThreads$Task", (RX7, TX7, 7), rfl, by decide, (gd_mem (List.mem_of_getElem? (i := 451) (by decide +kernel)) rfl), rfl, by decide +kernel, Or.inr ⟨rfl, rfl, rfl⟩⟩
theorem fl_X8_9_8 : FL RX8 9 8 0 := ⟨"GeoThreads$Task", (RX9, TX9, 6), rfl, by decide, (gd_mem (List.mem_of_getElem? (i := 451) (by decide +kernel)) rfl), (Or.inl rfl)⟩
theorem fp_X8_9_8 : FP RX8 "<init>" 9 8 0 .int := ⟨"GeoThreads$Task", (RX9, TX9, 6), rfl, by decide, (gd_mem (List.mem_of_getElem? (i := 451) (by decide +kernel)) rfl), rfl, by decide +kernel, Or.inr ⟨rfl, rfl, rfl⟩⟩
theorem fl_X5_19_5 : FL RX5 19 5 0 := ⟨"GeoThreads$Reader", (RX5, TX5, 5), rfl, by decide, (gd_mem (List.mem_of_getElem? (i := 452) (by decide +kernel)) rfl), (Or.inr (gd_mem (List.mem_of_getElem? (i := 453) (by decide +kernel)) rfl))⟩
theorem fl_X9_22_8 : FL RX9 22 8 0 := ⟨"GeoThreads$Way", (RX9, TX9, 6), rfl, by decide, (gd_mem (List.mem_of_getElem? (i := 454) (by decide +kernel)) rfl), (Or.inr (gd_mem (List.mem_of_getElem? (i := 455) (by decide +kernel)) rfl))⟩
theorem fl_X11_200_5 : FL RX11 200 5 0 := ⟨"GeoThreads$Task", (RX5, TX5, 5), rfl, by decide, (gd_mem (List.mem_of_getElem? (i := 456) (by decide +kernel)) rfl), (Or.inl rfl)⟩
theorem fl_X11_200_7 : FL RX11 200 7 0 := ⟨"GeoThreads$Task", (RX7, TX7, 7), rfl, by decide, (gd_mem (List.mem_of_getElem? (i := 456) (by decide +kernel)) rfl), (Or.inl rfl)⟩
theorem fl_X11_200_8 : FL RX11 200 8 0 := ⟨"GeoThreads$Task", (RX9, TX9, 6), rfl, by decide, (gd_mem (List.mem_of_getElem? (i := 456) (by decide +kernel)) rfl), (Or.inl rfl)⟩
theorem fl_X8_15_5 : FL RX8 15 5 1 := ⟨"GeoThreads$Task", (RX5, TX5, 5), rfl, by decide, (gd_mem (List.mem_of_getElem? (i := 457) (by decide +kernel)) rfl), (Or.inl rfl)⟩
theorem fp_X8_15_5 : FP RX8 "<init>" 15 5 1 .int := ⟨"GeoThreads$Task", (RX5, TX5, 5), rfl, by decide, (gd_mem (List.mem_of_getElem? (i := 457) (by decide +kernel)) rfl), rfl, by decide +kernel, Or.inr ⟨rfl, rfl, rfl⟩⟩
theorem fl_X8_15_7 : FL RX8 15 7 1 := ⟨"GeoThreads$Task", (RX7, TX7, 7), rfl, by decide, (gd_mem (List.mem_of_getElem? (i := 457) (by decide +kernel)) rfl), (Or.inl rfl)⟩
theorem fp_X8_15_7 : FP RX8 "<init>" 15 7 1 .int := ⟨"GeoThreads$Task", (RX7, TX7, 7), rfl, by decide, (gd_mem (List.mem_of_getElem? (i := 457) (by decide +kernel)) rfl), rfl, by decide +kernel, Or.inr ⟨rfl, rfl, rfl⟩⟩
theorem fl_X8_15_8 : FL RX8 15 8 1 := ⟨"GeoThreads$Task", (RX9, TX9, 6), rfl, by decide, (gd_mem (List.mem_of_getElem? (i := 457) (by decide +kernel)) rfl), (Or.inl rfl)⟩
theorem fp_X8_15_8 : FP RX8 "<init>" 15 8 1 .int := ⟨"GeoThreads$Task", (RX9, TX9, 6), rfl, by decide, (gd_mem (List.mem_of_getElem? (i := 457) (by decide +kernel)) rfl), rfl, by decide +kernel, Or.inr ⟨rfl, rfl, rfl⟩⟩
theorem fl_X0_146_5 : FL RX0 146 5 1 := ⟨"GeoThreads$Task", (RX5, TX5, 5), rfl, by decide, (gd_mem (List.mem_of_getElem? (i := 458) (by decide +kernel)) rfl), (Or.inl rfl)⟩
theorem fl_X0_146_7 : FL RX0 146 7 1 := ⟨"GeoThreads$Task", (RX7, TX7, 7), rfl, by decide, (gd_mem (List.mem_of_getElem? (i := 458) (by decide +kernel)) rfl), (Or.inl rfl)⟩
theorem fl_X0_146_8 : FL RX0 146 8 1 := ⟨"GeoThreads$Task", (RX9, TX9, 6), rfl, by decide, (gd_mem (List.mem_of_getElem? (i := 458) (by decide +kernel)) rfl), (Or.inl rfl)⟩
theorem fl_X8_18_5 : FL RX8 18 5 2 := ⟨"GeoThreads$Task", (RX5, TX5, 5), rfl, by decide, (gd_mem (List.mem_of_getElem? (i := 459) (by decide +kernel)) rfl), (Or.inl rfl)⟩
theorem fp_X8_18_5 : FP RX8 "<init>" 18 5 2 .int := ⟨"GeoThreads$Task", (RX5, TX5, 5), rfl, by decide, (gd_mem (List.mem_of_getElem? (i := 459) (by decide +kernel)) rfl), rfl, by decide +kernel, Or.inr ⟨rfl, rfl, rfl⟩⟩
theorem fl_X8_18_7 : FL RX8 18 7 2 := ⟨"GeoThreads$Task", (RX7, TX7, 7), rfl, by decide, (gd_mem (List.mem_of_getElem? (i := 459) (by decide +kernel)) rfl), (Or.inl rfl)⟩
theorem fp_X8_18_7 : FP RX8 "<init>" 18 7 2 .int := ⟨"GeoThreads$Task", (RX7, TX7, 7), rfl, by decide, (gd_mem (List.mem_of_getElem? (i := 459) (by decide +kernel)) rfl), rfl, by decide +kernel, Or.inr ⟨rfl, rfl, rfl⟩⟩
theorem fl_X8_18_8 : FL RX8 18 8 2 := ⟨"GeoThreads$Task", (RX9, TX9, 6), rfl, by decide, (gd_mem (List.mem_of_getElem? (i := 459) (by decide +kernel)) rfl), (Or.inl rfl)⟩
theorem fp_X8_18_8 : FP RX8 "<init>" 18 8 2 .int := ⟨"GeoThreads$Task", (RX9, TX9, 6), rfl, by decide, (gd_mem (List.mem_of_getElem? (i := 459) (by decide +kernel)) rfl), rfl, by decide +kernel, Or.inr ⟨rfl, rfl, rfl⟩⟩
theorem fl_X0_178_5 : FL RX0 178 5 2 := ⟨"GeoThreads$Task", (RX5, TX5, 5), rfl, by decide, (gd_mem (List.mem_of_getElem? (i := 460) (by decide +kernel)) rfl), (Or.inl rfl)⟩
theorem fl_X0_178_7 : FL RX0 178 7 2 := ⟨"GeoThreads$Task", (RX7, TX7, 7), rfl, by decide, (gd_mem (List.mem_of_getElem? (i := 460) (by decide +kernel)) rfl), (Or.inl rfl)⟩
theorem fl_X0_178_8 : FL RX0 178 8 2 := ⟨"GeoThreads$Task", (RX9, TX9, 6), rfl, by decide, (gd_mem (List.mem_of_getElem? (i := 460) (by decide +kernel)) rfl), (Or.inl rfl)⟩
theorem lk_X11_125 : Cond.methodLink RX11 125 yX4_addTask ∈ lw_gd := (gd_mem (List.mem_of_getElem? (i := 474) (by decide +kernel)) rfl)
theorem lk_L_57 : Cond.methodLink RL 57 yX11_reader ∈ lw_gd := (gd_mem (List.mem_of_getElem? (i := 478) (by decide +kernel)) rfl)
theorem cl_X11_129 : Cond.classLink RX11 129 "GeoThreads$Reader" ∈ lw_gd := (gd_mem (List.mem_of_getElem? (i := 482) (by decide +kernel)) rfl)
theorem it_X5 : Cond.instantiable "GeoThreads$Reader" 5 ∈ lw_gd := (gd_mem (List.mem_of_getElem? (i := 483) (by decide +kernel)) rfl)
theorem lk_X11_131 : Cond.methodLink RX11 131 yX5_init ∈ lw_gd := (gd_mem (List.mem_of_getElem? (i := 484) (by decide +kernel)) rfl)
theorem lk_X5_3 : Cond.methodLink RX5 3 yX8_init ∈ lw_gd := (gd_mem (List.mem_of_getElem? (i := 487) (by decide +kernel)) rfl)
theorem fl_X5_9_5 : FL RX5 9 5 3 := ⟨"GeoThreads$Reader", (RX5, TX5, 5), rfl, by decide, (gd_mem (List.mem_of_getElem? (i := 488) (by decide +kernel)) rfl), (Or.inl rfl)⟩
theorem fp_X5_9_5 : FP RX5 "<init>" 9 5 3 (.object "GeoThreads$Grid") := ⟨"GeoThreads$Reader", (RX5, TX5, 5), rfl, by decide, (gd_mem (List.mem_of_getElem? (i := 488) (by decide +kernel)) rfl), rfl, by decide +kernel, Or.inr ⟨rfl, rfl, rfl⟩⟩
theorem fl_X5_15_5 : FL RX5 15 5 4 := ⟨"GeoThreads$Reader", (RX5, TX5, 5), rfl, by decide, (gd_mem (List.mem_of_getElem? (i := 489) (by decide +kernel)) rfl), (Or.inl rfl)⟩
theorem fp_X5_15_5 : FP RX5 "<init>" 15 5 4 .int := ⟨"GeoThreads$Reader", (RX5, TX5, 5), rfl, by decide, (gd_mem (List.mem_of_getElem? (i := 489) (by decide +kernel)) rfl), rfl, by decide +kernel, Or.inr ⟨rfl, rfl, rfl⟩⟩
theorem lk_L_62 : Cond.methodLink RL 62 yX11_search ∈ lw_gd := (gd_mem (List.mem_of_getElem? (i := 498) (by decide +kernel)) rfl)
theorem cl_X11_141 : Cond.classLink RX11 141 "GeoThreads$Search" ∈ lw_gd := (gd_mem (List.mem_of_getElem? (i := 502) (by decide +kernel)) rfl)
theorem it_X6 : Cond.instantiable "GeoThreads$Search" 4 ∈ lw_gd := (gd_mem (List.mem_of_getElem? (i := 503) (by decide +kernel)) rfl)
theorem lk_X11_143 : Cond.methodLink RX11 143 yX6_init ∈ lw_gd := (gd_mem (List.mem_of_getElem? (i := 504) (by decide +kernel)) rfl)
theorem lk_X6_1 : Cond.methodLink RX6 1 Lib.objectInit ∈ lw_gd := (gd_mem (List.mem_of_getElem? (i := 507) (by decide +kernel)) rfl)
theorem fl_X6_7_6 : FL RX6 7 6 0 := ⟨"GeoThreads$Search", (RX6, TX6, 4), rfl, by decide, (gd_mem (List.mem_of_getElem? (i := 508) (by decide +kernel)) rfl), (Or.inl rfl)⟩
theorem fp_X6_7_6 : FP RX6 "<init>" 7 6 0 (.object "GeoThreads$Grid") := ⟨"GeoThreads$Search", (RX6, TX6, 4), rfl, by decide, (gd_mem (List.mem_of_getElem? (i := 508) (by decide +kernel)) rfl), rfl, by decide +kernel, Or.inr ⟨rfl, rfl, rfl⟩⟩
theorem fl_X7_45_6 : FL RX7 45 6 0 := ⟨"GeoThreads$Search", (RX6, TX6, 4), rfl, by decide, (gd_mem (List.mem_of_getElem? (i := 509) (by decide +kernel)) rfl), (Or.inl rfl)⟩
theorem fl_X6_13_6 : FL RX6 13 6 1 := ⟨"GeoThreads$Search", (RX6, TX6, 4), rfl, by decide, (gd_mem (List.mem_of_getElem? (i := 510) (by decide +kernel)) rfl), (Or.inl rfl)⟩
theorem fp_X6_13_6 : FP RX6 "<init>" 13 6 1 .int := ⟨"GeoThreads$Search", (RX6, TX6, 4), rfl, by decide, (gd_mem (List.mem_of_getElem? (i := 510) (by decide +kernel)) rfl), rfl, by decide +kernel, Or.inr ⟨rfl, rfl, rfl⟩⟩
theorem fl_X7_56_6 : FL RX7 56 6 1 := ⟨"GeoThreads$Search", (RX6, TX6, 4), rfl, by decide, (gd_mem (List.mem_of_getElem? (i := 511) (by decide +kernel)) rfl), (Or.inl rfl)⟩
theorem fl_X6_17_6 : FL RX6 17 6 2 := ⟨"GeoThreads$Search", (RX6, TX6, 4), rfl, by decide, (gd_mem (List.mem_of_getElem? (i := 512) (by decide +kernel)) rfl), (Or.inl rfl)⟩
theorem fp_X6_17_6 : FP RX6 "<init>" 17 6 2 .int := ⟨"GeoThreads$Search", (RX6, TX6, 4), rfl, by decide, (gd_mem (List.mem_of_getElem? (i := 512) (by decide +kernel)) rfl), rfl, by decide +kernel, Or.inr ⟨rfl, rfl, rfl⟩⟩
theorem fl_X7_82_6 : FL RX7 82 6 2 := ⟨"GeoThreads$Search", (RX6, TX6, 4), rfl, by decide, (gd_mem (List.mem_of_getElem? (i := 513) (by decide +kernel)) rfl), (Or.inl rfl)⟩
theorem fl_X6_20_6 : FL RX6 20 6 3 := ⟨"GeoThreads$Search", (RX6, TX6, 4), rfl, by decide, (gd_mem (List.mem_of_getElem? (i := 514) (by decide +kernel)) rfl), (Or.inl rfl)⟩
theorem fp_X6_20_6 : FP RX6 "<init>" 20 6 3 .long := ⟨"GeoThreads$Search", (RX6, TX6, 4), rfl, by decide, (gd_mem (List.mem_of_getElem? (i := 514) (by decide +kernel)) rfl), rfl, by decide +kernel, Or.inr ⟨rfl, rfl, rfl⟩⟩
theorem fl_X0_66_6 : FL RX0 66 6 3 := ⟨"GeoThreads$Search", (RX6, TX6, 4), rfl, by decide, (gd_mem (List.mem_of_getElem? (i := 515) (by decide +kernel)) rfl), (Or.inl rfl)⟩
theorem lk_X11_150 : Cond.methodLink RX11 150 yX2_begin ∈ lw_gd := (gd_mem (List.mem_of_getElem? (i := 525) (by decide +kernel)) rfl)
theorem lk_L_66 : Cond.methodLink RL 66 yX11_share ∈ lw_gd := (gd_mem (List.mem_of_getElem? (i := 526) (by decide +kernel)) rfl)
theorem cl_X11_155 : Cond.classLink RX11 155 "GeoThreads$Share" ∈ lw_gd := (gd_mem (List.mem_of_getElem? (i := 530) (by decide +kernel)) rfl)
theorem it_X7 : Cond.instantiable "GeoThreads$Share" 7 ∈ lw_gd := (gd_mem (List.mem_of_getElem? (i := 531) (by decide +kernel)) rfl)
theorem lk_X11_157 : Cond.methodLink RX11 157 yX7_init ∈ lw_gd := (gd_mem (List.mem_of_getElem? (i := 532) (by decide +kernel)) rfl)
theorem lk_X7_3 : Cond.methodLink RX7 3 yX8_init ∈ lw_gd := (gd_mem (List.mem_of_getElem? (i := 535) (by decide +kernel)) rfl)
theorem fl_X7_9_7 : FL RX7 9 7 3 := ⟨"GeoThreads$Share", (RX7, TX7, 7), rfl, by decide, (gd_mem (List.mem_of_getElem? (i := 536) (by decide +kernel)) rfl), (Or.inl rfl)⟩
theorem fp_X7_9_7 : FP RX7 "<init>" 9 7 3 (.object "GeoThreads$Search") := ⟨"GeoThreads$Share", (RX7, TX7, 7), rfl, by decide, (gd_mem (List.mem_of_getElem? (i := 536) (by decide +kernel)) rfl), rfl, by decide +kernel, Or.inr ⟨rfl, rfl, rfl⟩⟩
theorem fl_X7_15_7 : FL RX7 15 7 4 := ⟨"GeoThreads$Share", (RX7, TX7, 7), rfl, by decide, (gd_mem (List.mem_of_getElem? (i := 537) (by decide +kernel)) rfl), (Or.inl rfl)⟩
theorem fp_X7_15_7 : FP RX7 "<init>" 15 7 4 .int := ⟨"GeoThreads$Share", (RX7, TX7, 7), rfl, by decide, (gd_mem (List.mem_of_getElem? (i := 537) (by decide +kernel)) rfl), rfl, by decide +kernel, Or.inr ⟨rfl, rfl, rfl⟩⟩
theorem fl_X0_199_7 : FL RX0 199 7 4 := ⟨"GeoThreads$Share", (RX7, TX7, 7), rfl, by decide, (gd_mem (List.mem_of_getElem? (i := 538) (by decide +kernel)) rfl), (Or.inl rfl)⟩
theorem fl_X7_19_7 : FL RX7 19 7 5 := ⟨"GeoThreads$Share", (RX7, TX7, 7), rfl, by decide, (gd_mem (List.mem_of_getElem? (i := 539) (by decide +kernel)) rfl), (Or.inl rfl)⟩
theorem fp_X7_19_7 : FP RX7 "<init>" 19 7 5 .int := ⟨"GeoThreads$Share", (RX7, TX7, 7), rfl, by decide, (gd_mem (List.mem_of_getElem? (i := 539) (by decide +kernel)) rfl), rfl, by decide +kernel, Or.inr ⟨rfl, rfl, rfl⟩⟩
theorem fl_X7_22_7 : FL RX7 22 7 6 := ⟨"GeoThreads$Share", (RX7, TX7, 7), rfl, by decide, (gd_mem (List.mem_of_getElem? (i := 540) (by decide +kernel)) rfl), (Or.inl rfl)⟩
theorem fp_X7_22_7 : FP RX7 "<init>" 22 7 6 .int := ⟨"GeoThreads$Share", (RX7, TX7, 7), rfl, by decide, (gd_mem (List.mem_of_getElem? (i := 540) (by decide +kernel)) rfl), rfl, by decide +kernel, Or.inr ⟨rfl, rfl, rfl⟩⟩
theorem lk_L_71 : Cond.methodLink RL 71 yX11_turn ∈ lw_gd := (gd_mem (List.mem_of_getElem? (i := 553) (by decide +kernel)) rfl)
theorem lk_X11_160 : Cond.methodLink RX11 160 yX11_isThread ∈ lw_gd := (gd_mem (List.mem_of_getElem? (i := 557) (by decide +kernel)) rfl)
theorem lk_L_76 : Cond.methodLink RL 76 yX11_run ∈ lw_gd := (gd_mem (List.mem_of_getElem? (i := 561) (by decide +kernel)) rfl)
theorem lk_X11_170 : Cond.methodLink RX11 170 yX0_goOn ∈ lw_gd := (gd_mem (List.mem_of_getElem? (i := 565) (by decide +kernel)) rfl)
theorem lk_X0_105 : Cond.methodLink RX0 105 yX0_nextThread ∈ lw_gd := (gd_mem (List.mem_of_getElem? (i := 569) (by decide +kernel)) rfl)
theorem lk_X0_109 : Cond.methodLink RX0 109 yX0_giveTurn ∈ lw_gd := (gd_mem (List.mem_of_getElem? (i := 573) (by decide +kernel)) rfl)
theorem lk_X0_122 : Cond.methodLink RX0 122 yX0_takeNext ∈ lw_gd := (gd_mem (List.mem_of_getElem? (i := 577) (by decide +kernel)) rfl)
theorem lk_X0_132 : Cond.methodLink RX0 132 yX0_leastThatFits ∈ lw_gd := (gd_mem (List.mem_of_getElem? (i := 581) (by decide +kernel)) rfl)
theorem lk_X0_151 : Cond.methodLink RX0 151 Lib.Math.max.name ∈ lw_gd := (gd_mem (List.mem_of_getElem? (i := 585) (by decide +kernel)) rfl)
theorem lk_X0_157 : Cond.methodLink RX0 157 yX0_write ∈ lw_gd := (gd_mem (List.mem_of_getElem? (i := 586) (by decide +kernel)) rfl)
theorem lk_X0_125 : Cond.methodLink RX0 125 yX0_goOnWith ∈ lw_gd := (gd_mem (List.mem_of_getElem? (i := 590) (by decide +kernel)) rfl)
theorem lk_X0_167 : Cond.methodLink RX0 167 ⟨"GeoThreads$Task", "step", "(LGeoThreads$Work;[LGeoThreads$Hunt;)V"⟩ ∈ lw_gd := (gd_mem (List.mem_of_getElem? (i := 594) (by decide +kernel)) rfl)
theorem lk_X5_25 : Cond.methodLink RX5 25 yX10_fail ∈ lw_gd := (gd_mem (List.mem_of_getElem? (i := 600) (by decide +kernel)) rfl)
theorem lk_X5_38 : Cond.methodLink RX5 38 yX5_meetMissing ∈ lw_gd := (gd_mem (List.mem_of_getElem? (i := 604) (by decide +kernel)) rfl)
theorem lk_X5_59 : Cond.methodLink RX5 59 yX10_nextLine ∈ lw_gd := (gd_mem (List.mem_of_getElem? (i := 608) (by decide +kernel)) rfl)
theorem lk_X5_45 : Cond.methodLink RX5 45 yX3_has ∈ lw_gd := (gd_mem (List.mem_of_getElem? (i := 612) (by decide +kernel)) rfl)
theorem lk_X5_51 : Cond.methodLink RX5 51 yX3_worth ∈ lw_gd := (gd_mem (List.mem_of_getElem? (i := 613) (by decide +kernel)) rfl)
theorem lk_X3_19 : Cond.methodLink RX3 19 yX3_has ∈ lw_gd := (gd_mem (List.mem_of_getElem? (i := 617) (by decide +kernel)) rfl)
theorem kc_X3_23 : Cond.constantLong RX3 23 (1000000 : Int64) ∈ lw_gd := (gd_mem (List.mem_of_getElem? (i := 618) (by decide +kernel)) rfl)
theorem lk_X5_55 : Cond.methodLink RX5 55 yX10_read ∈ lw_gd := (gd_mem (List.mem_of_getElem? (i := 619) (by decide +kernel)) rfl)
theorem lk_X7_30 : Cond.methodLink RX7 30 yX7_stepInLine ∈ lw_gd := (gd_mem (List.mem_of_getElem? (i := 626) (by decide +kernel)) rfl)
theorem lk_X7_57 : Cond.methodLink RX7 57 yX1_faultOf ∈ lw_gd := (gd_mem (List.mem_of_getElem? (i := 630) (by decide +kernel)) rfl)
theorem lk_X7_68 : Cond.methodLink RX7 68 yX3_has ∈ lw_gd := (gd_mem (List.mem_of_getElem? (i := 631) (by decide +kernel)) rfl)
theorem lk_X7_74 : Cond.methodLink RX7 74 yX3_worth ∈ lw_gd := (gd_mem (List.mem_of_getElem? (i := 632) (by decide +kernel)) rfl)
theorem lk_X7_78 : Cond.methodLink RX7 78 yX10_read ∈ lw_gd := (gd_mem (List.mem_of_getElem? (i := 633) (by decide +kernel)) rfl)
theorem lk_X7_94 : Cond.methodLink RX7 94 yX2_offer ∈ lw_gd := (gd_mem (List.mem_of_getElem? (i := 634) (by decide +kernel)) rfl)
theorem lk_X7_34 : Cond.methodLink RX7 34 yX10_fail ∈ lw_gd := (gd_mem (List.mem_of_getElem? (i := 638) (by decide +kernel)) rfl)
theorem lk_X7_38 : Cond.methodLink RX7 38 yX10_nextLine ∈ lw_gd := (gd_mem (List.mem_of_getElem? (i := 639) (by decide +kernel)) rfl)
theorem lk_X9_28 : Cond.methodLink RX9 28 Lib.Math.min.name ∈ lw_gd := (gd_mem (List.mem_of_getElem? (i := 643) (by decide +kernel)) rfl)
theorem lk_X9_34 : Cond.methodLink RX9 34 yX10_fail ∈ lw_gd := (gd_mem (List.mem_of_getElem? (i := 644) (by decide +kernel)) rfl)
theorem lk_X0_174 : Cond.methodLink RX0 174 yX8_usedBy ∈ lw_gd := (gd_mem (List.mem_of_getElem? (i := 645) (by decide +kernel)) rfl)
theorem lk_X0_181 : Cond.methodLink RX0 181 yX0_leave ∈ lw_gd := (gd_mem (List.mem_of_getElem? (i := 654) (by decide +kernel)) rfl)
theorem lk_X0_129 : Cond.methodLink RX0 129 yX0_lookWhatIsTaken ∈ lw_gd := (gd_mem (List.mem_of_getElem? (i := 658) (by decide +kernel)) rfl)
theorem lk_X0_184 : Cond.methodLink RX0 184 yX8_isWay ∈ lw_gd := (gd_mem (List.mem_of_getElem? (i := 662) (by decide +kernel)) rfl)
theorem lk_X0_188 : Cond.methodLink RX0 188 yX10_isLeft ∈ lw_gd := (gd_mem (List.mem_of_getElem? (i := 669) (by decide +kernel)) rfl)
theorem lk_X0_191 : Cond.methodLink RX0 191 yX0_takeWay ∈ lw_gd := (gd_mem (List.mem_of_getElem? (i := 673) (by decide +kernel)) rfl)
theorem lk_X0_194 : Cond.methodLink RX0 194 yX0_endWaiting ∈ lw_gd := (gd_mem (List.mem_of_getElem? (i := 677) (by decide +kernel)) rfl)
theorem lk_X0_113 : Cond.methodLink RX0 113 yX0_doFailedSharesAgain ∈ lw_gd := (gd_mem (List.mem_of_getElem? (i := 681) (by decide +kernel)) rfl)
theorem cl_X0_197 : Cond.classLink RX0 197 "GeoThreads$Share" ∈ lw_gd := (gd_mem (List.mem_of_getElem? (i := 685) (by decide +kernel)) rfl)
theorem lk_X0_202 : Cond.methodLink RX0 202 yX7_doAgain ∈ lw_gd := (gd_mem (List.mem_of_getElem? (i := 686) (by decide +kernel)) rfl)
theorem lk_X7_98 : Cond.methodLink RX7 98 yX10_begin ∈ lw_gd := (gd_mem (List.mem_of_getElem? (i := 690) (by decide +kernel)) rfl)
theorem lk_L_80 : Cond.methodLink RL 80 yX11_interrupt ∈ lw_gd := (gd_mem (List.mem_of_getElem? (i := 691) (by decide +kernel)) rfl)
theorem lk_X11_173 : Cond.methodLink RX11 173 yX11_isTask ∈ lw_gd := (gd_mem (List.mem_of_getElem? (i := 695) (by decide +kernel)) rfl)
theorem lk_X11_176 : Cond.methodLink RX11 176 yX0_breakOff ∈ lw_gd := (gd_mem (List.mem_of_getElem? (i := 699) (by decide +kernel)) rfl)
theorem lk_L_84 : Cond.methodLink RL 84 yX11_close ∈ lw_gd := (gd_mem (List.mem_of_getElem? (i := 703) (by decide +kernel)) rfl)
theorem lk_X11_179 : Cond.methodLink RX11 179 yX0_stopAll ∈ lw_gd := (gd_mem (List.mem_of_getElem? (i := 707) (by decide +kernel)) rfl)
theorem lk_L_89 : Cond.methodLink RL 89 yX11_anew ∈ lw_gd := (gd_mem (List.mem_of_getElem? (i := 711) (by decide +kernel)) rfl)
theorem lk_L_93 : Cond.methodLink RL 93 yX11_taken ∈ lw_gd := (gd_mem (List.mem_of_getElem? (i := 715) (by decide +kernel)) rfl)
theorem lk_L_97 : Cond.methodLink RL 97 yX11_answer ∈ lw_gd := (gd_mem (List.mem_of_getElem? (i := 719) (by decide +kernel)) rfl)
theorem lk_X11_188 : Cond.methodLink RX11 188 yX0_answerOf ∈ lw_gd := (gd_mem (List.mem_of_getElem? (i := 723) (by decide +kernel)) rfl)
theorem kc_X0_209 : Cond.constantLong RX0 209 (-9223372036854775808 : Int64) ∈ lw_gd := (gd_mem (List.mem_of_getElem? (i := 727) (by decide +kernel)) rfl)
theorem lk_X0_211 : Cond.methodLink RX0 211 ⟨"GeoThreads$Task", "foundBy", "(LGeoThreads$Work;)J"⟩ ∈ lw_gd := (gd_mem (List.mem_of_getElem? (i := 728) (by decide +kernel)) rfl)
theorem kc_X7_101 : Cond.constantLong RX7 101 (-9223372036854775808 : Int64) ∈ lw_gd := (gd_mem (List.mem_of_getElem? (i := 737) (by decide +kernel)) rfl)
theorem lk_L_102 : Cond.methodLink RL 102 yX11_told ∈ lw_gd := (gd_mem (List.mem_of_getElem? (i := 741) (by decide +kernel)) rfl)
theorem lk_X11_228 : Cond.methodLink RX11 228 ⟨"GeoThreads$Task", "rank", "()I"⟩ ∈ lw_gd := (gd_mem (List.mem_of_getElem? (i := 745) (by decide +kernel)) rfl)
theorem lk_L_106 : Cond.methodLink RL 106 yX11_best ∈ lw_gd := (gd_mem (List.mem_of_getElem? (i := 757) (by decide +kernel)) rfl)
theorem kc_X11_231 : Cond.constantLong RX11 231 (-1 : Int64) ∈ lw_gd := (gd_mem (List.mem_of_getElem? (i := 761) (by decide +kernel)) rfl)
theorem lk_X11_243 : Cond.methodLink RX11 243 yX0_lostOf ∈ lw_gd := (gd_mem (List.mem_of_getElem? (i := 762) (by decide +kernel)) rfl)
theorem lk_L_111 : Cond.methodLink RL 111 yX11_note ∈ lw_gd := (gd_mem (List.mem_of_getElem? (i := 766) (by decide +kernel)) rfl)
theorem lk_L_115 : Cond.methodLink RL 115 yX11_finished ∈ lw_gd := (gd_mem (List.mem_of_getElem? (i := 770) (by decide +kernel)) rfl)
theorem lk_L_119 : Cond.methodLink RL 119 yX11_count ∈ lw_gd := (gd_mem (List.mem_of_getElem? (i := 774) (by decide +kernel)) rfl)
theorem lk_L_123 : Cond.methodLink RL 123 yX11_equal ∈ lw_gd := (gd_mem (List.mem_of_getElem? (i := 778) (by decide +kernel)) rfl)
theorem kc_X11_265 : Cond.constant RX11 265 (1000000 : Int32) ∈ lw_gd := (gd_mem (List.mem_of_getElem? (i := 782) (by decide +kernel)) rfl)
theorem lk_X11_266 : Cond.methodLink RX11 266 yX0_foundAs ∈ lw_gd := (gd_mem (List.mem_of_getElem? (i := 783) (by decide +kernel)) rfl)
theorem lk_X0_215 : Cond.methodLink RX0 215 yX0_answerOf ∈ lw_gd := (gd_mem (List.mem_of_getElem? (i := 787) (by decide +kernel)) rfl)
theorem lk_X0_219 : Cond.methodLink RX0 219 yX0_endedAs ∈ lw_gd := (gd_mem (List.mem_of_getElem? (i := 788) (by decide +kernel)) rfl)
theorem lk_L_9 : Cond.methodLink RL 9 yL_cell ∈ lw_gd := (gd_mem (List.mem_of_getElem? (i := 792) (by decide +kernel)) rfl)
theorem cl_L_18 : Cond.classLink RL 18 "GeoThreadsModel" ∈ lw_gd := (gd_mem (List.mem_of_getElem? (i := 795) (by decide +kernel)) rfl)
theorem it_X12 : Cond.instantiable "GeoThreadsModel" 36 ∈ lw_gd := (gd_mem (List.mem_of_getElem? (i := 796) (by decide +kernel)) rfl)
theorem lk_L_20 : Cond.methodLink RL 20 yX12_init ∈ lw_gd := (gd_mem (List.mem_of_getElem? (i := 797) (by decide +kernel)) rfl)
theorem lk_X12_1 : Cond.methodLink RX12 1 Lib.objectInit ∈ lw_gd := (gd_mem (List.mem_of_getElem? (i := 800) (by decide +kernel)) rfl)
theorem lk_X12_93 : Cond.methodLink RX12 93 yX12_begins ∈ lw_gd := (gd_mem (List.mem_of_getElem? (i := 801) (by decide +kernel)) rfl)
theorem kc_X12_99 : Cond.constantLong RX12 99 (-9223372036854775808 : Int64) ∈ lw_gd := (gd_mem (List.mem_of_getElem? (i := 805) (by decide +kernel)) rfl)
theorem fl_X12_96_11 : FL RX12 96 11 0 := ⟨"GeoThreadsModel", (RX12, TX12, 36), rfl, by decide, (gd_mem (List.mem_of_getElem? (i := 806) (by decide +kernel)) rfl), (Or.inl rfl)⟩
theorem fp_X12_96_11 (mn : String) : FP RX12 mn 96 11 0 .int := ⟨"GeoThreadsModel", (RX12, TX12, 36), rfl, by decide, (gd_mem (List.mem_of_getElem? (i := 806) (by decide +kernel)) rfl), rfl, by decide +kernel, Or.inl rfl⟩
theorem fl_X12_86_11 : FL RX12 86 11 1 := ⟨"GeoThreadsModel", (RX12, TX12, 36), rfl, by decide, (gd_mem (List.mem_of_getElem? (i := 807) (by decide +kernel)) rfl), (Or.inl rfl)⟩
theorem fp_X12_86_11 : FP RX12 "<init>" 86 11 1 .int := ⟨"GeoThreadsModel", (RX12, TX12, 36), rfl, by decide, (gd_mem (List.mem_of_getElem? (i := 807) (by decide +kernel)) rfl), rfl, by decide +kernel, Or.inr ⟨rfl, rfl, rfl⟩⟩
theorem fl_X12_90_11 : FL RX12 90 11 2 := ⟨"GeoThreadsModel", (RX12, TX12, 36), rfl, by decide, (gd_mem (List.mem_of_getElem? (i := 808) (by decide +kernel)) rfl), (Or.inl rfl)⟩
theorem fp_X12_90_11 : FP RX12 "<init>" 90 11 2 .int := ⟨"GeoThreadsModel", (RX12, TX12, 36), rfl, by decide, (gd_mem (List.mem_of_getElem? (i := 808) (by decide +kernel)) rfl), rfl, by decide +kernel, Or.inr ⟨rfl, rfl, rfl⟩⟩
theorem fl_X12_104_11 : FL RX12 104 11 3 := ⟨"GeoThreadsModel", (RX12, TX12, 36), rfl, by decide, (gd_mem (List.mem_of_getElem? (i := 809) (by decide +kernel)) rfl), (Or.inl rfl)⟩
theorem fp_X12_104_11 (mn : String) : FP RX12 mn 104 11 3 .int := ⟨"GeoThreadsModel", (RX12, TX12, 36), rfl, by decide, (gd_mem (List.mem_of_getElem? (i := 809) (by decide +kernel)) rfl), rfl, by decide +kernel, Or.inl rfl⟩
theorem fl_X12_7_11 : FL RX12 7 11 4 := ⟨"GeoThreadsModel", (RX12, TX12, 36), rfl, by decide, (gd_mem (List.mem_of_getElem? (i := 810) (by decide +kernel)) rfl), (Or.inl rfl)⟩
theorem fp_X12_7_11 : FP RX12 "<init>" 7 11 4 (.array .int) := ⟨"GeoThreadsModel", (RX12, TX12, 36), rfl, by decide, (gd_mem (List.mem_of_getElem? (i := 810) (by decide +kernel)) rfl), rfl, by decide +kernel, Or.inr ⟨rfl, rfl, rfl⟩⟩
theorem fl_X12_13_11 : FL RX12 13 11 5 := ⟨"GeoThreadsModel", (RX12, TX12, 36), rfl, by decide, (gd_mem (List.mem_of_getElem? (i := 811) (by decide +kernel)) rfl), (Or.inl rfl)⟩
theorem fp_X12_13_11 : FP RX12 "<init>" 13 11 5 (.array .int) := ⟨"GeoThreadsModel", (RX12, TX12, 36), rfl, by decide, (gd_mem (List.mem_of_getElem? (i := 811) (by decide +kernel)) rfl), rfl, by decide +kernel, Or.inr ⟨rfl, rfl, rfl⟩⟩
theorem fl_X12_16_11 : FL RX12 16 11 6 := ⟨"GeoThreadsModel", (RX12, TX12, 36), rfl, by decide, (gd_mem (List.mem_of_getElem? (i := 812) (by decide +kernel)) rfl), (Or.inl rfl)⟩
theorem fp_X12_16_11 : FP RX12 "<init>" 16 11 6 (.array .int) := ⟨"GeoThreadsModel", (RX12, TX12, 36), rfl, by decide, (gd_mem (List.mem_of_getElem? (i := 812) (by decide +kernel)) rfl), rfl, by decide +kernel, Or.inr ⟨rfl, rfl, rfl⟩⟩
theorem fl_X12_111_11 : FL RX12 111 11 7 := ⟨"GeoThreadsModel", (RX12, TX12, 36), rfl, by decide, (gd_mem (List.mem_of_getElem? (i := 813) (by decide +kernel)) rfl), (Or.inl rfl)⟩
theorem fp_X12_111_11 (mn : String) : FP RX12 mn 111 11 7 .int := ⟨"GeoThreadsModel", (RX12, TX12, 36), rfl, by decide, (gd_mem (List.mem_of_getElem? (i := 813) (by decide +kernel)) rfl), rfl, by decide +kernel, Or.inl rfl⟩
theorem fl_X12_19_11 : FL RX12 19 11 8 := ⟨"GeoThreadsModel", (RX12, TX12, 36), rfl, by decide, (gd_mem (List.mem_of_getElem? (i := 814) (by decide +kernel)) rfl), (Or.inl rfl)⟩
theorem fp_X12_19_11 : FP RX12 "<init>" 19 11 8 (.array .int) := ⟨"GeoThreadsModel", (RX12, TX12, 36), rfl, by decide, (gd_mem (List.mem_of_getElem? (i := 814) (by decide +kernel)) rfl), rfl, by decide +kernel, Or.inr ⟨rfl, rfl, rfl⟩⟩
theorem fl_X12_22_11 : FL RX12 22 11 9 := ⟨"GeoThreadsModel", (RX12, TX12, 36), rfl, by decide, (gd_mem (List.mem_of_getElem? (i := 815) (by decide +kernel)) rfl), (Or.inl rfl)⟩
theorem fp_X12_22_11 : FP RX12 "<init>" 22 11 9 (.array .long) := ⟨"GeoThreadsModel", (RX12, TX12, 36), rfl, by decide, (gd_mem (List.mem_of_getElem? (i := 815) (by decide +kernel)) rfl), rfl, by decide +kernel, Or.inr ⟨rfl, rfl, rfl⟩⟩
theorem fl_X12_101_11 : FL RX12 101 11 10 := ⟨"GeoThreadsModel", (RX12, TX12, 36), rfl, by decide, (gd_mem (List.mem_of_getElem? (i := 816) (by decide +kernel)) rfl), (Or.inl rfl)⟩
theorem fp_X12_101_11 (mn : String) : FP RX12 mn 101 11 10 .int := ⟨"GeoThreadsModel", (RX12, TX12, 36), rfl, by decide, (gd_mem (List.mem_of_getElem? (i := 816) (by decide +kernel)) rfl), rfl, by decide +kernel, Or.inl rfl⟩
theorem fl_X12_26_11 : FL RX12 26 11 11 := ⟨"GeoThreadsModel", (RX12, TX12, 36), rfl, by decide, (gd_mem (List.mem_of_getElem? (i := 817) (by decide +kernel)) rfl), (Or.inl rfl)⟩
theorem fp_X12_26_11 : FP RX12 "<init>" 26 11 11 (.array .int) := ⟨"GeoThreadsModel", (RX12, TX12, 36), rfl, by decide, (gd_mem (List.mem_of_getElem? (i := 817) (by decide +kernel)) rfl), rfl, by decide +kernel, Or.inr ⟨rfl, rfl, rfl⟩⟩
theorem fl_X12_29_11 : FL RX12 29 11 12 := ⟨"GeoThreadsModel", (RX12, TX12, 36), rfl, by decide, (gd_mem (List.mem_of_getElem? (i := 818) (by decide +kernel)) rfl), (Or.inl rfl)⟩
theorem fp_X12_29_11 : FP RX12 "<init>" 29 11 12 (.array .int) := ⟨"GeoThreadsModel", (RX12, TX12, 36), rfl, by decide, (gd_mem (List.mem_of_getElem? (i := 818) (by decide +kernel)) rfl), rfl, by decide +kernel, Or.inr ⟨rfl, rfl, rfl⟩⟩
theorem fl_X12_32_11 : FL RX12 32 11 13 := ⟨"GeoThreadsModel", (RX12, TX12, 36), rfl, by decide, (gd_mem (List.mem_of_getElem? (i := 819) (by decide +kernel)) rfl), (Or.inl rfl)⟩
theorem fp_X12_32_11 : FP RX12 "<init>" 32 11 13 (.array .long) := ⟨"GeoThreadsModel", (RX12, TX12, 36), rfl, by decide, (gd_mem (List.mem_of_getElem? (i := 819) (by decide +kernel)) rfl), rfl, by decide +kernel, Or.inr ⟨rfl, rfl, rfl⟩⟩
theorem fl_X12_35_11 : FL RX12 35 11 14 := ⟨"GeoThreadsModel", (RX12, TX12, 36), rfl, by decide, (gd_mem (List.mem_of_getElem? (i := 820) (by decide +kernel)) rfl), (Or.inl rfl)⟩
theorem fp_X12_35_11 : FP RX12 "<init>" 35 11 14 (.array .int) := ⟨"GeoThreadsModel", (RX12, TX12, 36), rfl, by decide, (gd_mem (List.mem_of_getElem? (i := 820) (by decide +kernel)) rfl), rfl, by decide +kernel, Or.inr ⟨rfl, rfl, rfl⟩⟩
theorem fl_X12_38_11 : FL RX12 38 11 15 := ⟨"GeoThreadsModel", (RX12, TX12, 36), rfl, by decide, (gd_mem (List.mem_of_getElem? (i := 821) (by decide +kernel)) rfl), (Or.inl rfl)⟩
theorem fp_X12_38_11 : FP RX12 "<init>" 38 11 15 (.array .int) := ⟨"GeoThreadsModel", (RX12, TX12, 36), rfl, by decide, (gd_mem (List.mem_of_getElem? (i := 821) (by decide +kernel)) rfl), rfl, by decide +kernel, Or.inr ⟨rfl, rfl, rfl⟩⟩
theorem fl_X12_41_11 : FL RX12 41 11 16 := ⟨"GeoThreadsModel", (RX12, TX12, 36), rfl, by decide, (gd_mem (List.mem_of_getElem? (i := 822) (by decide +kernel)) rfl), (Or.inl rfl)⟩
theorem fp_X12_41_11 : FP RX12 "<init>" 41 11 16 (.array .int) := ⟨"GeoThreadsModel", (RX12, TX12, 36), rfl, by decide, (gd_mem (List.mem_of_getElem? (i := 822) (by decide +kernel)) rfl), rfl, by decide +kernel, Or.inr ⟨rfl, rfl, rfl⟩⟩
theorem fl_X12_44_11 : FL RX12 44 11 17 := ⟨"GeoThreadsModel", (RX12, TX12, 36), rfl, by decide, (gd_mem (List.mem_of_getElem? (i := 823) (by decide +kernel)) rfl), (Or.inl rfl)⟩
theorem fp_X12_44_11 : FP RX12 "<init>" 44 11 17 (.array .int) := ⟨"GeoThreadsModel", (RX12, TX12, 36), rfl, by decide, (gd_mem (List.mem_of_getElem? (i := 823) (by decide +kernel)) rfl), rfl, by decide +kernel, Or.inr ⟨rfl, rfl, rfl⟩⟩
theorem fl_X12_47_11 : FL RX12 47 11 18 := ⟨"GeoThreadsModel", (RX12, TX12, 36), rfl, by decide, (gd_mem (List.mem_of_getElem? (i := 824) (by decide +kernel)) rfl), (Or.inl rfl)⟩
theorem fp_X12_47_11 : FP RX12 "<init>" 47 11 18 (.array .int) := ⟨"GeoThreadsModel", (RX12, TX12, 36), rfl, by decide, (gd_mem (List.mem_of_getElem? (i := 824) (by decide +kernel)) rfl), rfl, by decide +kernel, Or.inr ⟨rfl, rfl, rfl⟩⟩
theorem fl_X12_50_11 : FL RX12 50 11 19 := ⟨"GeoThreadsModel", (RX12, TX12, 36), rfl, by decide, (gd_mem (List.mem_of_getElem? (i := 825) (by decide +kernel)) rfl), (Or.inl rfl)⟩
theorem fp_X12_50_11 : FP RX12 "<init>" 50 11 19 (.array .int) := ⟨"GeoThreadsModel", (RX12, TX12, 36), rfl, by decide, (gd_mem (List.mem_of_getElem? (i := 825) (by decide +kernel)) rfl), rfl, by decide +kernel, Or.inr ⟨rfl, rfl, rfl⟩⟩
theorem fl_X12_148_11 : FL RX12 148 11 20 := ⟨"GeoThreadsModel", (RX12, TX12, 36), rfl, by decide, (gd_mem (List.mem_of_getElem? (i := 826) (by decide +kernel)) rfl), (Or.inl rfl)⟩
theorem fp_X12_148_11 (mn : String) : FP RX12 mn 148 11 20 .int := ⟨"GeoThreadsModel", (RX12, TX12, 36), rfl, by decide, (gd_mem (List.mem_of_getElem? (i := 826) (by decide +kernel)) rfl), rfl, by decide +kernel, Or.inl rfl⟩
theorem fl_X12_53_11 : FL RX12 53 11 21 := ⟨"GeoThreadsModel", (RX12, TX12, 36), rfl, by decide, (gd_mem (List.mem_of_getElem? (i := 827) (by decide +kernel)) rfl), (Or.inl rfl)⟩
theorem fp_X12_53_11 : FP RX12 "<init>" 53 11 21 (.array .int) := ⟨"GeoThreadsModel", (RX12, TX12, 36), rfl, by decide, (gd_mem (List.mem_of_getElem? (i := 827) (by decide +kernel)) rfl), rfl, by decide +kernel, Or.inr ⟨rfl, rfl, rfl⟩⟩
theorem fl_X12_56_11 : FL RX12 56 11 22 := ⟨"GeoThreadsModel", (RX12, TX12, 36), rfl, by decide, (gd_mem (List.mem_of_getElem? (i := 828) (by decide +kernel)) rfl), (Or.inl rfl)⟩
theorem fp_X12_56_11 : FP RX12 "<init>" 56 11 22 (.array .int) := ⟨"GeoThreadsModel", (RX12, TX12, 36), rfl, by decide, (gd_mem (List.mem_of_getElem? (i := 828) (by decide +kernel)) rfl), rfl, by decide +kernel, Or.inr ⟨rfl, rfl, rfl⟩⟩
theorem fl_X12_59_11 : FL RX12 59 11 23 := ⟨"GeoThreadsModel", (RX12, TX12, 36), rfl, by decide, (gd_mem (List.mem_of_getElem? (i := 829) (by decide +kernel)) rfl), (Or.inl rfl)⟩
theorem fp_X12_59_11 : FP RX12 "<init>" 59 11 23 (.array .int) := ⟨"GeoThreadsModel", (RX12, TX12, 36), rfl, by decide, (gd_mem (List.mem_of_getElem? (i := 829) (by decide +kernel)) rfl), rfl, by decide +kernel, Or.inr ⟨rfl, rfl, rfl⟩⟩
theorem fl_X12_62_11 : FL RX12 62 11 24 := ⟨"GeoThreadsModel", (RX12, TX12, 36), rfl, by decide, (gd_mem (List.mem_of_getElem? (i := 830) (by decide +kernel)) rfl), (Or.inl rfl)⟩
theorem fp_X12_62_11 : FP RX12 "<init>" 62 11 24 (.array .long) := ⟨"GeoThreadsModel", (RX12, TX12, 36), rfl, by decide, (gd_mem (List.mem_of_getElem? (i := 830) (by decide +kernel)) rfl), rfl, by decide +kernel, Or.inr ⟨rfl, rfl, rfl⟩⟩
theorem fl_X12_151_11 : FL RX12 151 11 25 := ⟨"GeoThreadsModel", (RX12, TX12, 36), rfl, by decide, (gd_mem (List.mem_of_getElem? (i := 831) (by decide +kernel)) rfl), (Or.inl rfl)⟩
theorem fp_X12_151_11 (mn : String) : FP RX12 mn 151 11 25 .int := ⟨"GeoThreadsModel", (RX12, TX12, 36), rfl, by decide, (gd_mem (List.mem_of_getElem? (i := 831) (by decide +kernel)) rfl), rfl, by decide +kernel, Or.inl rfl⟩
theorem fl_X12_65_11 : FL RX12 65 11 26 := ⟨"GeoThreadsModel", (RX12, TX12, 36), rfl, by decide, (gd_mem (List.mem_of_getElem? (i := 832) (by decide +kernel)) rfl), (Or.inl rfl)⟩
theorem fp_X12_65_11 : FP RX12 "<init>" 65 11 26 (.array .int) := ⟨"GeoThreadsModel", (RX12, TX12, 36), rfl, by decide, (gd_mem (List.mem_of_getElem? (i := 832) (by decide +kernel)) rfl), rfl, by decide +kernel, Or.inr ⟨rfl, rfl, rfl⟩⟩
theorem fl_X12_68_11 : FL RX12 68 11 27 := ⟨"GeoThreadsModel", (RX12, TX12, 36), rfl, by decide, (gd_mem (List.mem_of_getElem? (i := 833) (by decide +kernel)) rfl), (Or.inl rfl)⟩
theorem fp_X12_68_11 : FP RX12 "<init>" 68 11 27 (.array .int) := ⟨"GeoThreadsModel", (RX12, TX12, 36), rfl, by decide, (gd_mem (List.mem_of_getElem? (i := 833) (by decide +kernel)) rfl), rfl, by decide +kernel, Or.inr ⟨rfl, rfl, rfl⟩⟩
theorem fl_X12_71_11 : FL RX12 71 11 28 := ⟨"GeoThreadsModel", (RX12, TX12, 36), rfl, by decide, (gd_mem (List.mem_of_getElem? (i := 834) (by decide +kernel)) rfl), (Or.inl rfl)⟩
theorem fp_X12_71_11 : FP RX12 "<init>" 71 11 28 (.array .int) := ⟨"GeoThreadsModel", (RX12, TX12, 36), rfl, by decide, (gd_mem (List.mem_of_getElem? (i := 834) (by decide +kernel)) rfl), rfl, by decide +kernel, Or.inr ⟨rfl, rfl, rfl⟩⟩
theorem fl_X12_74_11 : FL RX12 74 11 29 := ⟨"GeoThreadsModel", (RX12, TX12, 36), rfl, by decide, (gd_mem (List.mem_of_getElem? (i := 835) (by decide +kernel)) rfl), (Or.inl rfl)⟩
theorem fp_X12_74_11 : FP RX12 "<init>" 74 11 29 (.array .long) := ⟨"GeoThreadsModel", (RX12, TX12, 36), rfl, by decide, (gd_mem (List.mem_of_getElem? (i := 835) (by decide +kernel)) rfl), rfl, by decide +kernel, Or.inr ⟨rfl, rfl, rfl⟩⟩
theorem fl_X12_77_11 : FL RX12 77 11 30 := ⟨"GeoThreadsModel", (RX12, TX12, 36), rfl, by decide, (gd_mem (List.mem_of_getElem? (i := 836) (by decide +kernel)) rfl), (Or.inl rfl)⟩
theorem fp_X12_77_11 : FP RX12 "<init>" 77 11 30 (.array .long) := ⟨"GeoThreadsModel", (RX12, TX12, 36), rfl, by decide, (gd_mem (List.mem_of_getElem? (i := 836) (by decide +kernel)) rfl), rfl, by decide +kernel, Or.inr ⟨rfl, rfl, rfl⟩⟩
theorem fl_X12_184_11 : FL RX12 184 11 33 := ⟨"GeoThreadsModel", (RX12, TX12, 36), rfl, by decide, (gd_mem (List.mem_of_getElem? (i := 837) (by decide +kernel)) rfl), (Or.inl rfl)⟩
theorem fp_X12_184_11 (mn : String) : FP RX12 mn 184 11 33 .long := ⟨"GeoThreadsModel", (RX12, TX12, 36), rfl, by decide, (gd_mem (List.mem_of_getElem? (i := 837) (by decide +kernel)) rfl), rfl, by decide +kernel, Or.inl rfl⟩
theorem fl_X12_80_11 : FL RX12 80 11 34 := ⟨"GeoThreadsModel", (RX12, TX12, 36), rfl, by decide, (gd_mem (List.mem_of_getElem? (i := 838) (by decide +kernel)) rfl), (Or.inl rfl)⟩
theorem fp_X12_80_11 : FP RX12 "<init>" 80 11 34 (.array .int) := ⟨"GeoThreadsModel", (RX12, TX12, 36), rfl, by decide, (gd_mem (List.mem_of_getElem? (i := 838) (by decide +kernel)) rfl), rfl, by decide +kernel, Or.inr ⟨rfl, rfl, rfl⟩⟩
theorem fl_X12_83_11 : FL RX12 83 11 35 := ⟨"GeoThreadsModel", (RX12, TX12, 36), rfl, by decide, (gd_mem (List.mem_of_getElem? (i := 839) (by decide +kernel)) rfl), (Or.inl rfl)⟩
theorem fp_X12_83_11 : FP RX12 "<init>" 83 11 35 (.array .long) := ⟨"GeoThreadsModel", (RX12, TX12, 36), rfl, by decide, (gd_mem (List.mem_of_getElem? (i := 839) (by decide +kernel)) rfl), rfl, by decide +kernel, Or.inr ⟨rfl, rfl, rfl⟩⟩
theorem lk_L_25 : Cond.methodLink RL 25 yX12_grid ∈ lw_gd := (gd_mem (List.mem_of_getElem? (i := 913) (by decide +kernel)) rfl)
theorem lk_X12_107 : Cond.methodLink RX12 107 yX12_in ∈ lw_gd := (gd_mem (List.mem_of_getElem? (i := 917) (by decide +kernel)) rfl)
theorem lk_X12_114 : Cond.methodLink RX12 114 yX12_isOpen ∈ lw_gd := (gd_mem (List.mem_of_getElem? (i := 920) (by decide +kernel)) rfl)
theorem lk_X12_118 : Cond.methodLink RX12 118 yX12_newLine ∈ lw_gd := (gd_mem (List.mem_of_getElem? (i := 924) (by decide +kernel)) rfl)
theorem lk_L_29 : Cond.methodLink RL 29 yX12_line ∈ lw_gd := (gd_mem (List.mem_of_getElem? (i := 928) (by decide +kernel)) rfl)
theorem lk_X12_122 : Cond.methodLink RX12 122 yX12_isGrid ∈ lw_gd := (gd_mem (List.mem_of_getElem? (i := 932) (by decide +kernel)) rfl)
theorem lk_X12_126 : Cond.methodLink RX12 126 yX12_isLine ∈ lw_gd := (gd_mem (List.mem_of_getElem? (i := 936) (by decide +kernel)) rfl)
theorem lk_L_36 : Cond.methodLink RL 36 yX12_put ∈ lw_gd := (gd_mem (List.mem_of_getElem? (i := 940) (by decide +kernel)) rfl)
theorem lk_X12_133 : Cond.methodLink RX12 133 yX12_against ∈ lw_gd := (gd_mem (List.mem_of_getElem? (i := 944) (by decide +kernel)) rfl)
theorem lk_X12_137 : Cond.methodLink RX12 137 yX12_asKind ∈ lw_gd := (gd_mem (List.mem_of_getElem? (i := 948) (by decide +kernel)) rfl)
theorem kc_X12_130 : Cond.constantFloat RX12 130 (1082130432 : UInt32) ∈ lw_gd := (gd_mem (List.mem_of_getElem? (i := 951) (by decide +kernel)) rfl)
theorem kc_X12_131 : Cond.constantDouble RX12 131 (4616189618054758400 : UInt64) ∈ lw_gd := (gd_mem (List.mem_of_getElem? (i := 952) (by decide +kernel)) rfl)
theorem lk_L_41 : Cond.methodLink RL 41 yX12_item ∈ lw_gd := (gd_mem (List.mem_of_getElem? (i := 953) (by decide +kernel)) rfl)
theorem lk_L_46 : Cond.methodLink RL 46 yX12_lay ∈ lw_gd := (gd_mem (List.mem_of_getElem? (i := 957) (by decide +kernel)) rfl)
theorem lk_L_51 : Cond.methodLink RL 51 yX12_size ∈ lw_gd := (gd_mem (List.mem_of_getElem? (i := 961) (by decide +kernel)) rfl)
theorem lk_L_56 : Cond.methodLink RL 56 yX12_way ∈ lw_gd := (gd_mem (List.mem_of_getElem? (i := 965) (by decide +kernel)) rfl)
theorem kc_X12_141 : Cond.constant RX12 141 (100000 : Int32) ∈ lw_gd := (gd_mem (List.mem_of_getElem? (i := 969) (by decide +kernel)) rfl)
theorem lk_X12_142 : Cond.methodLink RX12 142 yX12_mayNeed ∈ lw_gd := (gd_mem (List.mem_of_getElem? (i := 970) (by decide +kernel)) rfl)
theorem lk_X12_145 : Cond.methodLink RX12 145 yX12_comes ∈ lw_gd := (gd_mem (List.mem_of_getElem? (i := 974) (by decide +kernel)) rfl)
theorem lk_L_61 : Cond.methodLink RL 61 yX12_reader ∈ lw_gd := (gd_mem (List.mem_of_getElem? (i := 978) (by decide +kernel)) rfl)
theorem lk_L_65 : Cond.methodLink RL 65 yX12_search ∈ lw_gd := (gd_mem (List.mem_of_getElem? (i := 982) (by decide +kernel)) rfl)
theorem lk_L_70 : Cond.methodLink RL 70 yX12_share ∈ lw_gd := (gd_mem (List.mem_of_getElem? (i := 986) (by decide +kernel)) rfl)
theorem lk_L_75 : Cond.methodLink RL 75 yX12_turn ∈ lw_gd := (gd_mem (List.mem_of_getElem? (i := 990) (by decide +kernel)) rfl)
theorem lk_L_79 : Cond.methodLink RL 79 yX12_run ∈ lw_gd := (gd_mem (List.mem_of_getElem? (i := 994) (by decide +kernel)) rfl)
theorem lk_X12_220 : Cond.methodLink RX12 220 yX12_turns ∈ lw_gd := (gd_mem (List.mem_of_getElem? (i := 998) (by decide +kernel)) rfl)
theorem lk_X12_205 : Cond.methodLink RX12 205 yX12_takes ∈ lw_gd := (gd_mem (List.mem_of_getElem? (i := 1002) (by decide +kernel)) rfl)
theorem lk_X12_173 : Cond.methodLink RX12 173 yX12_at ∈ lw_gd := (gd_mem (List.mem_of_getElem? (i := 1006) (by decide +kernel)) rfl)
theorem lk_X12_154 : Cond.methodLink RX12 154 yX12_set ∈ lw_gd := (gd_mem (List.mem_of_getElem? (i := 1010) (by decide +kernel)) rfl)
theorem lk_X12_160 : Cond.methodLink RX12 160 yX12_more ∈ lw_gd := (gd_mem (List.mem_of_getElem? (i := 1014) (by decide +kernel)) rfl)
theorem lk_X12_198 : Cond.methodLink RX12 198 yX12_notes ∈ lw_gd := (gd_mem (List.mem_of_getElem? (i := 1018) (by decide +kernel)) rfl)
theorem lk_X12_208 : Cond.methodLink RX12 208 yX12_step ∈ lw_gd := (gd_mem (List.mem_of_getElem? (i := 1022) (by decide +kernel)) rfl)
theorem lk_X12_164 : Cond.methodLink RX12 164 yX12_plain ∈ lw_gd := (gd_mem (List.mem_of_getElem? (i := 1026) (by decide +kernel)) rfl)
theorem lk_X12_177 : Cond.methodLink RX12 177 yX12_failed ∈ lw_gd := (gd_mem (List.mem_of_getElem? (i := 1030) (by decide +kernel)) rfl)
theorem lk_X12_167 : Cond.methodLink RX12 167 yX12_shared ∈ lw_gd := (gd_mem (List.mem_of_getElem? (i := 1034) (by decide +kernel)) rfl)
theorem lk_X12_192 : Cond.methodLink RX12 192 yX12_lineFault ∈ lw_gd := (gd_mem (List.mem_of_getElem? (i := 1038) (by decide +kernel)) rfl)
theorem lk_X12_180 : Cond.methodLink RX12 180 yX12_worth ∈ lw_gd := (gd_mem (List.mem_of_getElem? (i := 1042) (by decide +kernel)) rfl)
theorem kc_X12_158 : Cond.constantLong RX12 158 (1000000 : Int64) ∈ lw_gd := (gd_mem (List.mem_of_getElem? (i := 1045) (by decide +kernel)) rfl)
theorem lk_X12_195 : Cond.methodLink RX12 195 yX12_goes ∈ lw_gd := (gd_mem (List.mem_of_getElem? (i := 1046) (by decide +kernel)) rfl)
theorem lk_X12_188 : Cond.methodLink RX12 188 yX12_finds ∈ lw_gd := (gd_mem (List.mem_of_getElem? (i := 1050) (by decide +kernel)) rfl)
theorem lk_X12_170 : Cond.methodLink RX12 170 yX12_read ∈ lw_gd := (gd_mem (List.mem_of_getElem? (i := 1054) (by decide +kernel)) rfl)
theorem lk_X12_211 : Cond.methodLink RX12 211 yX12_ends ∈ lw_gd := (gd_mem (List.mem_of_getElem? (i := 1058) (by decide +kernel)) rfl)
theorem lk_X12_214 : Cond.methodLink RX12 214 yX12_looks ∈ lw_gd := (gd_mem (List.mem_of_getElem? (i := 1062) (by decide +kernel)) rfl)
theorem lk_X12_202 : Cond.methodLink RX12 202 yX12_falls ∈ lw_gd := (gd_mem (List.mem_of_getElem? (i := 1066) (by decide +kernel)) rfl)
theorem lk_X12_223 : Cond.methodLink RX12 223 yX12_again ∈ lw_gd := (gd_mem (List.mem_of_getElem? (i := 1070) (by decide +kernel)) rfl)
theorem lk_X12_217 : Cond.methodLink RX12 217 yX12_isLost ∈ lw_gd := (gd_mem (List.mem_of_getElem? (i := 1074) (by decide +kernel)) rfl)
theorem lk_L_83 : Cond.methodLink RL 83 yX12_interrupt ∈ lw_gd := (gd_mem (List.mem_of_getElem? (i := 1078) (by decide +kernel)) rfl)
theorem lk_X12_226 : Cond.methodLink RX12 226 yX12_isTask ∈ lw_gd := (gd_mem (List.mem_of_getElem? (i := 1082) (by decide +kernel)) rfl)
theorem lk_L_88 : Cond.methodLink RL 88 yX12_close ∈ lw_gd := (gd_mem (List.mem_of_getElem? (i := 1086) (by decide +kernel)) rfl)
theorem lk_L_92 : Cond.methodLink RL 92 yX12_anew ∈ lw_gd := (gd_mem (List.mem_of_getElem? (i := 1090) (by decide +kernel)) rfl)
theorem lk_L_96 : Cond.methodLink RL 96 yX12_taken ∈ lw_gd := (gd_mem (List.mem_of_getElem? (i := 1094) (by decide +kernel)) rfl)
theorem lk_L_101 : Cond.methodLink RL 101 yX12_answer ∈ lw_gd := (gd_mem (List.mem_of_getElem? (i := 1098) (by decide +kernel)) rfl)
theorem lk_X12_229 : Cond.methodLink RX12 229 yX12_answerOf ∈ lw_gd := (gd_mem (List.mem_of_getElem? (i := 1102) (by decide +kernel)) rfl)
theorem lk_L_105 : Cond.methodLink RL 105 yX12_told ∈ lw_gd := (gd_mem (List.mem_of_getElem? (i := 1106) (by decide +kernel)) rfl)
theorem lk_L_110 : Cond.methodLink RL 110 yX12_best ∈ lw_gd := (gd_mem (List.mem_of_getElem? (i := 1110) (by decide +kernel)) rfl)
theorem kc_X12_233 : Cond.constantLong RX12 233 (-1 : Int64) ∈ lw_gd := (gd_mem (List.mem_of_getElem? (i := 1114) (by decide +kernel)) rfl)
theorem lk_L_114 : Cond.methodLink RL 114 yX12_note ∈ lw_gd := (gd_mem (List.mem_of_getElem? (i := 1115) (by decide +kernel)) rfl)
theorem lk_L_118 : Cond.methodLink RL 118 yX12_finished ∈ lw_gd := (gd_mem (List.mem_of_getElem? (i := 1119) (by decide +kernel)) rfl)
theorem lk_L_122 : Cond.methodLink RL 122 yX12_count ∈ lw_gd := (gd_mem (List.mem_of_getElem? (i := 1123) (by decide +kernel)) rfl)
theorem lk_L_126 : Cond.methodLink RL 126 yX12_equal ∈ lw_gd := (gd_mem (List.mem_of_getElem? (i := 1127) (by decide +kernel)) rfl)
theorem lk_X12_235 : Cond.methodLink RX12 235 yX12_keep ∈ lw_gd := (gd_mem (List.mem_of_getElem? (i := 1131) (by decide +kernel)) rfl)
theorem lk_X12_238 : Cond.methodLink RX12 238 yX12_through ∈ lw_gd := (gd_mem (List.mem_of_getElem? (i := 1135) (by decide +kernel)) rfl)
theorem lk_X12_241 : Cond.methodLink RX12 241 yX12_isLikeFirst ∈ lw_gd := (gd_mem (List.mem_of_getElem? (i := 1139) (by decide +kernel)) rfl)
theorem lk_X12_244 : Cond.methodLink RX12 244 yX12_bring ∈ lw_gd := (gd_mem (List.mem_of_getElem? (i := 1143) (by decide +kernel)) rfl)
theorem kc_L_30 : Cond.constantLong RL 30 (4294967295 : Int64) ∈ lw_gd := (gd_mem (List.mem_of_getElem? (i := 1147) (by decide +kernel)) rfl)
theorem cs_X9 : Cond.castable "GeoThreads$Way" "GeoThreads$Task" ∈ nwL := (nw_mem (List.mem_of_getElem? (i := 1148) (by decide +kernel)) rfl)
theorem cs_X5 : Cond.castable "GeoThreads$Reader" "GeoThreads$Task" ∈ nwL := (nw_mem (List.mem_of_getElem? (i := 1149) (by decide +kernel)) rfl)
theorem cs_X7 : Cond.castable "GeoThreads$Share" "GeoThreads$Task" ∈ nwL := (nw_mem (List.mem_of_getElem? (i := 1150) (by decide +kernel)) rfl)
def mX0_init : MD := (yX0_init, cX0_init, 5, none, 2, 40)
theorem okX0_init : MokI mX0_init 3 := ⟨(gd_mem (List.mem_of_getElem? (i := 134) (by decide +kernel)) rfl), rfl, rfl, (gd_mem (List.mem_of_getElem? (i := 133) (by decide +kernel)) rfl), in_X0, by decide, by decide, by decide +kernel⟩
def mX0_begin : MD := (yX0_begin, cX0_begin, 3, none, 1, 22)
theorem okX0_begin : MokV mX0_begin 1 := ⟨(gd_mem (List.mem_of_getElem? (i := 305) (by decide +kernel)) rfl), (gd_mem (List.mem_of_getElem? (i := 303) (by decide +kernel)) rfl), (gd_mem (List.mem_of_getElem? (i := 304) (by decide +kernel)) rfl), in_X0, by decide, by decide, by decide +kernel⟩
def mX0_goOn : MD := (yX0_goOn, cX0_goOn, 3, (some .int), 6, 138)
theorem okX0_goOn : MokV mX0_goOn 1 := ⟨(gd_mem (List.mem_of_getElem? (i := 568) (by decide +kernel)) rfl), (gd_mem (List.mem_of_getElem? (i := 566) (by decide +kernel)) rfl), (gd_mem (List.mem_of_getElem? (i := 567) (by decide +kernel)) rfl), in_X0, by decide, by decide, by decide +kernel⟩
def mX0_nextThread : MD := (yX0_nextThread, cX0_nextThread, 2, (some .int), 0, 0)
theorem okX0_nextThread : MokV mX0_nextThread 0 := ⟨(gd_mem (List.mem_of_getElem? (i := 572) (by decide +kernel)) rfl), (gd_mem (List.mem_of_getElem? (i := 571) (by decide +kernel)) rfl), (gd_mem (List.mem_of_getElem? (i := 3) (by decide +kernel)) rfl), in_X0, by decide, by decide, by decide +kernel⟩
def mX0_giveTurn : MD := (yX0_giveTurn, cX0_giveTurn, 3, none, 5, 116)
theorem okX0_giveTurn : MokV mX0_giveTurn 1 := ⟨(gd_mem (List.mem_of_getElem? (i := 576) (by decide +kernel)) rfl), (gd_mem (List.mem_of_getElem? (i := 575) (by decide +kernel)) rfl), (gd_mem (List.mem_of_getElem? (i := 4) (by decide +kernel)) rfl), in_X0, by decide, by decide, by decide +kernel⟩
def mX0_takeNext : MD := (yX0_takeNext, cX0_takeNext, 4, none, 1, 23)
theorem okX0_takeNext : MokV mX0_takeNext 1 := ⟨(gd_mem (List.mem_of_getElem? (i := 580) (by decide +kernel)) rfl), (gd_mem (List.mem_of_getElem? (i := 579) (by decide +kernel)) rfl), (gd_mem (List.mem_of_getElem? (i := 5) (by decide +kernel)) rfl), in_X0, by decide, by decide, by decide +kernel⟩
def mX0_leastThatFits : MD := (yX0_leastThatFits, cX0_leastThatFits, 2, (some .int), 0, 0)
theorem okX0_leastThatFits : MokV mX0_leastThatFits 0 := ⟨(gd_mem (List.mem_of_getElem? (i := 584) (by decide +kernel)) rfl), (gd_mem (List.mem_of_getElem? (i := 583) (by decide +kernel)) rfl), (gd_mem (List.mem_of_getElem? (i := 6) (by decide +kernel)) rfl), in_X0, by decide, by decide, by decide +kernel⟩
def mX0_goOnWith : MD := (yX0_goOnWith, cX0_goOnWith, 5, none, 4, 92)
theorem okX0_goOnWith : MokV mX0_goOnWith 2 := ⟨(gd_mem (List.mem_of_getElem? (i := 593) (by decide +kernel)) rfl), (gd_mem (List.mem_of_getElem? (i := 592) (by decide +kernel)) rfl), (gd_mem (List.mem_of_getElem? (i := 8) (by decide +kernel)) rfl), in_X0, by decide, by decide, by decide +kernel⟩
def mX0_leave : MD := (yX0_leave, cX0_leave, 3, none, 1, 23)
theorem okX0_leave : MokV mX0_leave 2 := ⟨(gd_mem (List.mem_of_getElem? (i := 657) (by decide +kernel)) rfl), (gd_mem (List.mem_of_getElem? (i := 656) (by decide +kernel)) rfl), (gd_mem (List.mem_of_getElem? (i := 11) (by decide +kernel)) rfl), in_X0, by decide, by decide, by decide +kernel⟩
def mX0_endWaiting : MD := (yX0_endWaiting, cX0_endWaiting, 3, none, 0, 0)
theorem okX0_endWaiting : MokV mX0_endWaiting 2 := ⟨(gd_mem (List.mem_of_getElem? (i := 680) (by decide +kernel)) rfl), (gd_mem (List.mem_of_getElem? (i := 679) (by decide +kernel)) rfl), (gd_mem (List.mem_of_getElem? (i := 14) (by decide +kernel)) rfl), in_X0, by decide, by decide, by decide +kernel⟩
def mX0_write : MD := (yX0_write, cX0_write, 4, none, 0, 0)
theorem okX0_write : MokV mX0_write 3 := ⟨(gd_mem (List.mem_of_getElem? (i := 589) (by decide +kernel)) rfl), (gd_mem (List.mem_of_getElem? (i := 588) (by decide +kernel)) rfl), (gd_mem (List.mem_of_getElem? (i := 7) (by decide +kernel)) rfl), in_X0, by decide, by decide, by decide +kernel⟩
def mX0_lookWhatIsTaken : MD := (yX0_lookWhatIsTaken, cX0_lookWhatIsTaken, 2, none, 2, 44)
theorem okX0_lookWhatIsTaken : MokV mX0_lookWhatIsTaken 0 := ⟨(gd_mem (List.mem_of_getElem? (i := 661) (by decide +kernel)) rfl), (gd_mem (List.mem_of_getElem? (i := 660) (by decide +kernel)) rfl), (gd_mem (List.mem_of_getElem? (i := 12) (by decide +kernel)) rfl), in_X0, by decide, by decide, by decide +kernel⟩
def mX0_takeWay : MD := (yX0_takeWay, cX0_takeWay, 3, none, 1, 22)
theorem okX0_takeWay : MokV mX0_takeWay 1 := ⟨(gd_mem (List.mem_of_getElem? (i := 676) (by decide +kernel)) rfl), (gd_mem (List.mem_of_getElem? (i := 675) (by decide +kernel)) rfl), (gd_mem (List.mem_of_getElem? (i := 13) (by decide +kernel)) rfl), in_X0, by decide, by decide, by decide +kernel⟩
def mX0_doFailedSharesAgain : MD := (yX0_doFailedSharesAgain, cX0_doFailedSharesAgain, 4, none, 4, 95)
theorem okX0_doFailedSharesAgain : MokV mX0_doFailedSharesAgain 0 := ⟨(gd_mem (List.mem_of_getElem? (i := 684) (by decide +kernel)) rfl), (gd_mem (List.mem_of_getElem? (i := 683) (by decide +kernel)) rfl), (gd_mem (List.mem_of_getElem? (i := 15) (by decide +kernel)) rfl), in_X0, by decide, by decide, by decide +kernel⟩
def mX0_breakOff : MD := (yX0_breakOff, cX0_breakOff, 3, (some .int), 3, 65)
theorem okX0_breakOff : MokV mX0_breakOff 1 := ⟨(gd_mem (List.mem_of_getElem? (i := 702) (by decide +kernel)) rfl), (gd_mem (List.mem_of_getElem? (i := 700) (by decide +kernel)) rfl), (gd_mem (List.mem_of_getElem? (i := 701) (by decide +kernel)) rfl), in_X0, by decide, by decide, by decide +kernel⟩
def mX0_stopAll : MD := (yX0_stopAll, cX0_stopAll, 4, (some .int), 2, 45)
theorem okX0_stopAll : MokV mX0_stopAll 0 := ⟨(gd_mem (List.mem_of_getElem? (i := 710) (by decide +kernel)) rfl), (gd_mem (List.mem_of_getElem? (i := 708) (by decide +kernel)) rfl), (gd_mem (List.mem_of_getElem? (i := 709) (by decide +kernel)) rfl), in_X0, by decide, by decide, by decide +kernel⟩
def mX0_answerOf : MD := (yX0_answerOf, cX0_answerOf, 2, (some .long), 1, 21)
theorem okX0_answerOf : MokV mX0_answerOf 1 := ⟨(gd_mem (List.mem_of_getElem? (i := 726) (by decide +kernel)) rfl), (gd_mem (List.mem_of_getElem? (i := 724) (by decide +kernel)) rfl), (gd_mem (List.mem_of_getElem? (i := 725) (by decide +kernel)) rfl), in_X0, by decide, by decide, by decide +kernel⟩
def mX0_lostOf : MD := (yX0_lostOf, cX0_lostOf, 6, (some .int), 0, 0)
theorem okX0_lostOf : MokV mX0_lostOf 1 := ⟨(gd_mem (List.mem_of_getElem? (i := 765) (by decide +kernel)) rfl), (gd_mem (List.mem_of_getElem? (i := 763) (by decide +kernel)) rfl), (gd_mem (List.mem_of_getElem? (i := 764) (by decide +kernel)) rfl), in_X0, by decide, by decide, by decide +kernel⟩
def mX0_foundAs : MD := (yX0_foundAs, cX0_foundAs, 3, (some .boolean), 2, 44)
theorem okX0_foundAs : MokV mX0_foundAs 1 := ⟨(gd_mem (List.mem_of_getElem? (i := 786) (by decide +kernel)) rfl), (gd_mem (List.mem_of_getElem? (i := 784) (by decide +kernel)) rfl), (gd_mem (List.mem_of_getElem? (i := 785) (by decide +kernel)) rfl), in_X0, by decide, by decide, by decide +kernel⟩
def mX0_endedAs : MD := (yX0_endedAs, cX0_endedAs, 5, (some .boolean), 1, 20)
theorem okX0_endedAs : MokV mX0_endedAs 2 := ⟨(gd_mem (List.mem_of_getElem? (i := 791) (by decide +kernel)) rfl), (gd_mem (List.mem_of_getElem? (i := 790) (by decide +kernel)) rfl), (gd_mem (List.mem_of_getElem? (i := 17) (by decide +kernel)) rfl), in_X0, by decide, by decide, by decide +kernel⟩
def mX1_init : MD := (yX1_init, cX1_init, 3, none, 1, 20)
theorem okX1_init : MokI mX1_init 2 := ⟨(gd_mem (List.mem_of_getElem? (i := 347) (by decide +kernel)) rfl), rfl, rfl, (gd_mem (List.mem_of_getElem? (i := 346) (by decide +kernel)) rfl), in_X1, by decide, by decide, by decide +kernel⟩
def mX1_has : MD := (yX1_has, cX1_has, 2, (some .boolean), 0, 0)
theorem okX1_has : MokV mX1_has 1 := ⟨(gd_mem (List.mem_of_getElem? (i := 394) (by decide +kernel)) rfl), (gd_mem (List.mem_of_getElem? (i := 392) (by decide +kernel)) rfl), (gd_mem (List.mem_of_getElem? (i := 393) (by decide +kernel)) rfl), in_X1, by decide, by decide, by decide +kernel⟩
def mX1_faultOf : MD := (yX1_faultOf, cX1_faultOf, 2, (some .int), 1, 21)
theorem okX1_faultOf : MokV mX1_faultOf 1 := ⟨(gd_mem (List.mem_of_getElem? (i := 402) (by decide +kernel)) rfl), (gd_mem (List.mem_of_getElem? (i := 400) (by decide +kernel)) rfl), (gd_mem (List.mem_of_getElem? (i := 401) (by decide +kernel)) rfl), in_X1, by decide, by decide, by decide +kernel⟩
def mX2_init : MD := (yX2_init, cX2_init, 1, none, 1, 20)
theorem okX2_init : MokI mX2_init 0 := ⟨(gd_mem (List.mem_of_getElem? (i := 215) (by decide +kernel)) rfl), rfl, rfl, (gd_mem (List.mem_of_getElem? (i := 214) (by decide +kernel)) rfl), in_X2, by decide, by decide, by decide +kernel⟩
def mX2_begin : MD := (yX2_begin, cX2_begin, 3, none, 0, 0)
theorem okX2_begin : MokV mX2_begin 1 := ⟨(gd_mem (List.mem_of_getElem? (i := 313) (by decide +kernel)) rfl), (gd_mem (List.mem_of_getElem? (i := 311) (by decide +kernel)) rfl), (gd_mem (List.mem_of_getElem? (i := 312) (by decide +kernel)) rfl), in_X2, by decide, by decide, by decide +kernel⟩
def mX2_offer : MD := (yX2_offer, cX2_offer, 5, none, 0, 0)
theorem okX2_offer : MokV mX2_offer 2 := ⟨(gd_mem (List.mem_of_getElem? (i := 637) (by decide +kernel)) rfl), (gd_mem (List.mem_of_getElem? (i := 635) (by decide +kernel)) rfl), (gd_mem (List.mem_of_getElem? (i := 636) (by decide +kernel)) rfl), in_X2, by decide, by decide, by decide +kernel⟩
def mX3_init : MD := (yX3_init, cX3_init, 3, none, 1, 20)
theorem okX3_init : MokI mX3_init 2 := ⟨(gd_mem (List.mem_of_getElem? (i := 371) (by decide +kernel)) rfl), rfl, rfl, (gd_mem (List.mem_of_getElem? (i := 370) (by decide +kernel)) rfl), in_X3, by decide, by decide, by decide +kernel⟩
def mX3_has : MD := (yX3_has, cX3_has, 2, (some .boolean), 0, 0)
theorem okX3_has : MokV mX3_has 1 := ⟨(gd_mem (List.mem_of_getElem? (i := 407) (by decide +kernel)) rfl), (gd_mem (List.mem_of_getElem? (i := 405) (by decide +kernel)) rfl), (gd_mem (List.mem_of_getElem? (i := 406) (by decide +kernel)) rfl), in_X3, by decide, by decide, by decide +kernel⟩
def mX3_worth : MD := (yX3_worth, cX3_worth, 2, (some .long), 1, 21)
theorem okX3_worth : MokV mX3_worth 1 := ⟨(gd_mem (List.mem_of_getElem? (i := 616) (by decide +kernel)) rfl), (gd_mem (List.mem_of_getElem? (i := 614) (by decide +kernel)) rfl), (gd_mem (List.mem_of_getElem? (i := 615) (by decide +kernel)) rfl), in_X3, by decide, by decide, by decide +kernel⟩
def mX4_init : MD := (yX4_init, cX4_init, 1, none, 1, 20)
theorem okX4_init : MokI mX4_init 0 := ⟨(gd_mem (List.mem_of_getElem? (i := 84) (by decide +kernel)) rfl), rfl, rfl, (gd_mem (List.mem_of_getElem? (i := 83) (by decide +kernel)) rfl), in_X4, by decide, by decide, by decide +kernel⟩
def mX4_gridAt : MD := (yX4_gridAt, cX4_gridAt, 2, (some (.object "GeoThreads$Grid")), 0, 0)
theorem okX4_gridAt : MokV mX4_gridAt 1 := ⟨(gd_mem (List.mem_of_getElem? (i := 390) (by decide +kernel)) rfl), (gd_mem (List.mem_of_getElem? (i := 388) (by decide +kernel)) rfl), (gd_mem (List.mem_of_getElem? (i := 389) (by decide +kernel)) rfl), in_X4, by decide, by decide, by decide +kernel⟩
def mX4_addTask : MD := (yX4_addTask, cX4_addTask, 2, (some .int), 0, 0)
theorem okX4_addTask : MokV mX4_addTask 1 := ⟨(gd_mem (List.mem_of_getElem? (i := 477) (by decide +kernel)) rfl), (gd_mem (List.mem_of_getElem? (i := 475) (by decide +kernel)) rfl), (gd_mem (List.mem_of_getElem? (i := 476) (by decide +kernel)) rfl), in_X4, by decide, by decide, by decide +kernel⟩
def mX5_init : MD := (yX5_init, cX5_init, 6, none, 2, 43)
theorem okX5_init : MokI mX5_init 5 := ⟨(gd_mem (List.mem_of_getElem? (i := 486) (by decide +kernel)) rfl), rfl, rfl, (gd_mem (List.mem_of_getElem? (i := 485) (by decide +kernel)) rfl), in_X5, by decide, by decide, by decide +kernel⟩
def mX5_rank : MD := (yX5_rank, cX5_rank, 1, (some .int), 0, 0)
theorem ouX5_rank_X5 : MokU ⟨"GeoThreads$Task", "rank", "()I"⟩ "GeoThreads$Reader" mX5_rank 0 := ⟨(gd_mem (List.mem_of_getElem? (i := 750) (by decide +kernel)) rfl), (gd_mem (List.mem_of_getElem? (i := 749) (by decide +kernel)) rfl), (gd_mem (List.mem_of_getElem? (i := 748) (by decide +kernel)) rfl), in_X5, (gd_mem (List.mem_of_getElem? (i := 747) (by decide +kernel)) rfl), by decide +kernel, Or.inl (nw_mem (List.mem_of_getElem? (i := 746) (by decide +kernel)) rfl)⟩
def mX5_step : MD := (yX5_step, cX5_step, 5, none, 2, 42)
theorem ouX5_step_X5 : MokU ⟨"GeoThreads$Task", "step", "(LGeoThreads$Work;[LGeoThreads$Hunt;)V"⟩ "GeoThreads$Reader" mX5_step 2 := ⟨(gd_mem (List.mem_of_getElem? (i := 599) (by decide +kernel)) rfl), (gd_mem (List.mem_of_getElem? (i := 598) (by decide +kernel)) rfl), (gd_mem (List.mem_of_getElem? (i := 597) (by decide +kernel)) rfl), in_X5, (gd_mem (List.mem_of_getElem? (i := 596) (by decide +kernel)) rfl), by decide +kernel, Or.inl (nw_mem (List.mem_of_getElem? (i := 595) (by decide +kernel)) rfl)⟩
def mX5_meetMissing : MD := (yX5_meetMissing, cX5_meetMissing, 2, none, 1, 21)
theorem okX5_meetMissing : MokV mX5_meetMissing 1 := ⟨(gd_mem (List.mem_of_getElem? (i := 607) (by decide +kernel)) rfl), (gd_mem (List.mem_of_getElem? (i := 606) (by decide +kernel)) rfl), (gd_mem (List.mem_of_getElem? (i := 9) (by decide +kernel)) rfl), in_X5, by decide, by decide, by decide +kernel⟩
def mX5_foundBy : MD := (yX5_foundBy, cX5_foundBy, 2, (some .long), 0, 0)
theorem ouX5_foundBy_X5 : MokU ⟨"GeoThreads$Task", "foundBy", "(LGeoThreads$Work;)J"⟩ "GeoThreads$Reader" mX5_foundBy 1 := ⟨(gd_mem (List.mem_of_getElem? (i := 733) (by decide +kernel)) rfl), (gd_mem (List.mem_of_getElem? (i := 732) (by decide +kernel)) rfl), (gd_mem (List.mem_of_getElem? (i := 731) (by decide +kernel)) rfl), in_X5, (gd_mem (List.mem_of_getElem? (i := 730) (by decide +kernel)) rfl), by decide +kernel, Or.inl (nw_mem (List.mem_of_getElem? (i := 729) (by decide +kernel)) rfl)⟩
def mX6_init : MD := (yX6_init, cX6_init, 6, none, 1, 20)
theorem okX6_init : MokI mX6_init 4 := ⟨(gd_mem (List.mem_of_getElem? (i := 506) (by decide +kernel)) rfl), rfl, rfl, (gd_mem (List.mem_of_getElem? (i := 505) (by decide +kernel)) rfl), in_X6, by decide, by decide, by decide +kernel⟩
def mX7_init : MD := (yX7_init, cX7_init, 7, none, 2, 43)
theorem okX7_init : MokI mX7_init 6 := ⟨(gd_mem (List.mem_of_getElem? (i := 534) (by decide +kernel)) rfl), rfl, rfl, (gd_mem (List.mem_of_getElem? (i := 533) (by decide +kernel)) rfl), in_X7, by decide, by decide, by decide +kernel⟩
def mX7_rank : MD := (yX7_rank, cX7_rank, 1, (some .int), 0, 0)
theorem ouX7_rank_X7 : MokU ⟨"GeoThreads$Task", "rank", "()I"⟩ "GeoThreads$Share" mX7_rank 0 := ⟨(gd_mem (List.mem_of_getElem? (i := 753) (by decide +kernel)) rfl), (gd_mem (List.mem_of_getElem? (i := 752) (by decide +kernel)) rfl), (gd_mem (List.mem_of_getElem? (i := 751) (by decide +kernel)) rfl), in_X7, (gd_mem (List.mem_of_getElem? (i := 747) (by decide +kernel)) rfl), by decide +kernel, Or.inl (nw_mem (List.mem_of_getElem? (i := 746) (by decide +kernel)) rfl)⟩
def mX7_step : MD := (yX7_step, cX7_step, 4, none, 3, 69)
theorem ouX7_step_X7 : MokU ⟨"GeoThreads$Task", "step", "(LGeoThreads$Work;[LGeoThreads$Hunt;)V"⟩ "GeoThreads$Share" mX7_step 2 := ⟨(gd_mem (List.mem_of_getElem? (i := 625) (by decide +kernel)) rfl), (gd_mem (List.mem_of_getElem? (i := 624) (by decide +kernel)) rfl), (gd_mem (List.mem_of_getElem? (i := 623) (by decide +kernel)) rfl), in_X7, (gd_mem (List.mem_of_getElem? (i := 596) (by decide +kernel)) rfl), by decide +kernel, Or.inl (nw_mem (List.mem_of_getElem? (i := 595) (by decide +kernel)) rfl)⟩
def mX7_stepInLine : MD := (yX7_stepInLine, cX7_stepInLine, 8, (some .int), 2, 42)
theorem okX7_stepInLine : MokV mX7_stepInLine 2 := ⟨(gd_mem (List.mem_of_getElem? (i := 629) (by decide +kernel)) rfl), (gd_mem (List.mem_of_getElem? (i := 628) (by decide +kernel)) rfl), (gd_mem (List.mem_of_getElem? (i := 10) (by decide +kernel)) rfl), in_X7, by decide, by decide, by decide +kernel⟩
def mX7_doAgain : MD := (yX7_doAgain, cX7_doAgain, 7, (some .int), 3, 69)
theorem okX7_doAgain : MokV mX7_doAgain 2 := ⟨(gd_mem (List.mem_of_getElem? (i := 689) (by decide +kernel)) rfl), (gd_mem (List.mem_of_getElem? (i := 687) (by decide +kernel)) rfl), (gd_mem (List.mem_of_getElem? (i := 688) (by decide +kernel)) rfl), in_X7, by decide, by decide, by decide +kernel⟩
def mX7_foundBy : MD := (yX7_foundBy, cX7_foundBy, 2, (some .long), 0, 0)
theorem ouX7_foundBy_X7 : MokU ⟨"GeoThreads$Task", "foundBy", "(LGeoThreads$Work;)J"⟩ "GeoThreads$Share" mX7_foundBy 1 := ⟨(gd_mem (List.mem_of_getElem? (i := 736) (by decide +kernel)) rfl), (gd_mem (List.mem_of_getElem? (i := 735) (by decide +kernel)) rfl), (gd_mem (List.mem_of_getElem? (i := 734) (by decide +kernel)) rfl), in_X7, (gd_mem (List.mem_of_getElem? (i := 730) (by decide +kernel)) rfl), by decide +kernel, Or.inl (nw_mem (List.mem_of_getElem? (i := 729) (by decide +kernel)) rfl)⟩
def mX7_usedBy : MD := (yX7_usedBy, cX7_usedBy, 2, (some .int), 0, 0)
theorem ouX7_usedBy_X7 : MokU ⟨"GeoThreads$Task", "usedBy", "(LGeoThreads$Work;)I"⟩ "GeoThreads$Share" mX7_usedBy 1 := ⟨(gd_mem (List.mem_of_getElem? (i := 651) (by decide +kernel)) rfl), (gd_mem (List.mem_of_getElem? (i := 650) (by decide +kernel)) rfl), (gd_mem (List.mem_of_getElem? (i := 649) (by decide +kernel)) rfl), in_X7, (gd_mem (List.mem_of_getElem? (i := 647) (by decide +kernel)) rfl), by decide +kernel, Or.inr ⟨(gd_mem (List.mem_of_getElem? (i := 646) (by decide +kernel)) rfl), cX8_usedBy, 2, (some .int), (gd_mem (List.mem_of_getElem? (i := 653) (by decide +kernel)) rfl)⟩⟩
def mX8_init : MD := (yX8_init, cX8_init, 4, none, 1, 20)
theorem okX8_init : MokI mX8_init 3 := ⟨(gd_mem (List.mem_of_getElem? (i := 446) (by decide +kernel)) rfl), rfl, rfl, (gd_mem (List.mem_of_getElem? (i := 445) (by decide +kernel)) rfl), in_X8, by decide, by decide, by decide +kernel⟩
def mX8_isWay : MD := (yX8_isWay, cX8_isWay, 1, (some .boolean), 0, 0)
theorem ouX8_isWay_X9 : MokU ⟨"GeoThreads$Task", "isWay", "()Z"⟩ "GeoThreads$Way" mX8_isWay 0 := ⟨(gd_mem (List.mem_of_getElem? (i := 668) (by decide +kernel)) rfl), (gd_mem (List.mem_of_getElem? (i := 663) (by decide +kernel)) rfl), (gd_mem (List.mem_of_getElem? (i := 667) (by decide +kernel)) rfl), in_X8, (gd_mem (List.mem_of_getElem? (i := 664) (by decide +kernel)) rfl), by decide +kernel, Or.inr ⟨(gd_mem (List.mem_of_getElem? (i := 663) (by decide +kernel)) rfl), cX8_isWay, 1, (some .boolean), (gd_mem (List.mem_of_getElem? (i := 668) (by decide +kernel)) rfl)⟩⟩
theorem ouX8_isWay_X5 : MokU ⟨"GeoThreads$Task", "isWay", "()Z"⟩ "GeoThreads$Reader" mX8_isWay 0 := ⟨(gd_mem (List.mem_of_getElem? (i := 668) (by decide +kernel)) rfl), (gd_mem (List.mem_of_getElem? (i := 663) (by decide +kernel)) rfl), (gd_mem (List.mem_of_getElem? (i := 665) (by decide +kernel)) rfl), in_X8, (gd_mem (List.mem_of_getElem? (i := 664) (by decide +kernel)) rfl), by decide +kernel, Or.inr ⟨(gd_mem (List.mem_of_getElem? (i := 663) (by decide +kernel)) rfl), cX8_isWay, 1, (some .boolean), (gd_mem (List.mem_of_getElem? (i := 668) (by decide +kernel)) rfl)⟩⟩
theorem ouX8_isWay_X7 : MokU ⟨"GeoThreads$Task", "isWay", "()Z"⟩ "GeoThreads$Share" mX8_isWay 0 := ⟨(gd_mem (List.mem_of_getElem? (i := 668) (by decide +kernel)) rfl), (gd_mem (List.mem_of_getElem? (i := 663) (by decide +kernel)) rfl), (gd_mem (List.mem_of_getElem? (i := 666) (by decide +kernel)) rfl), in_X8, (gd_mem (List.mem_of_getElem? (i := 664) (by decide +kernel)) rfl), by decide +kernel, Or.inr ⟨(gd_mem (List.mem_of_getElem? (i := 663) (by decide +kernel)) rfl), cX8_isWay, 1, (some .boolean), (gd_mem (List.mem_of_getElem? (i := 668) (by decide +kernel)) rfl)⟩⟩
def mX8_usedBy : MD := (yX8_usedBy, cX8_usedBy, 2, (some .int), 0, 0)
theorem ouX8_usedBy_X9 : MokU ⟨"GeoThreads$Task", "usedBy", "(LGeoThreads$Work;)I"⟩ "GeoThreads$Way" mX8_usedBy 1 := ⟨(gd_mem (List.mem_of_getElem? (i := 653) (by decide +kernel)) rfl), (gd_mem (List.mem_of_getElem? (i := 646) (by decide +kernel)) rfl), (gd_mem (List.mem_of_getElem? (i := 652) (by decide +kernel)) rfl), in_X8, (gd_mem (List.mem_of_getElem? (i := 647) (by decide +kernel)) rfl), by decide +kernel, Or.inr ⟨(gd_mem (List.mem_of_getElem? (i := 646) (by decide +kernel)) rfl), cX8_usedBy, 2, (some .int), (gd_mem (List.mem_of_getElem? (i := 653) (by decide +kernel)) rfl)⟩⟩
theorem ouX8_usedBy_X5 : MokU ⟨"GeoThreads$Task", "usedBy", "(LGeoThreads$Work;)I"⟩ "GeoThreads$Reader" mX8_usedBy 1 := ⟨(gd_mem (List.mem_of_getElem? (i := 653) (by decide +kernel)) rfl), (gd_mem (List.mem_of_getElem? (i := 646) (by decide +kernel)) rfl), (gd_mem (List.mem_of_getElem? (i := 648) (by decide +kernel)) rfl), in_X8, (gd_mem (List.mem_of_getElem? (i := 647) (by decide +kernel)) rfl), by decide +kernel, Or.inr ⟨(gd_mem (List.mem_of_getElem? (i := 646) (by decide +kernel)) rfl), cX8_usedBy, 2, (some .int), (gd_mem (List.mem_of_getElem? (i := 653) (by decide +kernel)) rfl)⟩⟩
def mX9_init : MD := (yX9_init, cX9_init, 8, none, 2, 43)
theorem okX9_init : MokI mX9_init 6 := ⟨(gd_mem (List.mem_of_getElem? (i := 443) (by decide +kernel)) rfl), rfl, rfl, (gd_mem (List.mem_of_getElem? (i := 442) (by decide +kernel)) rfl), in_X9, by decide, by decide, by decide +kernel⟩
def mX9_rank : MD := (yX9_rank, cX9_rank, 1, (some .int), 0, 0)
theorem ouX9_rank_X9 : MokU ⟨"GeoThreads$Task", "rank", "()I"⟩ "GeoThreads$Way" mX9_rank 0 := ⟨(gd_mem (List.mem_of_getElem? (i := 756) (by decide +kernel)) rfl), (gd_mem (List.mem_of_getElem? (i := 755) (by decide +kernel)) rfl), (gd_mem (List.mem_of_getElem? (i := 754) (by decide +kernel)) rfl), in_X9, (gd_mem (List.mem_of_getElem? (i := 747) (by decide +kernel)) rfl), by decide +kernel, Or.inl (nw_mem (List.mem_of_getElem? (i := 746) (by decide +kernel)) rfl)⟩
def mX9_step : MD := (yX9_step, cX9_step, 5, none, 1, 21)
theorem ouX9_step_X9 : MokU ⟨"GeoThreads$Task", "step", "(LGeoThreads$Work;[LGeoThreads$Hunt;)V"⟩ "GeoThreads$Way" mX9_step 2 := ⟨(gd_mem (List.mem_of_getElem? (i := 642) (by decide +kernel)) rfl), (gd_mem (List.mem_of_getElem? (i := 641) (by decide +kernel)) rfl), (gd_mem (List.mem_of_getElem? (i := 640) (by decide +kernel)) rfl), in_X9, (gd_mem (List.mem_of_getElem? (i := 596) (by decide +kernel)) rfl), by decide +kernel, Or.inl (nw_mem (List.mem_of_getElem? (i := 595) (by decide +kernel)) rfl)⟩
def mX9_foundBy : MD := (yX9_foundBy, cX9_foundBy, 2, (some .long), 0, 0)
theorem ouX9_foundBy_X9 : MokU ⟨"GeoThreads$Task", "foundBy", "(LGeoThreads$Work;)J"⟩ "GeoThreads$Way" mX9_foundBy 1 := ⟨(gd_mem (List.mem_of_getElem? (i := 740) (by decide +kernel)) rfl), (gd_mem (List.mem_of_getElem? (i := 739) (by decide +kernel)) rfl), (gd_mem (List.mem_of_getElem? (i := 738) (by decide +kernel)) rfl), in_X9, (gd_mem (List.mem_of_getElem? (i := 730) (by decide +kernel)) rfl), by decide +kernel, Or.inl (nw_mem (List.mem_of_getElem? (i := 729) (by decide +kernel)) rfl)⟩
def mX10_init : MD := (yX10_init, cX10_init, 1, none, 1, 20)
theorem okX10_init : MokI mX10_init 0 := ⟨(gd_mem (List.mem_of_getElem? (i := 143) (by decide +kernel)) rfl), rfl, rfl, (gd_mem (List.mem_of_getElem? (i := 142) (by decide +kernel)) rfl), in_X10, by decide, by decide, by decide +kernel⟩
def mX10_begin : MD := (yX10_begin, cX10_begin, 1, none, 0, 0)
theorem okX10_begin : MokV mX10_begin 0 := ⟨(gd_mem (List.mem_of_getElem? (i := 309) (by decide +kernel)) rfl), (gd_mem (List.mem_of_getElem? (i := 307) (by decide +kernel)) rfl), (gd_mem (List.mem_of_getElem? (i := 308) (by decide +kernel)) rfl), in_X10, by decide, by decide, by decide +kernel⟩
def mX10_isLeft : MD := (yX10_isLeft, cX10_isLeft, 1, (some .boolean), 0, 0)
theorem okX10_isLeft : MokV mX10_isLeft 0 := ⟨(gd_mem (List.mem_of_getElem? (i := 672) (by decide +kernel)) rfl), (gd_mem (List.mem_of_getElem? (i := 670) (by decide +kernel)) rfl), (gd_mem (List.mem_of_getElem? (i := 671) (by decide +kernel)) rfl), in_X10, by decide, by decide, by decide +kernel⟩
def mX10_fail : MD := (yX10_fail, cX10_fail, 2, none, 0, 0)
theorem okX10_fail : MokV mX10_fail 1 := ⟨(gd_mem (List.mem_of_getElem? (i := 603) (by decide +kernel)) rfl), (gd_mem (List.mem_of_getElem? (i := 601) (by decide +kernel)) rfl), (gd_mem (List.mem_of_getElem? (i := 602) (by decide +kernel)) rfl), in_X10, by decide, by decide, by decide +kernel⟩
def mX10_read : MD := (yX10_read, cX10_read, 3, none, 0, 0)
theorem okX10_read : MokV mX10_read 1 := ⟨(gd_mem (List.mem_of_getElem? (i := 622) (by decide +kernel)) rfl), (gd_mem (List.mem_of_getElem? (i := 620) (by decide +kernel)) rfl), (gd_mem (List.mem_of_getElem? (i := 621) (by decide +kernel)) rfl), in_X10, by decide, by decide, by decide +kernel⟩
def mX10_nextLine : MD := (yX10_nextLine, cX10_nextLine, 1, none, 0, 0)
theorem okX10_nextLine : MokV mX10_nextLine 0 := ⟨(gd_mem (List.mem_of_getElem? (i := 611) (by decide +kernel)) rfl), (gd_mem (List.mem_of_getElem? (i := 609) (by decide +kernel)) rfl), (gd_mem (List.mem_of_getElem? (i := 610) (by decide +kernel)) rfl), in_X10, by decide, by decide, by decide +kernel⟩
def mX11_init : MD := (yX11_init, cX11_init, 3, none, 3, 64)
theorem okX11_init : MokI mX11_init 2 := ⟨(gd_mem (List.mem_of_getElem? (i := 70) (by decide +kernel)) rfl), rfl, rfl, (gd_mem (List.mem_of_getElem? (i := 69) (by decide +kernel)) rfl), in_X11, by decide, by decide, by decide +kernel⟩
def mX11_grid : MD := (yX11_grid, cX11_grid, 6, (some .int), 3, 63)
theorem okX11_grid : MokV mX11_grid 3 := ⟨(gd_mem (List.mem_of_getElem? (i := 336) (by decide +kernel)) rfl), (gd_mem (List.mem_of_getElem? (i := 334) (by decide +kernel)) rfl), (gd_mem (List.mem_of_getElem? (i := 335) (by decide +kernel)) rfl), in_X11, by decide, by decide, by decide +kernel⟩
def mX11_line : MD := (yX11_line, cX11_line, 5, (some .int), 3, 63)
theorem okX11_line : MokV mX11_line 3 := ⟨(gd_mem (List.mem_of_getElem? (i := 386) (by decide +kernel)) rfl), (gd_mem (List.mem_of_getElem? (i := 384) (by decide +kernel)) rfl), (gd_mem (List.mem_of_getElem? (i := 385) (by decide +kernel)) rfl), in_X11, by decide, by decide, by decide +kernel⟩
def mX11_put : MD := (yX11_put, cX11_put, 9, (some .int), 2, 42)
theorem okX11_put : MokV mX11_put 4 := ⟨(gd_mem (List.mem_of_getElem? (i := 398) (by decide +kernel)) rfl), (gd_mem (List.mem_of_getElem? (i := 396) (by decide +kernel)) rfl), (gd_mem (List.mem_of_getElem? (i := 397) (by decide +kernel)) rfl), in_X11, by decide, by decide, by decide +kernel⟩
def mX11_item : MD := (yX11_item, cX11_item, 7, (some .long), 2, 42)
theorem okX11_item : MokV mX11_item 4 := ⟨(gd_mem (List.mem_of_getElem? (i := 416) (by decide +kernel)) rfl), (gd_mem (List.mem_of_getElem? (i := 414) (by decide +kernel)) rfl), (gd_mem (List.mem_of_getElem? (i := 415) (by decide +kernel)) rfl), in_X11, by decide, by decide, by decide +kernel⟩
def mX11_lay : MD := (yX11_lay, cX11_lay, 8, (some .int), 1, 21)
theorem okX11_lay : MokV mX11_lay 4 := ⟨(gd_mem (List.mem_of_getElem? (i := 421) (by decide +kernel)) rfl), (gd_mem (List.mem_of_getElem? (i := 419) (by decide +kernel)) rfl), (gd_mem (List.mem_of_getElem? (i := 420) (by decide +kernel)) rfl), in_X11, by decide, by decide, by decide +kernel⟩
def mX11_size : MD := (yX11_size, cX11_size, 5, (some .int), 2, 42)
theorem okX11_size : MokV mX11_size 2 := ⟨(gd_mem (List.mem_of_getElem? (i := 425) (by decide +kernel)) rfl), (gd_mem (List.mem_of_getElem? (i := 423) (by decide +kernel)) rfl), (gd_mem (List.mem_of_getElem? (i := 424) (by decide +kernel)) rfl), in_X11, by decide, by decide, by decide +kernel⟩
def mX11_way : MD := (yX11_way, cX11_way, 9, (some .int), 3, 70)
theorem okX11_way : MokV mX11_way 6 := ⟨(gd_mem (List.mem_of_getElem? (i := 429) (by decide +kernel)) rfl), (gd_mem (List.mem_of_getElem? (i := 427) (by decide +kernel)) rfl), (gd_mem (List.mem_of_getElem? (i := 428) (by decide +kernel)) rfl), in_X11, by decide, by decide, by decide +kernel⟩
def mX11_reader : MD := (yX11_reader, cX11_reader, 8, (some .int), 3, 68)
theorem okX11_reader : MokV mX11_reader 5 := ⟨(gd_mem (List.mem_of_getElem? (i := 481) (by decide +kernel)) rfl), (gd_mem (List.mem_of_getElem? (i := 479) (by decide +kernel)) rfl), (gd_mem (List.mem_of_getElem? (i := 480) (by decide +kernel)) rfl), in_X11, by decide, by decide, by decide +kernel⟩
def mX11_search : MD := (yX11_search, cX11_search, 7, (some .int), 2, 45)
theorem okX11_search : MokV mX11_search 4 := ⟨(gd_mem (List.mem_of_getElem? (i := 501) (by decide +kernel)) rfl), (gd_mem (List.mem_of_getElem? (i := 499) (by decide +kernel)) rfl), (gd_mem (List.mem_of_getElem? (i := 500) (by decide +kernel)) rfl), in_X11, by decide, by decide, by decide +kernel⟩
def mX11_share : MD := (yX11_share, cX11_share, 8, (some .int), 3, 69)
theorem okX11_share : MokV mX11_share 5 := ⟨(gd_mem (List.mem_of_getElem? (i := 529) (by decide +kernel)) rfl), (gd_mem (List.mem_of_getElem? (i := 527) (by decide +kernel)) rfl), (gd_mem (List.mem_of_getElem? (i := 528) (by decide +kernel)) rfl), in_X11, by decide, by decide, by decide +kernel⟩
def mX11_turn : MD := (yX11_turn, cX11_turn, 2, (some .int), 1, 21)
theorem okX11_turn : MokV mX11_turn 1 := ⟨(gd_mem (List.mem_of_getElem? (i := 556) (by decide +kernel)) rfl), (gd_mem (List.mem_of_getElem? (i := 554) (by decide +kernel)) rfl), (gd_mem (List.mem_of_getElem? (i := 555) (by decide +kernel)) rfl), in_X11, by decide, by decide, by decide +kernel⟩
def mX11_run : MD := (yX11_run, cX11_run, 2, (some .int), 7, 160)
theorem okX11_run : MokV mX11_run 1 := ⟨(gd_mem (List.mem_of_getElem? (i := 564) (by decide +kernel)) rfl), (gd_mem (List.mem_of_getElem? (i := 562) (by decide +kernel)) rfl), (gd_mem (List.mem_of_getElem? (i := 563) (by decide +kernel)) rfl), in_X11, by decide, by decide, by decide +kernel⟩
def mX11_interrupt : MD := (yX11_interrupt, cX11_interrupt, 2, (some .int), 4, 87)
theorem okX11_interrupt : MokV mX11_interrupt 1 := ⟨(gd_mem (List.mem_of_getElem? (i := 694) (by decide +kernel)) rfl), (gd_mem (List.mem_of_getElem? (i := 692) (by decide +kernel)) rfl), (gd_mem (List.mem_of_getElem? (i := 693) (by decide +kernel)) rfl), in_X11, by decide, by decide, by decide +kernel⟩
def mX11_close : MD := (yX11_close, cX11_close, 1, (some .int), 3, 68)
theorem okX11_close : MokV mX11_close 0 := ⟨(gd_mem (List.mem_of_getElem? (i := 706) (by decide +kernel)) rfl), (gd_mem (List.mem_of_getElem? (i := 704) (by decide +kernel)) rfl), (gd_mem (List.mem_of_getElem? (i := 705) (by decide +kernel)) rfl), in_X11, by decide, by decide, by decide +kernel⟩
def mX11_anew : MD := (yX11_anew, cX11_anew, 1, (some .int), 2, 44)
theorem okX11_anew : MokV mX11_anew 0 := ⟨(gd_mem (List.mem_of_getElem? (i := 714) (by decide +kernel)) rfl), (gd_mem (List.mem_of_getElem? (i := 712) (by decide +kernel)) rfl), (gd_mem (List.mem_of_getElem? (i := 713) (by decide +kernel)) rfl), in_X11, by decide, by decide, by decide +kernel⟩
def mX11_taken : MD := (yX11_taken, cX11_taken, 1, (some .int), 0, 0)
theorem okX11_taken : MokV mX11_taken 0 := ⟨(gd_mem (List.mem_of_getElem? (i := 718) (by decide +kernel)) rfl), (gd_mem (List.mem_of_getElem? (i := 716) (by decide +kernel)) rfl), (gd_mem (List.mem_of_getElem? (i := 717) (by decide +kernel)) rfl), in_X11, by decide, by decide, by decide +kernel⟩
def mX11_answer : MD := (yX11_answer, cX11_answer, 2, (some .long), 2, 42)
theorem okX11_answer : MokV mX11_answer 1 := ⟨(gd_mem (List.mem_of_getElem? (i := 722) (by decide +kernel)) rfl), (gd_mem (List.mem_of_getElem? (i := 720) (by decide +kernel)) rfl), (gd_mem (List.mem_of_getElem? (i := 721) (by decide +kernel)) rfl), in_X11, by decide, by decide, by decide +kernel⟩
def mX11_told : MD := (yX11_told, cX11_told, 4, (some .int), 1, 21)
theorem okX11_told : MokV mX11_told 2 := ⟨(gd_mem (List.mem_of_getElem? (i := 744) (by decide +kernel)) rfl), (gd_mem (List.mem_of_getElem? (i := 742) (by decide +kernel)) rfl), (gd_mem (List.mem_of_getElem? (i := 743) (by decide +kernel)) rfl), in_X11, by decide, by decide, by decide +kernel⟩
def mX11_best : MD := (yX11_best, cX11_best, 4, (some .long), 1, 25)
theorem okX11_best : MokV mX11_best 2 := ⟨(gd_mem (List.mem_of_getElem? (i := 760) (by decide +kernel)) rfl), (gd_mem (List.mem_of_getElem? (i := 758) (by decide +kernel)) rfl), (gd_mem (List.mem_of_getElem? (i := 759) (by decide +kernel)) rfl), in_X11, by decide, by decide, by decide +kernel⟩
def mX11_note : MD := (yX11_note, cX11_note, 2, (some .int), 0, 0)
theorem okX11_note : MokV mX11_note 1 := ⟨(gd_mem (List.mem_of_getElem? (i := 769) (by decide +kernel)) rfl), (gd_mem (List.mem_of_getElem? (i := 767) (by decide +kernel)) rfl), (gd_mem (List.mem_of_getElem? (i := 768) (by decide +kernel)) rfl), in_X11, by decide, by decide, by decide +kernel⟩
def mX11_finished : MD := (yX11_finished, cX11_finished, 2, (some .int), 1, 21)
theorem okX11_finished : MokV mX11_finished 1 := ⟨(gd_mem (List.mem_of_getElem? (i := 773) (by decide +kernel)) rfl), (gd_mem (List.mem_of_getElem? (i := 771) (by decide +kernel)) rfl), (gd_mem (List.mem_of_getElem? (i := 772) (by decide +kernel)) rfl), in_X11, by decide, by decide, by decide +kernel⟩
def mX11_count : MD := (yX11_count, cX11_count, 2, (some .int), 0, 0)
theorem okX11_count : MokV mX11_count 1 := ⟨(gd_mem (List.mem_of_getElem? (i := 777) (by decide +kernel)) rfl), (gd_mem (List.mem_of_getElem? (i := 775) (by decide +kernel)) rfl), (gd_mem (List.mem_of_getElem? (i := 776) (by decide +kernel)) rfl), in_X11, by decide, by decide, by decide +kernel⟩
def mX11_equal : MD := (yX11_equal, cX11_equal, 2, (some .int), 7, 160)
theorem okX11_equal : MokV mX11_equal 1 := ⟨(gd_mem (List.mem_of_getElem? (i := 781) (by decide +kernel)) rfl), (gd_mem (List.mem_of_getElem? (i := 779) (by decide +kernel)) rfl), (gd_mem (List.mem_of_getElem? (i := 780) (by decide +kernel)) rfl), in_X11, by decide, by decide, by decide +kernel⟩
def mX11_refusal : MD := (yX11_refusal, cX11_refusal, 1, (some .int), 0, 0)
theorem okX11_refusal : MokS mX11_refusal 1 := ⟨(gd_mem (List.mem_of_getElem? (i := 342) (by decide +kernel)) rfl), (gd_mem (List.mem_of_getElem? (i := 341) (by decide +kernel)) rfl), in_X11, by decide, by decide, by decide +kernel⟩
def mX11_isKind : MD := (yX11_isKind, cX11_isKind, 1, (some .boolean), 0, 0)
theorem okX11_isKind : MokS mX11_isKind 1 := ⟨(gd_mem (List.mem_of_getElem? (i := 339) (by decide +kernel)) rfl), (gd_mem (List.mem_of_getElem? (i := 338) (by decide +kernel)) rfl), in_X11, by decide, by decide, by decide +kernel⟩
def mX11_isThread : MD := (yX11_isThread, cX11_isThread, 2, (some .boolean), 0, 0)
theorem okX11_isThread : MokV mX11_isThread 1 := ⟨(gd_mem (List.mem_of_getElem? (i := 560) (by decide +kernel)) rfl), (gd_mem (List.mem_of_getElem? (i := 559) (by decide +kernel)) rfl), (gd_mem (List.mem_of_getElem? (i := 2) (by decide +kernel)) rfl), in_X11, by decide, by decide, by decide +kernel⟩
def mX11_isTask : MD := (yX11_isTask, cX11_isTask, 2, (some .boolean), 0, 0)
theorem okX11_isTask : MokV mX11_isTask 1 := ⟨(gd_mem (List.mem_of_getElem? (i := 698) (by decide +kernel)) rfl), (gd_mem (List.mem_of_getElem? (i := 697) (by decide +kernel)) rfl), (gd_mem (List.mem_of_getElem? (i := 16) (by decide +kernel)) rfl), in_X11, by decide, by decide, by decide +kernel⟩
def mX11_isLoad : MD := (yX11_isLoad, cX11_isLoad, 3, (some .boolean), 0, 0)
theorem okX11_isLoad : MokV mX11_isLoad 2 := ⟨(gd_mem (List.mem_of_getElem? (i := 434) (by decide +kernel)) rfl), (gd_mem (List.mem_of_getElem? (i := 433) (by decide +kernel)) rfl), (gd_mem (List.mem_of_getElem? (i := 0) (by decide +kernel)) rfl), in_X11, by decide, by decide, by decide +kernel⟩
def mX11_refusalOfTask : MD := (yX11_refusalOfTask, cX11_refusalOfTask, 1, (some .int), 0, 0)
theorem okX11_refusalOfTask : MokV mX11_refusalOfTask 0 := ⟨(gd_mem (List.mem_of_getElem? (i := 438) (by decide +kernel)) rfl), (gd_mem (List.mem_of_getElem? (i := 437) (by decide +kernel)) rfl), (gd_mem (List.mem_of_getElem? (i := 1) (by decide +kernel)) rfl), in_X11, by decide, by decide, by decide +kernel⟩
def mX11_newLine : MD := (yX11_newLine, cX11_newLine, 2, (some (.object "GeoThreads$Line")), 2, 42)
theorem okX11_newLine : MokS mX11_newLine 2 := ⟨(gd_mem (List.mem_of_getElem? (i := 366) (by decide +kernel)) rfl), (gd_mem (List.mem_of_getElem? (i := 365) (by decide +kernel)) rfl), in_X11, by decide, by decide, by decide +kernel⟩
def mX11_numberOf : MD := (yX11_numberOf, cX11_numberOf, 3, (some .long), 0, 0)
theorem okX11_numberOf : MokS mX11_numberOf 2 := ⟨(gd_mem (List.mem_of_getElem? (i := 410) (by decide +kernel)) rfl), (gd_mem (List.mem_of_getElem? (i := 409) (by decide +kernel)) rfl), in_X11, by decide, by decide, by decide +kernel⟩
def mX12_init : MD := (yX12_init, cX12_init, 3, none, 1, 21)
theorem okX12_init : MokI mX12_init 2 := ⟨(gd_mem (List.mem_of_getElem? (i := 799) (by decide +kernel)) rfl), rfl, rfl, (gd_mem (List.mem_of_getElem? (i := 798) (by decide +kernel)) rfl), in_X12, by decide, by decide, by decide +kernel⟩
def mX12_in : MD := (yX12_in, cX12_in, 3, (some .boolean), 0, 0)
theorem okX12_in : MokS mX12_in 3 := ⟨(gd_mem (List.mem_of_getElem? (i := 919) (by decide +kernel)) rfl), (gd_mem (List.mem_of_getElem? (i := 918) (by decide +kernel)) rfl), in_X12, by decide, by decide, by decide +kernel⟩
def mX12_begins : MD := (yX12_begins, cX12_begins, 2, none, 0, 0)
theorem okX12_begins : MokV mX12_begins 0 := ⟨(gd_mem (List.mem_of_getElem? (i := 804) (by decide +kernel)) rfl), (gd_mem (List.mem_of_getElem? (i := 803) (by decide +kernel)) rfl), (gd_mem (List.mem_of_getElem? (i := 18) (by decide +kernel)) rfl), in_X12, by decide, by decide, by decide +kernel⟩
def mX12_isOpen : MD := (yX12_isOpen, cX12_isOpen, 1, (some .boolean), 0, 0)
theorem okX12_isOpen : MokV mX12_isOpen 0 := ⟨(gd_mem (List.mem_of_getElem? (i := 923) (by decide +kernel)) rfl), (gd_mem (List.mem_of_getElem? (i := 922) (by decide +kernel)) rfl), (gd_mem (List.mem_of_getElem? (i := 19) (by decide +kernel)) rfl), in_X12, by decide, by decide, by decide +kernel⟩
def mX12_isGrid : MD := (yX12_isGrid, cX12_isGrid, 2, (some .boolean), 1, 22)
theorem okX12_isGrid : MokV mX12_isGrid 1 := ⟨(gd_mem (List.mem_of_getElem? (i := 935) (by decide +kernel)) rfl), (gd_mem (List.mem_of_getElem? (i := 934) (by decide +kernel)) rfl), (gd_mem (List.mem_of_getElem? (i := 21) (by decide +kernel)) rfl), in_X12, by decide, by decide, by decide +kernel⟩
def mX12_isTask : MD := (yX12_isTask, cX12_isTask, 2, (some .boolean), 1, 22)
theorem okX12_isTask : MokV mX12_isTask 1 := ⟨(gd_mem (List.mem_of_getElem? (i := 1085) (by decide +kernel)) rfl), (gd_mem (List.mem_of_getElem? (i := 1084) (by decide +kernel)) rfl), (gd_mem (List.mem_of_getElem? (i := 45) (by decide +kernel)) rfl), in_X12, by decide, by decide, by decide +kernel⟩
def mX12_newLine : MD := (yX12_newLine, cX12_newLine, 2, (some .int), 0, 0)
theorem okX12_newLine : MokV mX12_newLine 1 := ⟨(gd_mem (List.mem_of_getElem? (i := 927) (by decide +kernel)) rfl), (gd_mem (List.mem_of_getElem? (i := 926) (by decide +kernel)) rfl), (gd_mem (List.mem_of_getElem? (i := 20) (by decide +kernel)) rfl), in_X12, by decide, by decide, by decide +kernel⟩
def mX12_grid : MD := (yX12_grid, cX12_grid, 5, (some .int), 1, 22)
theorem okX12_grid : MokV mX12_grid 3 := ⟨(gd_mem (List.mem_of_getElem? (i := 916) (by decide +kernel)) rfl), (gd_mem (List.mem_of_getElem? (i := 914) (by decide +kernel)) rfl), (gd_mem (List.mem_of_getElem? (i := 915) (by decide +kernel)) rfl), in_X12, by decide, by decide, by decide +kernel⟩
def mX12_isLine : MD := (yX12_isLine, cX12_isLine, 3, (some .boolean), 1, 22)
theorem okX12_isLine : MokV mX12_isLine 2 := ⟨(gd_mem (List.mem_of_getElem? (i := 939) (by decide +kernel)) rfl), (gd_mem (List.mem_of_getElem? (i := 938) (by decide +kernel)) rfl), (gd_mem (List.mem_of_getElem? (i := 22) (by decide +kernel)) rfl), in_X12, by decide, by decide, by decide +kernel⟩
def mX12_line : MD := (yX12_line, cX12_line, 4, (some .int), 2, 44)
theorem okX12_line : MokV mX12_line 3 := ⟨(gd_mem (List.mem_of_getElem? (i := 931) (by decide +kernel)) rfl), (gd_mem (List.mem_of_getElem? (i := 929) (by decide +kernel)) rfl), (gd_mem (List.mem_of_getElem? (i := 930) (by decide +kernel)) rfl), in_X12, by decide, by decide, by decide +kernel⟩
def mX12_against : MD := (yX12_against, cX12_against, 5, (some .int), 2, 44)
theorem okX12_against : MokV mX12_against 3 := ⟨(gd_mem (List.mem_of_getElem? (i := 947) (by decide +kernel)) rfl), (gd_mem (List.mem_of_getElem? (i := 946) (by decide +kernel)) rfl), (gd_mem (List.mem_of_getElem? (i := 23) (by decide +kernel)) rfl), in_X12, by decide, by decide, by decide +kernel⟩
def mX12_asKind : MD := (yX12_asKind, cX12_asKind, 3, (some .long), 0, 0)
theorem okX12_asKind : MokS mX12_asKind 2 := ⟨(gd_mem (List.mem_of_getElem? (i := 950) (by decide +kernel)) rfl), (gd_mem (List.mem_of_getElem? (i := 949) (by decide +kernel)) rfl), in_X12, by decide, by decide, by decide +kernel⟩
def mX12_put : MD := (yX12_put, cX12_put, 7, (some .int), 3, 68)
theorem okX12_put : MokV mX12_put 4 := ⟨(gd_mem (List.mem_of_getElem? (i := 943) (by decide +kernel)) rfl), (gd_mem (List.mem_of_getElem? (i := 941) (by decide +kernel)) rfl), (gd_mem (List.mem_of_getElem? (i := 942) (by decide +kernel)) rfl), in_X12, by decide, by decide, by decide +kernel⟩
def mX12_item : MD := (yX12_item, cX12_item, 5, (some .long), 3, 68)
theorem okX12_item : MokV mX12_item 4 := ⟨(gd_mem (List.mem_of_getElem? (i := 956) (by decide +kernel)) rfl), (gd_mem (List.mem_of_getElem? (i := 954) (by decide +kernel)) rfl), (gd_mem (List.mem_of_getElem? (i := 955) (by decide +kernel)) rfl), in_X12, by decide, by decide, by decide +kernel⟩
def mX12_lay : MD := (yX12_lay, cX12_lay, 6, (some .int), 2, 44)
theorem okX12_lay : MokV mX12_lay 4 := ⟨(gd_mem (List.mem_of_getElem? (i := 960) (by decide +kernel)) rfl), (gd_mem (List.mem_of_getElem? (i := 958) (by decide +kernel)) rfl), (gd_mem (List.mem_of_getElem? (i := 959) (by decide +kernel)) rfl), in_X12, by decide, by decide, by decide +kernel⟩
def mX12_size : MD := (yX12_size, cX12_size, 4, (some .int), 2, 44)
theorem okX12_size : MokV mX12_size 2 := ⟨(gd_mem (List.mem_of_getElem? (i := 964) (by decide +kernel)) rfl), (gd_mem (List.mem_of_getElem? (i := 962) (by decide +kernel)) rfl), (gd_mem (List.mem_of_getElem? (i := 963) (by decide +kernel)) rfl), in_X12, by decide, by decide, by decide +kernel⟩
def mX12_mayNeed : MD := (yX12_mayNeed, cX12_mayNeed, 3, (some .boolean), 1, 22)
theorem okX12_mayNeed : MokV mX12_mayNeed 2 := ⟨(gd_mem (List.mem_of_getElem? (i := 973) (by decide +kernel)) rfl), (gd_mem (List.mem_of_getElem? (i := 972) (by decide +kernel)) rfl), (gd_mem (List.mem_of_getElem? (i := 24) (by decide +kernel)) rfl), in_X12, by decide, by decide, by decide +kernel⟩
def mX12_comes : MD := (yX12_comes, cX12_comes, 4, (some .int), 0, 0)
theorem okX12_comes : MokV mX12_comes 3 := ⟨(gd_mem (List.mem_of_getElem? (i := 977) (by decide +kernel)) rfl), (gd_mem (List.mem_of_getElem? (i := 976) (by decide +kernel)) rfl), (gd_mem (List.mem_of_getElem? (i := 25) (by decide +kernel)) rfl), in_X12, by decide, by decide, by decide +kernel⟩
def mX12_way : MD := (yX12_way, cX12_way, 8, (some .int), 2, 44)
theorem okX12_way : MokV mX12_way 6 := ⟨(gd_mem (List.mem_of_getElem? (i := 968) (by decide +kernel)) rfl), (gd_mem (List.mem_of_getElem? (i := 966) (by decide +kernel)) rfl), (gd_mem (List.mem_of_getElem? (i := 967) (by decide +kernel)) rfl), in_X12, by decide, by decide, by decide +kernel⟩
def mX12_reader : MD := (yX12_reader, cX12_reader, 6, (some .int), 2, 44)
theorem okX12_reader : MokV mX12_reader 5 := ⟨(gd_mem (List.mem_of_getElem? (i := 981) (by decide +kernel)) rfl), (gd_mem (List.mem_of_getElem? (i := 979) (by decide +kernel)) rfl), (gd_mem (List.mem_of_getElem? (i := 980) (by decide +kernel)) rfl), in_X12, by decide, by decide, by decide +kernel⟩
def mX12_search : MD := (yX12_search, cX12_search, 6, (some .int), 2, 43)
theorem okX12_search : MokV mX12_search 4 := ⟨(gd_mem (List.mem_of_getElem? (i := 985) (by decide +kernel)) rfl), (gd_mem (List.mem_of_getElem? (i := 983) (by decide +kernel)) rfl), (gd_mem (List.mem_of_getElem? (i := 984) (by decide +kernel)) rfl), in_X12, by decide, by decide, by decide +kernel⟩
def mX12_share : MD := (yX12_share, cX12_share, 6, (some .int), 2, 44)
theorem okX12_share : MokV mX12_share 5 := ⟨(gd_mem (List.mem_of_getElem? (i := 989) (by decide +kernel)) rfl), (gd_mem (List.mem_of_getElem? (i := 987) (by decide +kernel)) rfl), (gd_mem (List.mem_of_getElem? (i := 988) (by decide +kernel)) rfl), in_X12, by decide, by decide, by decide +kernel⟩
def mX12_turn : MD := (yX12_turn, cX12_turn, 2, (some .int), 1, 22)
theorem okX12_turn : MokV mX12_turn 1 := ⟨(gd_mem (List.mem_of_getElem? (i := 993) (by decide +kernel)) rfl), (gd_mem (List.mem_of_getElem? (i := 991) (by decide +kernel)) rfl), (gd_mem (List.mem_of_getElem? (i := 992) (by decide +kernel)) rfl), in_X12, by decide, by decide, by decide +kernel⟩
def mX12_at : MD := (yX12_at, cX12_at, 3, (some .int), 0, 0)
theorem okX12_at : MokV mX12_at 2 := ⟨(gd_mem (List.mem_of_getElem? (i := 1009) (by decide +kernel)) rfl), (gd_mem (List.mem_of_getElem? (i := 1008) (by decide +kernel)) rfl), (gd_mem (List.mem_of_getElem? (i := 28) (by decide +kernel)) rfl), in_X12, by decide, by decide, by decide +kernel⟩
def mX12_set : MD := (yX12_set, cX12_set, 4, none, 0, 0)
theorem okX12_set : MokV mX12_set 3 := ⟨(gd_mem (List.mem_of_getElem? (i := 1013) (by decide +kernel)) rfl), (gd_mem (List.mem_of_getElem? (i := 1012) (by decide +kernel)) rfl), (gd_mem (List.mem_of_getElem? (i := 29) (by decide +kernel)) rfl), in_X12, by decide, by decide, by decide +kernel⟩
def mX12_more : MD := (yX12_more, cX12_more, 3, none, 0, 0)
theorem okX12_more : MokV mX12_more 2 := ⟨(gd_mem (List.mem_of_getElem? (i := 1017) (by decide +kernel)) rfl), (gd_mem (List.mem_of_getElem? (i := 1016) (by decide +kernel)) rfl), (gd_mem (List.mem_of_getElem? (i := 30) (by decide +kernel)) rfl), in_X12, by decide, by decide, by decide +kernel⟩
def mX12_failed : MD := (yX12_failed, cX12_failed, 3, (some .int), 1, 23)
theorem okX12_failed : MokV mX12_failed 2 := ⟨(gd_mem (List.mem_of_getElem? (i := 1033) (by decide +kernel)) rfl), (gd_mem (List.mem_of_getElem? (i := 1032) (by decide +kernel)) rfl), (gd_mem (List.mem_of_getElem? (i := 34) (by decide +kernel)) rfl), in_X12, by decide, by decide, by decide +kernel⟩
def mX12_worth : MD := (yX12_worth, cX12_worth, 2, (some .long), 0, 0)
theorem okX12_worth : MokS mX12_worth 1 := ⟨(gd_mem (List.mem_of_getElem? (i := 1044) (by decide +kernel)) rfl), (gd_mem (List.mem_of_getElem? (i := 1043) (by decide +kernel)) rfl), in_X12, by decide, by decide, by decide +kernel⟩
def mX12_step : MD := (yX12_step, cX12_step, 4, (some .int), 4, 92)
theorem okX12_step : MokV mX12_step 1 := ⟨(gd_mem (List.mem_of_getElem? (i := 1025) (by decide +kernel)) rfl), (gd_mem (List.mem_of_getElem? (i := 1024) (by decide +kernel)) rfl), (gd_mem (List.mem_of_getElem? (i := 32) (by decide +kernel)) rfl), in_X12, by decide, by decide, by decide +kernel⟩
def mX12_plain : MD := (yX12_plain, cX12_plain, 6, (some .int), 2, 45)
theorem okX12_plain : MokV mX12_plain 1 := ⟨(gd_mem (List.mem_of_getElem? (i := 1029) (by decide +kernel)) rfl), (gd_mem (List.mem_of_getElem? (i := 1028) (by decide +kernel)) rfl), (gd_mem (List.mem_of_getElem? (i := 33) (by decide +kernel)) rfl), in_X12, by decide, by decide, by decide +kernel⟩
def mX12_read : MD := (yX12_read, cX12_read, 4, (some .int), 2, 45)
theorem okX12_read : MokV mX12_read 1 := ⟨(gd_mem (List.mem_of_getElem? (i := 1057) (by decide +kernel)) rfl), (gd_mem (List.mem_of_getElem? (i := 1056) (by decide +kernel)) rfl), (gd_mem (List.mem_of_getElem? (i := 39) (by decide +kernel)) rfl), in_X12, by decide, by decide, by decide +kernel⟩
def mX12_lineFault : MD := (yX12_lineFault, cX12_lineFault, 4, (some .int), 2, 44)
theorem okX12_lineFault : MokV mX12_lineFault 2 := ⟨(gd_mem (List.mem_of_getElem? (i := 1041) (by decide +kernel)) rfl), (gd_mem (List.mem_of_getElem? (i := 1040) (by decide +kernel)) rfl), (gd_mem (List.mem_of_getElem? (i := 36) (by decide +kernel)) rfl), in_X12, by decide, by decide, by decide +kernel⟩
def mX12_finds : MD := (yX12_finds, cX12_finds, 6, none, 0, 0)
theorem okX12_finds : MokV mX12_finds 3 := ⟨(gd_mem (List.mem_of_getElem? (i := 1053) (by decide +kernel)) rfl), (gd_mem (List.mem_of_getElem? (i := 1052) (by decide +kernel)) rfl), (gd_mem (List.mem_of_getElem? (i := 38) (by decide +kernel)) rfl), in_X12, by decide, by decide, by decide +kernel⟩
def mX12_goes : MD := (yX12_goes, cX12_goes, 7, (some .int), 1, 25)
theorem okX12_goes : MokV mX12_goes 3 := ⟨(gd_mem (List.mem_of_getElem? (i := 1049) (by decide +kernel)) rfl), (gd_mem (List.mem_of_getElem? (i := 1048) (by decide +kernel)) rfl), (gd_mem (List.mem_of_getElem? (i := 37) (by decide +kernel)) rfl), in_X12, by decide, by decide, by decide +kernel⟩
def mX12_shared : MD := (yX12_shared, cX12_shared, 6, (some .int), 3, 67)
theorem okX12_shared : MokV mX12_shared 1 := ⟨(gd_mem (List.mem_of_getElem? (i := 1037) (by decide +kernel)) rfl), (gd_mem (List.mem_of_getElem? (i := 1036) (by decide +kernel)) rfl), (gd_mem (List.mem_of_getElem? (i := 35) (by decide +kernel)) rfl), in_X12, by decide, by decide, by decide +kernel⟩
def mX12_notes : MD := (yX12_notes, cX12_notes, 2, none, 0, 0)
theorem okX12_notes : MokV mX12_notes 1 := ⟨(gd_mem (List.mem_of_getElem? (i := 1021) (by decide +kernel)) rfl), (gd_mem (List.mem_of_getElem? (i := 1020) (by decide +kernel)) rfl), (gd_mem (List.mem_of_getElem? (i := 31) (by decide +kernel)) rfl), in_X12, by decide, by decide, by decide +kernel⟩
def mX12_ends : MD := (yX12_ends, cX12_ends, 4, none, 1, 23)
theorem okX12_ends : MokV mX12_ends 3 := ⟨(gd_mem (List.mem_of_getElem? (i := 1061) (by decide +kernel)) rfl), (gd_mem (List.mem_of_getElem? (i := 1060) (by decide +kernel)) rfl), (gd_mem (List.mem_of_getElem? (i := 40) (by decide +kernel)) rfl), in_X12, by decide, by decide, by decide +kernel⟩
def mX12_falls : MD := (yX12_falls, cX12_falls, 3, none, 1, 23)
theorem okX12_falls : MokV mX12_falls 2 := ⟨(gd_mem (List.mem_of_getElem? (i := 1069) (by decide +kernel)) rfl), (gd_mem (List.mem_of_getElem? (i := 1068) (by decide +kernel)) rfl), (gd_mem (List.mem_of_getElem? (i := 42) (by decide +kernel)) rfl), in_X12, by decide, by decide, by decide +kernel⟩
def mX12_takes : MD := (yX12_takes, cX12_takes, 3, none, 1, 23)
theorem okX12_takes : MokV mX12_takes 1 := ⟨(gd_mem (List.mem_of_getElem? (i := 1005) (by decide +kernel)) rfl), (gd_mem (List.mem_of_getElem? (i := 1004) (by decide +kernel)) rfl), (gd_mem (List.mem_of_getElem? (i := 27) (by decide +kernel)) rfl), in_X12, by decide, by decide, by decide +kernel⟩
def mX12_looks : MD := (yX12_looks, cX12_looks, 3, none, 2, 45)
theorem okX12_looks : MokV mX12_looks 0 := ⟨(gd_mem (List.mem_of_getElem? (i := 1065) (by decide +kernel)) rfl), (gd_mem (List.mem_of_getElem? (i := 1064) (by decide +kernel)) rfl), (gd_mem (List.mem_of_getElem? (i := 41) (by decide +kernel)) rfl), in_X12, by decide, by decide, by decide +kernel⟩
def mX12_turns : MD := (yX12_turns, cX12_turns, 4, none, 5, 115)
theorem okX12_turns : MokV mX12_turns 1 := ⟨(gd_mem (List.mem_of_getElem? (i := 1001) (by decide +kernel)) rfl), (gd_mem (List.mem_of_getElem? (i := 1000) (by decide +kernel)) rfl), (gd_mem (List.mem_of_getElem? (i := 26) (by decide +kernel)) rfl), in_X12, by decide, by decide, by decide +kernel⟩
def mX12_again : MD := (yX12_again, cX12_again, 3, none, 4, 92)
theorem okX12_again : MokV mX12_again 0 := ⟨(gd_mem (List.mem_of_getElem? (i := 1073) (by decide +kernel)) rfl), (gd_mem (List.mem_of_getElem? (i := 1072) (by decide +kernel)) rfl), (gd_mem (List.mem_of_getElem? (i := 43) (by decide +kernel)) rfl), in_X12, by decide, by decide, by decide +kernel⟩
def mX12_isLost : MD := (yX12_isLost, cX12_isLost, 6, (some .boolean), 3, 67)
theorem okX12_isLost : MokV mX12_isLost 2 := ⟨(gd_mem (List.mem_of_getElem? (i := 1077) (by decide +kernel)) rfl), (gd_mem (List.mem_of_getElem? (i := 1076) (by decide +kernel)) rfl), (gd_mem (List.mem_of_getElem? (i := 44) (by decide +kernel)) rfl), in_X12, by decide, by decide, by decide +kernel⟩
def mX12_run : MD := (yX12_run, cX12_run, 4, (some .int), 6, 138)
theorem okX12_run : MokV mX12_run 1 := ⟨(gd_mem (List.mem_of_getElem? (i := 997) (by decide +kernel)) rfl), (gd_mem (List.mem_of_getElem? (i := 995) (by decide +kernel)) rfl), (gd_mem (List.mem_of_getElem? (i := 996) (by decide +kernel)) rfl), in_X12, by decide, by decide, by decide +kernel⟩
def mX12_interrupt : MD := (yX12_interrupt, cX12_interrupt, 2, (some .int), 3, 67)
theorem okX12_interrupt : MokV mX12_interrupt 1 := ⟨(gd_mem (List.mem_of_getElem? (i := 1081) (by decide +kernel)) rfl), (gd_mem (List.mem_of_getElem? (i := 1079) (by decide +kernel)) rfl), (gd_mem (List.mem_of_getElem? (i := 1080) (by decide +kernel)) rfl), in_X12, by decide, by decide, by decide +kernel⟩
def mX12_close : MD := (yX12_close, cX12_close, 3, (some .int), 2, 46)
theorem okX12_close : MokV mX12_close 0 := ⟨(gd_mem (List.mem_of_getElem? (i := 1089) (by decide +kernel)) rfl), (gd_mem (List.mem_of_getElem? (i := 1087) (by decide +kernel)) rfl), (gd_mem (List.mem_of_getElem? (i := 1088) (by decide +kernel)) rfl), in_X12, by decide, by decide, by decide +kernel⟩
def mX12_anew : MD := (yX12_anew, cX12_anew, 1, (some .int), 1, 21)
theorem okX12_anew : MokV mX12_anew 0 := ⟨(gd_mem (List.mem_of_getElem? (i := 1093) (by decide +kernel)) rfl), (gd_mem (List.mem_of_getElem? (i := 1091) (by decide +kernel)) rfl), (gd_mem (List.mem_of_getElem? (i := 1092) (by decide +kernel)) rfl), in_X12, by decide, by decide, by decide +kernel⟩
def mX12_taken : MD := (yX12_taken, cX12_taken, 1, (some .int), 0, 0)
theorem okX12_taken : MokV mX12_taken 0 := ⟨(gd_mem (List.mem_of_getElem? (i := 1097) (by decide +kernel)) rfl), (gd_mem (List.mem_of_getElem? (i := 1095) (by decide +kernel)) rfl), (gd_mem (List.mem_of_getElem? (i := 1096) (by decide +kernel)) rfl), in_X12, by decide, by decide, by decide +kernel⟩
def mX12_answerOf : MD := (yX12_answerOf, cX12_answerOf, 2, (some .long), 0, 0)
theorem okX12_answerOf : MokV mX12_answerOf 1 := ⟨(gd_mem (List.mem_of_getElem? (i := 1105) (by decide +kernel)) rfl), (gd_mem (List.mem_of_getElem? (i := 1104) (by decide +kernel)) rfl), (gd_mem (List.mem_of_getElem? (i := 46) (by decide +kernel)) rfl), in_X12, by decide, by decide, by decide +kernel⟩
def mX12_answer : MD := (yX12_answer, cX12_answer, 2, (some .long), 2, 43)
theorem okX12_answer : MokV mX12_answer 1 := ⟨(gd_mem (List.mem_of_getElem? (i := 1101) (by decide +kernel)) rfl), (gd_mem (List.mem_of_getElem? (i := 1099) (by decide +kernel)) rfl), (gd_mem (List.mem_of_getElem? (i := 1100) (by decide +kernel)) rfl), in_X12, by decide, by decide, by decide +kernel⟩
def mX12_told : MD := (yX12_told, cX12_told, 3, (some .int), 2, 43)
theorem okX12_told : MokV mX12_told 2 := ⟨(gd_mem (List.mem_of_getElem? (i := 1109) (by decide +kernel)) rfl), (gd_mem (List.mem_of_getElem? (i := 1107) (by decide +kernel)) rfl), (gd_mem (List.mem_of_getElem? (i := 1108) (by decide +kernel)) rfl), in_X12, by decide, by decide, by decide +kernel⟩
def mX12_best : MD := (yX12_best, cX12_best, 5, (some .long), 1, 22)
theorem okX12_best : MokV mX12_best 2 := ⟨(gd_mem (List.mem_of_getElem? (i := 1113) (by decide +kernel)) rfl), (gd_mem (List.mem_of_getElem? (i := 1111) (by decide +kernel)) rfl), (gd_mem (List.mem_of_getElem? (i := 1112) (by decide +kernel)) rfl), in_X12, by decide, by decide, by decide +kernel⟩
def mX12_note : MD := (yX12_note, cX12_note, 2, (some .int), 1, 22)
theorem okX12_note : MokV mX12_note 1 := ⟨(gd_mem (List.mem_of_getElem? (i := 1118) (by decide +kernel)) rfl), (gd_mem (List.mem_of_getElem? (i := 1116) (by decide +kernel)) rfl), (gd_mem (List.mem_of_getElem? (i := 1117) (by decide +kernel)) rfl), in_X12, by decide, by decide, by decide +kernel⟩
def mX12_finished : MD := (yX12_finished, cX12_finished, 2, (some .int), 1, 22)
theorem okX12_finished : MokV mX12_finished 1 := ⟨(gd_mem (List.mem_of_getElem? (i := 1122) (by decide +kernel)) rfl), (gd_mem (List.mem_of_getElem? (i := 1120) (by decide +kernel)) rfl), (gd_mem (List.mem_of_getElem? (i := 1121) (by decide +kernel)) rfl), in_X12, by decide, by decide, by decide +kernel⟩
def mX12_count : MD := (yX12_count, cX12_count, 2, (some .int), 0, 0)
theorem okX12_count : MokV mX12_count 1 := ⟨(gd_mem (List.mem_of_getElem? (i := 1126) (by decide +kernel)) rfl), (gd_mem (List.mem_of_getElem? (i := 1124) (by decide +kernel)) rfl), (gd_mem (List.mem_of_getElem? (i := 1125) (by decide +kernel)) rfl), in_X12, by decide, by decide, by decide +kernel⟩
def mX12_keep : MD := (yX12_keep, cX12_keep, 2, none, 0, 0)
theorem okX12_keep : MokV mX12_keep 0 := ⟨(gd_mem (List.mem_of_getElem? (i := 1134) (by decide +kernel)) rfl), (gd_mem (List.mem_of_getElem? (i := 1133) (by decide +kernel)) rfl), (gd_mem (List.mem_of_getElem? (i := 47) (by decide +kernel)) rfl), in_X12, by decide, by decide, by decide +kernel⟩
def mX12_bring : MD := (yX12_bring, cX12_bring, 2, none, 0, 0)
theorem okX12_bring : MokV mX12_bring 0 := ⟨(gd_mem (List.mem_of_getElem? (i := 1146) (by decide +kernel)) rfl), (gd_mem (List.mem_of_getElem? (i := 1145) (by decide +kernel)) rfl), (gd_mem (List.mem_of_getElem? (i := 50) (by decide +kernel)) rfl), in_X12, by decide, by decide, by decide +kernel⟩
def mX12_through : MD := (yX12_through, cX12_through, 2, none, 6, 138)
theorem okX12_through : MokV mX12_through 1 := ⟨(gd_mem (List.mem_of_getElem? (i := 1138) (by decide +kernel)) rfl), (gd_mem (List.mem_of_getElem? (i := 1137) (by decide +kernel)) rfl), (gd_mem (List.mem_of_getElem? (i := 48) (by decide +kernel)) rfl), in_X12, by decide, by decide, by decide +kernel⟩
def mX12_equal : MD := (yX12_equal, cX12_equal, 3, (some .int), 7, 159)
theorem okX12_equal : MokV mX12_equal 1 := ⟨(gd_mem (List.mem_of_getElem? (i := 1130) (by decide +kernel)) rfl), (gd_mem (List.mem_of_getElem? (i := 1128) (by decide +kernel)) rfl), (gd_mem (List.mem_of_getElem? (i := 1129) (by decide +kernel)) rfl), in_X12, by decide, by decide, by decide +kernel⟩
def mX12_isLikeFirst : MD := (yX12_isLikeFirst, cX12_isLikeFirst, 7, (some .boolean), 1, 22)
theorem okX12_isLikeFirst : MokV mX12_isLikeFirst 0 := ⟨(gd_mem (List.mem_of_getElem? (i := 1142) (by decide +kernel)) rfl), (gd_mem (List.mem_of_getElem? (i := 1141) (by decide +kernel)) rfl), (gd_mem (List.mem_of_getElem? (i := 49) (by decide +kernel)) rfl), in_X12, by decide, by decide, by decide +kernel⟩
def mL_cell : MD := (yL_cell, cL_cell, 2, (some .int), 0, 0)
theorem okL_cell : MokS mL_cell 2 := ⟨(gd_mem (List.mem_of_getElem? (i := 794) (by decide +kernel)) rfl), (gd_mem (List.mem_of_getElem? (i := 793) (by decide +kernel)) rfl), in_L, by decide, by decide, by decide +kernel⟩
