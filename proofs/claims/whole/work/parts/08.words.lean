theorem cl_D : jx_cl 0 "StationLine$Datagram" := ⟨by decide, _, _, rfl⟩
theorem cl_F : jx_cl 1 "StationLine$Frame" := ⟨by decide, _, _, rfl⟩
theorem cl_I : jx_cl 2 "StationLine$Image" := ⟨by decide, _, _, rfl⟩
theorem cl_N : jx_cl 3 "StationLine$Line" := ⟨by decide, _, _, rfl⟩
theorem cl_B : jx_cl 4 "StationLine$MappedBits" := ⟨by decide, _, _, rfl⟩
theorem cl_E : jx_cl 5 "StationLine$Memory" := ⟨by decide, _, _, rfl⟩
theorem cl_S : jx_cl 6 "StationLine$Station" := ⟨by decide, _, _, rfl⟩
theorem cl_L : jx_cl 7 "StationLine" := ⟨by decide, _, _, rfl⟩
theorem cl_R : jx_cl 8 "StationLineModel" := ⟨by decide, _, _, rfl⟩
theorem fl_B_21 : jx_FL "StationLine$MappedBits" 21 0 3 := ⟨_, _, _, rfl, by decide, by decide, in_D, Or.inl w_195⟩
theorem fl_B_27 : jx_FL "StationLine$MappedBits" 27 4 0 := ⟨_, _, _, rfl, by decide, by decide, in_B, Or.inl w_197⟩
theorem fl_B_32 : jx_FL "StationLine$MappedBits" 32 4 1 := ⟨_, _, _, rfl, by decide, by decide, in_B, Or.inl w_191⟩
theorem fl_B_35 : jx_FL "StationLine$MappedBits" 35 4 2 := ⟨_, _, _, rfl, by decide, by decide, in_B, Or.inl w_192⟩
theorem fl_B_9 : jx_FL "StationLine$MappedBits" 9 0 1 := ⟨_, _, _, rfl, by decide, by decide, in_D, Or.inl w_193⟩
theorem fl_E_17 : jx_FL "StationLine$Memory" 17 5 1 := ⟨_, _, _, rfl, by decide, by decide, in_E, Or.inl w_47⟩
theorem fl_E_20 : jx_FL "StationLine$Memory" 20 5 2 := ⟨_, _, _, rfl, by decide, by decide, in_E, Or.inl w_48⟩
theorem fl_E_23 : jx_FL "StationLine$Memory" 23 5 3 := ⟨_, _, _, rfl, by decide, by decide, in_E, Or.inl w_49⟩
theorem fl_E_27 : jx_FL "StationLine$Memory" 27 5 4 := ⟨_, _, _, rfl, by decide, by decide, in_E, Or.inl w_50⟩
theorem fl_E_30 : jx_FL "StationLine$Memory" 30 5 5 := ⟨_, _, _, rfl, by decide, by decide, in_E, Or.inl w_51⟩
theorem fl_E_33 : jx_FL "StationLine$Memory" 33 5 6 := ⟨_, _, _, rfl, by decide, by decide, in_E, Or.inl w_52⟩
theorem fl_E_9 : jx_FL "StationLine$Memory" 9 5 0 := ⟨_, _, _, rfl, by decide, by decide, in_E, Or.inl w_45⟩
theorem fl_F_11 : jx_FL "StationLine$Frame" 11 1 0 := ⟨_, _, _, rfl, by decide, by decide, in_F, Or.inl w_6⟩
theorem fl_F_18 : jx_FL "StationLine$Frame" 18 1 1 := ⟨_, _, _, rfl, by decide, by decide, in_F, Or.inl w_81⟩
theorem fl_F_31 : jx_FL "StationLine$Frame" 31 0 3 := ⟨_, _, _, rfl, by decide, by decide, in_D, Or.inl w_85⟩
theorem fl_F_34 : jx_FL "StationLine$Frame" 34 0 4 := ⟨_, _, _, rfl, by decide, by decide, in_D, Or.inl w_86⟩
theorem fl_F_37 : jx_FL "StationLine$Frame" 37 0 5 := ⟨_, _, _, rfl, by decide, by decide, in_D, Or.inl w_87⟩
theorem fl_I_15 : jx_FL "StationLine$Image" 15 2 1 := ⟨_, _, _, rfl, by decide, by decide, in_I, Or.inl w_13⟩
theorem fl_I_18 : jx_FL "StationLine$Image" 18 2 2 := ⟨_, _, _, rfl, by decide, by decide, in_I, Or.inl w_14⟩
theorem fl_I_21 : jx_FL "StationLine$Image" 21 2 3 := ⟨_, _, _, rfl, by decide, by decide, in_I, Or.inl w_15⟩
theorem fl_I_24 : jx_FL "StationLine$Image" 24 2 4 := ⟨_, _, _, rfl, by decide, by decide, in_I, Or.inl w_16⟩
theorem fl_I_27 : jx_FL "StationLine$Image" 27 2 5 := ⟨_, _, _, rfl, by decide, by decide, in_I, Or.inl w_330⟩
theorem fl_I_31 : jx_FL "StationLine$Image" 31 2 6 := ⟨_, _, _, rfl, by decide, by decide, in_I, Or.inl w_331⟩
theorem fl_I_40 : jx_FL "StationLine$Image" 40 6 0 := ⟨_, _, _, rfl, by decide, by decide, in_S, Or.inl w_351⟩
theorem fl_I_45 : jx_FL "StationLine$Image" 45 6 1 := ⟨_, _, _, rfl, by decide, by decide, in_S, Or.inl w_352⟩
theorem fl_I_9 : jx_FL "StationLine$Image" 9 2 0 := ⟨_, _, _, rfl, by decide, by decide, in_I, Or.inl w_12⟩
theorem fl_L_102 : jx_FL "StationLine" 102 6 1 := ⟨_, _, _, rfl, by decide, by decide, in_S, Or.inl w_324⟩
theorem fl_L_105 : jx_FL "StationLine" 105 6 2 := ⟨_, _, _, rfl, by decide, by decide, in_S, Or.inl w_325⟩
theorem fl_L_108 : jx_FL "StationLine" 108 6 0 := ⟨_, _, _, rfl, by decide, by decide, in_S, Or.inl w_326⟩
theorem fl_L_111 : jx_FL "StationLine" 111 6 3 := ⟨_, _, _, rfl, by decide, by decide, in_S, Or.inl w_327⟩
theorem fl_L_114 : jx_FL "StationLine" 114 6 4 := ⟨_, _, _, rfl, by decide, by decide, in_S, Or.inl w_328⟩
theorem fl_L_118 : jx_FL "StationLine" 118 5 0 := ⟨_, _, _, rfl, by decide, by decide, in_E, Or.inl w_329⟩
theorem fl_L_12 : jx_FL "StationLine" 12 7 0 := ⟨_, _, _, rfl, by decide, by decide, in_L, Or.inl w_28⟩
theorem fl_L_124 : jx_FL "StationLine" 124 7 5 := ⟨_, _, _, rfl, by decide, by decide, in_L, Or.inl w_337⟩
theorem fl_L_145 : jx_FL "StationLine" 145 2 6 := ⟨_, _, _, rfl, by decide, by decide, in_I, Or.inl w_369⟩
theorem fl_L_146 : jx_FL "StationLine" 146 2 0 := ⟨_, _, _, rfl, by decide, by decide, in_I, Or.inl w_370⟩
theorem fl_L_165 : jx_FL "StationLine" 165 2 1 := ⟨_, _, _, rfl, by decide, by decide, in_I, Or.inl w_382⟩
theorem fl_L_168 : jx_FL "StationLine" 168 0 3 := ⟨_, _, _, rfl, by decide, by decide, in_D, Or.inl w_383⟩
theorem fl_L_179 : jx_FL "StationLine" 179 2 2 := ⟨_, _, _, rfl, by decide, by decide, in_I, Or.inl w_346⟩
theorem fl_L_185 : jx_FL "StationLine" 185 2 3 := ⟨_, _, _, rfl, by decide, by decide, in_I, Or.inl w_350⟩
theorem fl_L_19 : jx_FL "StationLine" 19 7 1 := ⟨_, _, _, rfl, by decide, by decide, in_L, Or.inl w_34⟩
theorem fl_L_26 : jx_FL "StationLine" 26 7 2 := ⟨_, _, _, rfl, by decide, by decide, in_L, Or.inl w_41⟩
theorem fl_L_30 : jx_FL "StationLine" 30 7 3 := ⟨_, _, _, rfl, by decide, by decide, in_L, Or.inl w_42⟩
theorem fl_L_33 : jx_FL "StationLine" 33 3 2 := ⟨_, _, _, rfl, by decide, by decide, in_N, Or.inl w_73⟩
theorem fl_L_37 : jx_FL "StationLine" 37 3 0 := ⟨_, _, _, rfl, by decide, by decide, in_N, Or.inl w_74⟩
theorem fl_L_46 : jx_FL "StationLine" 46 1 1 := ⟨_, _, _, rfl, by decide, by decide, in_F, Or.inl w_92⟩
theorem fl_L_62 : jx_FL "StationLine" 62 1 0 := ⟨_, _, _, rfl, by decide, by decide, in_F, Or.inl w_110⟩
theorem fl_L_66 : jx_FL "StationLine" 66 0 5 := ⟨_, _, _, rfl, by decide, by decide, in_D, Or.inl w_111⟩
theorem fl_L_76 : jx_FL "StationLine" 76 7 4 := ⟨_, _, _, rfl, by decide, by decide, in_L, Or.inl w_246⟩
theorem fl_L_83 : jx_FL "StationLine" 83 0 4 := ⟨_, _, _, rfl, by decide, by decide, in_D, Or.inl w_248⟩
theorem fl_L_86 : jx_FL "StationLine" 86 0 1 := ⟨_, _, _, rfl, by decide, by decide, in_D, Or.inl w_249⟩
theorem fl_L_92 : jx_FL "StationLine" 92 3 1 := ⟨_, _, _, rfl, by decide, by decide, in_N, Or.inl w_254⟩
theorem fl_N_11 : jx_FL "StationLine$Line" 11 3 0 := ⟨_, _, _, rfl, by decide, by decide, in_N, Or.inl w_19⟩
theorem fl_N_17 : jx_FL "StationLine$Line" 17 3 1 := ⟨_, _, _, rfl, by decide, by decide, in_N, Or.inl w_20⟩
theorem fl_N_21 : jx_FL "StationLine$Line" 21 3 3 := ⟨_, _, _, rfl, by decide, by decide, in_N, Or.inl w_21⟩
theorem fl_N_25 : jx_FL "StationLine$Line" 25 3 2 := ⟨_, _, _, rfl, by decide, by decide, in_N, Or.inl w_112⟩
theorem fl_N_32 : jx_FL "StationLine$Line" 32 1 1 := ⟨_, _, _, rfl, by decide, by decide, in_F, Or.inl w_236⟩
theorem fl_N_37 : jx_FL "StationLine$Line" 37 1 0 := ⟨_, _, _, rfl, by decide, by decide, in_F, Or.inl w_237⟩
theorem fl_R_102 : jx_FL "StationLineModel" 102 8 39 := ⟨_, _, _, rfl, by decide, by decide, in_R, Or.inl w_416⟩
theorem fl_R_105 : jx_FL "StationLineModel" 105 8 40 := ⟨_, _, _, rfl, by decide, by decide, in_R, Or.inl w_417⟩
theorem fl_R_108 : jx_FL "StationLineModel" 108 8 0 := ⟨_, _, _, rfl, by decide, by decide, in_R, Or.inl w_418⟩
theorem fl_R_13 : jx_FL "StationLineModel" 13 8 2 := ⟨_, _, _, rfl, by decide, by decide, in_R, Or.inl w_387⟩
theorem fl_R_16 : jx_FL "StationLineModel" 16 8 3 := ⟨_, _, _, rfl, by decide, by decide, in_R, Or.inl w_388⟩
theorem fl_R_168 : jx_FL "StationLineModel" 168 8 30 := ⟨_, _, _, rfl, by decide, by decide, in_R, Or.inl w_484⟩
theorem fl_R_172 : jx_FL "StationLineModel" 172 8 31 := ⟨_, _, _, rfl, by decide, by decide, in_R, Or.inl w_485⟩
theorem fl_R_185 : jx_FL "StationLineModel" 185 8 19 := ⟨_, _, _, rfl, by decide, by decide, in_R, Or.inl w_503⟩
theorem fl_R_191 : jx_FL "StationLineModel" 191 8 20 := ⟨_, _, _, rfl, by decide, by decide, in_R, Or.inl w_508⟩
theorem fl_R_197 : jx_FL "StationLineModel" 197 8 18 := ⟨_, _, _, rfl, by decide, by decide, in_R, Or.inl w_534⟩
theorem fl_R_20 : jx_FL "StationLineModel" 20 8 4 := ⟨_, _, _, rfl, by decide, by decide, in_R, Or.inl w_389⟩
theorem fl_R_23 : jx_FL "StationLineModel" 23 8 5 := ⟨_, _, _, rfl, by decide, by decide, in_R, Or.inl w_390⟩
theorem fl_R_241 : jx_FL "StationLineModel" 241 8 32 := ⟨_, _, _, rfl, by decide, by decide, in_R, Or.inl w_539⟩
theorem fl_R_244 : jx_FL "StationLineModel" 244 8 33 := ⟨_, _, _, rfl, by decide, by decide, in_R, Or.inl w_525⟩
theorem fl_R_247 : jx_FL "StationLineModel" 247 8 34 := ⟨_, _, _, rfl, by decide, by decide, in_R, Or.inl w_529⟩
theorem fl_R_26 : jx_FL "StationLineModel" 26 8 6 := ⟨_, _, _, rfl, by decide, by decide, in_R, Or.inl w_391⟩
theorem fl_R_29 : jx_FL "StationLineModel" 29 8 7 := ⟨_, _, _, rfl, by decide, by decide, in_R, Or.inl w_392⟩
theorem fl_R_32 : jx_FL "StationLineModel" 32 8 8 := ⟨_, _, _, rfl, by decide, by decide, in_R, Or.inl w_393⟩
theorem fl_R_35 : jx_FL "StationLineModel" 35 8 9 := ⟨_, _, _, rfl, by decide, by decide, in_R, Or.inl w_394⟩
theorem fl_R_38 : jx_FL "StationLineModel" 38 8 10 := ⟨_, _, _, rfl, by decide, by decide, in_R, Or.inl w_395⟩
theorem fl_R_41 : jx_FL "StationLineModel" 41 8 11 := ⟨_, _, _, rfl, by decide, by decide, in_R, Or.inl w_396⟩
theorem fl_R_44 : jx_FL "StationLineModel" 44 8 12 := ⟨_, _, _, rfl, by decide, by decide, in_R, Or.inl w_397⟩
theorem fl_R_47 : jx_FL "StationLineModel" 47 8 13 := ⟨_, _, _, rfl, by decide, by decide, in_R, Or.inl w_398⟩
theorem fl_R_50 : jx_FL "StationLineModel" 50 8 14 := ⟨_, _, _, rfl, by decide, by decide, in_R, Or.inl w_399⟩
theorem fl_R_53 : jx_FL "StationLineModel" 53 8 15 := ⟨_, _, _, rfl, by decide, by decide, in_R, Or.inl w_400⟩
theorem fl_R_56 : jx_FL "StationLineModel" 56 8 16 := ⟨_, _, _, rfl, by decide, by decide, in_R, Or.inl w_401⟩
theorem fl_R_59 : jx_FL "StationLineModel" 59 8 17 := ⟨_, _, _, rfl, by decide, by decide, in_R, Or.inl w_402⟩
theorem fl_R_62 : jx_FL "StationLineModel" 62 8 21 := ⟨_, _, _, rfl, by decide, by decide, in_R, Or.inl w_403⟩
theorem fl_R_66 : jx_FL "StationLineModel" 66 8 22 := ⟨_, _, _, rfl, by decide, by decide, in_R, Or.inl w_404⟩
theorem fl_R_69 : jx_FL "StationLineModel" 69 8 23 := ⟨_, _, _, rfl, by decide, by decide, in_R, Or.inl w_405⟩
theorem fl_R_7 : jx_FL "StationLineModel" 7 8 1 := ⟨_, _, _, rfl, by decide, by decide, in_R, Or.inl w_386⟩
theorem fl_R_72 : jx_FL "StationLineModel" 72 8 24 := ⟨_, _, _, rfl, by decide, by decide, in_R, Or.inl w_406⟩
theorem fl_R_75 : jx_FL "StationLineModel" 75 8 25 := ⟨_, _, _, rfl, by decide, by decide, in_R, Or.inl w_407⟩
theorem fl_R_78 : jx_FL "StationLineModel" 78 8 26 := ⟨_, _, _, rfl, by decide, by decide, in_R, Or.inl w_408⟩
theorem fl_R_81 : jx_FL "StationLineModel" 81 8 27 := ⟨_, _, _, rfl, by decide, by decide, in_R, Or.inl w_409⟩
theorem fl_R_84 : jx_FL "StationLineModel" 84 8 28 := ⟨_, _, _, rfl, by decide, by decide, in_R, Or.inl w_410⟩
theorem fl_R_87 : jx_FL "StationLineModel" 87 8 29 := ⟨_, _, _, rfl, by decide, by decide, in_R, Or.inl w_411⟩
theorem fl_R_90 : jx_FL "StationLineModel" 90 8 35 := ⟨_, _, _, rfl, by decide, by decide, in_R, Or.inl w_412⟩
theorem fl_R_93 : jx_FL "StationLineModel" 93 8 36 := ⟨_, _, _, rfl, by decide, by decide, in_R, Or.inl w_413⟩
theorem fl_R_96 : jx_FL "StationLineModel" 96 8 37 := ⟨_, _, _, rfl, by decide, by decide, in_R, Or.inl w_414⟩
theorem fl_R_99 : jx_FL "StationLineModel" 99 8 38 := ⟨_, _, _, rfl, by decide, by decide, in_R, Or.inl w_415⟩
theorem fl_S_130 : jx_FL "StationLine$Station" 130 5 7 := ⟨_, _, _, rfl, by decide, by decide, in_E, Or.inl w_285⟩
theorem fl_S_146 : jx_FL "StationLine$Station" 146 5 8 := ⟨_, _, _, rfl, by decide, by decide, in_E, Or.inl w_267⟩
theorem fl_S_149 : jx_FL "StationLine$Station" 149 5 9 := ⟨_, _, _, rfl, by decide, by decide, in_E, Or.inl w_268⟩
theorem fl_S_15 : jx_FL "StationLine$Station" 15 6 3 := ⟨_, _, _, rfl, by decide, by decide, in_S, Or.inl w_55⟩
theorem fl_S_156 : jx_FL "StationLine$Station" 156 5 3 := ⟨_, _, _, rfl, by decide, by decide, in_E, Or.inl w_265⟩
theorem fl_S_171 : jx_FL "StationLine$Station" 171 5 2 := ⟨_, _, _, rfl, by decide, by decide, in_E, Or.inl w_266⟩
theorem fl_S_21 : jx_FL "StationLine$Station" 21 6 4 := ⟨_, _, _, rfl, by decide, by decide, in_S, Or.inl w_61⟩
theorem fl_S_28 : jx_FL "StationLine$Station" 28 6 5 := ⟨_, _, _, rfl, by decide, by decide, in_S, Or.inl w_67⟩
theorem fl_S_32 : jx_FL "StationLine$Station" 32 6 6 := ⟨_, _, _, rfl, by decide, by decide, in_S, Or.inl w_68⟩
theorem fl_S_35 : jx_FL "StationLine$Station" 35 6 7 := ⟨_, _, _, rfl, by decide, by decide, in_S, Or.inl w_69⟩
theorem fl_S_38 : jx_FL "StationLine$Station" 38 6 0 := ⟨_, _, _, rfl, by decide, by decide, in_S, Or.inl w_70⟩
theorem fl_S_42 : jx_FL "StationLine$Station" 42 6 1 := ⟨_, _, _, rfl, by decide, by decide, in_S, Or.inl w_71⟩
theorem fl_S_45 : jx_FL "StationLine$Station" 45 5 0 := ⟨_, _, _, rfl, by decide, by decide, in_E, Or.inl w_72⟩
theorem fl_S_48 : jx_FL "StationLine$Station" 48 0 0 := ⟨_, _, _, rfl, by decide, by decide, in_D, Or.inl w_178⟩
theorem fl_S_53 : jx_FL "StationLine$Station" 53 0 1 := ⟨_, _, _, rfl, by decide, by decide, in_D, Or.inl w_222⟩
theorem fl_S_64 : jx_FL "StationLine$Station" 64 0 2 := ⟨_, _, _, rfl, by decide, by decide, in_D, Or.inl w_176⟩
theorem fl_S_67 : jx_FL "StationLine$Station" 67 0 3 := ⟨_, _, _, rfl, by decide, by decide, in_D, Or.inl w_177⟩
theorem fl_S_70 : jx_FL "StationLine$Station" 70 5 4 := ⟨_, _, _, rfl, by decide, by decide, in_E, Or.inl w_179⟩
theorem fl_S_73 : jx_FL "StationLine$Station" 73 0 5 := ⟨_, _, _, rfl, by decide, by decide, in_D, Or.inl w_180⟩
theorem fl_S_74 : jx_FL "StationLine$Station" 74 5 5 := ⟨_, _, _, rfl, by decide, by decide, in_E, Or.inl w_181⟩
theorem fl_S_81 : jx_FL "StationLine$Station" 81 0 4 := ⟨_, _, _, rfl, by decide, by decide, in_D, Or.inl w_186⟩
theorem fl_S_9 : jx_FL "StationLine$Station" 9 6 2 := ⟨_, _, _, rfl, by decide, by decide, in_S, Or.inl w_54⟩
abbrev M_D_init : jx_M := (prog_2_method_1_code, "StationLine$Datagram", 1, 1, 12, true, 0, fun _ => 0)
abbrev M_F_init : jx_M := (prog_3_method_1_code, "StationLine$Frame", 2, 2, 32, true, 0, fun _ => 0)
abbrev M_I_init : jx_M := (prog_4_method_1_code, "StationLine$Image", 1, 1, 12, true, 0, fun _ => 0)
abbrev M_N_init : jx_M := (prog_5_method_1_code, "StationLine$Line", 1, 1, 12, true, 0, fun _ => 0)
abbrev M_L_init : jx_M := (prog_1_method_1_code, "StationLine", 1, 3, 53, true, 0, fun _ => 0)
abbrev M_B_init : jx_M := (prog_6_method_1_code, "StationLine$MappedBits", 1, 1, 12, true, 0, fun _ => 0)
abbrev M_E_init : jx_M := (prog_7_method_1_code, "StationLine$Memory", 1, 1, 12, true, 0, fun _ => 0)
abbrev M_S_init : jx_M := (prog_8_method_1_code, "StationLine$Station", 3, 2, 32, true, 0, fun _ => 0)
abbrev M_L_station : jx_M := (prog_1_method_2_code, "StationLine", 3, 3, 54, false, 0, fun _ => 0)
abbrev M_L_isCommand : jx_M := (prog_1_method_21_code, "StationLine", 1, 0, 0, false, 0, fun _ => 0)
abbrev M_A_fill : jx_M := (prog_13_method_103_code, "java/util/Arrays", 4, 0, 0, false, 0, fun _ => 0)
abbrev M_F_append : jx_M := (prog_3_method_2_code, "StationLine$Frame", 6, 1, 23, false, 0, fun _ => 0)
abbrev M_L_datagram : jx_M := (prog_1_method_3_code, "StationLine", 5, 2, 48, false, 0, fun _ => 0)
abbrev M_F_hasDatagram : jx_M := (prog_3_method_3_code, "StationLine$Frame", 2, 0, 0, false, 0, fun _ => 0)
abbrev M_F_hasByte : jx_M := (prog_3_method_5_code, "StationLine$Frame", 3, 1, 21, false, 0, fun _ => 0)
abbrev M_L_data : jx_M := (prog_1_method_4_code, "StationLine", 4, 2, 43, false, 0, fun _ => 0)
abbrev M_N_stationsBeforeBreak : jx_M := (prog_5_method_4_code, "StationLine$Line", 2, 0, 0, false, 0, fun _ => 0)
abbrev M_E_modeOf : jx_M := (prog_7_method_7_code, "StationLine$Memory", 2, 0, 0, false, 0, fun _ => 0)
abbrev M_E_startOf : jx_M := (prog_7_method_5_code, "StationLine$Memory", 2, 0, 0, false, 0, fun _ => 0)
abbrev M_E_beforeReading : jx_M := (prog_7_method_13_code, "StationLine$Memory", 3, 1, 21, false, 0, fun _ => 0)
abbrev M_E_isOpen : jx_M := (prog_7_method_2_code, "StationLine$Memory", 5, 0, 0, false, 0, fun _ => 0)
abbrev M_E_lengthOf : jx_M := (prog_7_method_6_code, "StationLine$Memory", 2, 0, 0, false, 0, fun _ => 0)
abbrev M_E_findOwners : jx_M := (prog_7_method_10_code, "StationLine$Memory", 6, 1, 24, false, 0, fun _ => 0)
abbrev M_E_heldByte : jx_M := (prog_7_method_14_code, "StationLine$Memory", 5, 1, 21, false, 0, fun _ => 0)
abbrev M_E_allows : jx_M := (prog_7_method_12_code, "StationLine$Memory", 7, 0, 0, false, 0, fun _ => 0)
abbrev M_E_isAllowed : jx_M := (prog_7_method_11_code, "StationLine$Memory", 6, 1, 26, false, 0, fun _ => 0)
abbrev M_E_readRow : jx_M := (prog_7_method_8_code, "StationLine$Memory", 5, 2, 51, false, 0, fun _ => 0)
abbrev M_E_storeInChannel : jx_M := (prog_7_method_15_code, "StationLine$Memory", 5, 1, 21, false, 0, fun _ => 0)
abbrev M_E_clearChannel : jx_M := (prog_7_method_17_code, "StationLine$Memory", 3, 0, 0, false, 0, fun _ => 0)
abbrev M_E_storePlain : jx_M := (prog_7_method_16_code, "StationLine$Memory", 3, 1, 22, false, 0, fun _ => 0)
abbrev M_E_writeRow : jx_M := (prog_7_method_9_code, "StationLine$Memory", 7, 2, 51, false, 0, fun _ => 0)
abbrev M_S_performDirect : jx_M := (prog_8_method_3_code, "StationLine$Station", 5, 3, 77, false, 0, fun _ => 0)
abbrev M_B_lastByte : jx_M := (prog_6_method_4_code, "StationLine$MappedBits", 1, 0, 0, false, 0, fun _ => 0)
abbrev M_B_find : jx_M := (prog_6_method_2_code, "StationLine$MappedBits", 10, 1, 21, false, 0, fun _ => 0)
abbrev M_B_firstByte : jx_M := (prog_6_method_3_code, "StationLine$MappedBits", 1, 0, 0, false, 0, fun _ => 0)
abbrev M_B_putIntoData : jx_M := (prog_6_method_5_code, "StationLine$MappedBits", 8, 1, 20, false, 0, fun _ => 0)
abbrev M_B_putIntoRow : jx_M := (prog_6_method_6_code, "StationLine$MappedBits", 9, 1, 23, false, 0, fun _ => 0)
abbrev M_S_performLogical : jx_M := (prog_8_method_4_code, "StationLine$Station", 8, 3, 77, false, 0, fun _ => 0)
abbrev M_S_perform : jx_M := (prog_8_method_2_code, "StationLine$Station", 2, 4, 104, false, 0, fun _ => 0)
abbrev M_N_carry : jx_M := (prog_5_method_3_code, "StationLine$Line", 8, 5, 125, false, 0, fun _ => 0)
abbrev M_L_send : jx_M := (prog_1_method_5_code, "StationLine", 2, 6, 152, false, 0, fun _ => 0)
abbrev M_L_returned : jx_M := (prog_1_method_6_code, "StationLine", 3, 2, 43, false, 0, fun _ => 0)
abbrev M_N_hasStation : jx_M := (prog_5_method_2_code, "StationLine$Line", 2, 0, 0, false, 0, fun _ => 0)
abbrev M_L_cut : jx_M := (prog_1_method_7_code, "StationLine", 3, 1, 21, false, 0, fun _ => 0)
abbrev M_L_spoil : jx_M := (prog_1_method_8_code, "StationLine", 2, 0, 0, false, 0, fun _ => 0)
abbrev M_E_isOpenAs : jx_M := (prog_7_method_3_code, "StationLine$Memory", 4, 1, 24, false, 0, fun _ => 0)
abbrev M_S_present : jx_M := (prog_8_method_6_code, "StationLine$Station", 1, 0, 0, false, 0, fun _ => 0)
abbrev M_S_moveActuators : jx_M := (prog_8_method_16_code, "StationLine$Station", 1, 2, 47, false, 0, fun _ => 0)
abbrev M_S_become : jx_M := (prog_8_method_7_code, "StationLine$Station", 3, 0, 0, false, 0, fun _ => 0)
abbrev M_S_enter : jx_M := (prog_8_method_9_code, "StationLine$Station", 2, 1, 22, false, 0, fun _ => 0)
abbrev M_S_hasMailbox : jx_M := (prog_8_method_11_code, "StationLine$Station", 1, 2, 47, false, 0, fun _ => 0)
abbrev M_E_isOn : jx_M := (prog_7_method_4_code, "StationLine$Memory", 2, 0, 0, false, 0, fun _ => 0)
abbrev M_S_isSetUp : jx_M := (prog_8_method_12_code, "StationLine$Station", 4, 2, 47, false, 0, fun _ => 0)
abbrev M_S_objection : jx_M := (prog_8_method_10_code, "StationLine$Station", 3, 3, 70, false, 0, fun _ => 0)
abbrev M_S_obeyControl : jx_M := (prog_8_method_8_code, "StationLine$Station", 4, 4, 92, false, 0, fun _ => 0)
abbrev M_L_writeMessage : jx_M := (prog_1_method_27_code, "StationLine", 5, 0, 0, false, 0, fun _ => 0)
abbrev M_S_doMessage : jx_M := (prog_8_method_14_code, "StationLine$Station", 5, 1, 24, false, 0, fun _ => 0)
abbrev M_S_replyToMessage : jx_M := (prog_8_method_13_code, "StationLine$Station", 3, 3, 67, false, 0, fun _ => 0)
abbrev M_S_takeSensors : jx_M := (prog_8_method_15_code, "StationLine$Station", 1, 2, 47, false, 0, fun _ => 0)
abbrev M_S_watch : jx_M := (prog_8_method_17_code, "StationLine$Station", 2, 1, 23, false, 0, fun _ => 0)
abbrev M_S_makeTick : jx_M := (prog_8_method_5_code, "StationLine$Station", 1, 5, 115, false, 0, fun _ => 0)
abbrev M_L_tick : jx_M := (prog_1_method_9_code, "StationLine", 2, 6, 135, false, 0, fun _ => 0)
abbrev M_L_sense : jx_M := (prog_1_method_10_code, "StationLine", 4, 1, 21, false, 0, fun _ => 0)
abbrev M_L_actuator : jx_M := (prog_1_method_11_code, "StationLine", 3, 1, 21, false, 0, fun _ => 0)
abbrev M_L_state : jx_M := (prog_1_method_12_code, "StationLine", 3, 1, 21, false, 0, fun _ => 0)
abbrev M_L_startFrame : jx_M := (prog_1_method_22_code, "StationLine", 5, 2, 48, false, 0, fun _ => 0)
abbrev M_I_forget : jx_M := (prog_4_method_2_code, "StationLine$Image", 1, 1, 23, false, 0, fun _ => 0)
abbrev M_L_scan : jx_M := (prog_1_method_13_code, "StationLine", 4, 6, 152, false, 0, fun _ => 0)
abbrev M_L_writeChannel : jx_M := (prog_1_method_25_code, "StationLine", 5, 0, 0, false, 0, fun _ => 0)
abbrev M_L_writeMap : jx_M := (prog_1_method_26_code, "StationLine", 5, 0, 0, false, 0, fun _ => 0)
abbrev M_L_startChannelsFrame : jx_M := (prog_1_method_23_code, "StationLine", 6, 3, 72, false, 0, fun _ => 0)
abbrev M_L_startInputsFrame : jx_M := (prog_1_method_24_code, "StationLine", 3, 3, 72, false, 0, fun _ => 0)
abbrev M_F_isCountedOnce : jx_M := (prog_3_method_4_code, "StationLine$Frame", 2, 0, 0, false, 0, fun _ => 0)
abbrev M_I_append : jx_M := (prog_4_method_3_code, "StationLine$Image", 2, 0, 0, false, 0, fun _ => 0)
abbrev M_L_setup : jx_M := (prog_1_method_14_code, "StationLine", 5, 6, 152, false, 0, fun _ => 0)
abbrev M_L_request : jx_M := (prog_1_method_15_code, "StationLine", 3, 6, 152, false, 0, fun _ => 0)
abbrev M_L_output : jx_M := (prog_1_method_16_code, "StationLine", 3, 0, 0, false, 0, fun _ => 0)
abbrev M_I_meet : jx_M := (prog_4_method_5_code, "StationLine$Image", 3, 1, 21, false, 0, fun _ => 0)
abbrev M_I_expected : jx_M := (prog_4_method_4_code, "StationLine$Image", 4, 2, 43, false, 0, fun _ => 0)
abbrev M_L_cycle : jx_M := (prog_1_method_17_code, "StationLine", 4, 6, 152, false, 0, fun _ => 0)
abbrev M_L_input : jx_M := (prog_1_method_18_code, "StationLine", 2, 0, 0, false, 0, fun _ => 0)
abbrev M_L_ask : jx_M := (prog_1_method_19_code, "StationLine", 6, 6, 152, false, 0, fun _ => 0)
abbrev M_L_answer : jx_M := (prog_1_method_20_code, "StationLine", 3, 6, 152, false, 0, fun _ => 0)
abbrev M_R_init : jx_M := (prog_10_method_1_code, "StationLineModel", 1, 1, 12, true, 0, fun _ => 0)
abbrev M_R_isStation : jx_M := (prog_10_method_2_code, "StationLineModel", 2, 0, 0, false, 0, fun _ => 0)
abbrev M_R_actuator : jx_M := (prog_10_method_44_code, "StationLineModel", 3, 1, 21, false, 0, fun _ => 0)
abbrev M_R_gram : jx_M := (prog_10_method_28_code, "StationLineModel", 7, 0, 0, false, 0, fun _ => 0)
abbrev M_R_copyGram : jx_M := (prog_10_method_25_code, "StationLineModel", 4, 0, 0, false, 0, fun _ => 0)
abbrev M_R_at : jx_M := (prog_10_method_4_code, "StationLineModel", 3, 0, 0, false, 0, fun _ => 0)
abbrev M_R_begin : jx_M := (prog_10_method_5_code, "StationLineModel", 3, 1, 22, false, 0, fun _ => 0)
abbrev M_R_many : jx_M := (prog_10_method_6_code, "StationLineModel", 3, 1, 22, false, 0, fun _ => 0)
abbrev M_R_open : jx_M := (prog_10_method_8_code, "StationLineModel", 4, 2, 44, false, 0, fun _ => 0)
abbrev M_R_channelOf : jx_M := (prog_10_method_10_code, "StationLineModel", 4, 3, 67, false, 0, fun _ => 0)
abbrev M_R_full : jx_M := (prog_10_method_11_code, "StationLineModel", 3, 1, 22, false, 0, fun _ => 0)
abbrev M_R_kind : jx_M := (prog_10_method_7_code, "StationLineModel", 3, 1, 22, false, 0, fun _ => 0)
abbrev M_R_lets : jx_M := (prog_10_method_14_code, "StationLineModel", 7, 2, 44, false, 0, fun _ => 0)
abbrev M_R_allowed : jx_M := (prog_10_method_15_code, "StationLineModel", 7, 4, 90, false, 0, fun _ => 0)
abbrev M_R_cell : jx_M := (prog_10_method_16_code, "StationLineModel", 4, 2, 44, false, 0, fun _ => 0)
abbrev M_R_copy : jx_M := (prog_10_method_13_code, "StationLineModel", 5, 0, 0, false, 0, fun _ => 0)
abbrev M_R_fill : jx_M := (prog_10_method_12_code, "StationLineModel", 4, 0, 0, false, 0, fun _ => 0)
abbrev M_R_reads : jx_M := (prog_10_method_17_code, "StationLineModel", 6, 5, 116, false, 0, fun _ => 0)
abbrev M_R_stays : jx_M := (prog_10_method_22_code, "StationLineModel", 4, 4, 90, false, 0, fun _ => 0)
abbrev M_R_wipe : jx_M := (prog_10_method_19_code, "StationLineModel", 4, 1, 23, false, 0, fun _ => 0)
abbrev M_R_store : jx_M := (prog_10_method_18_code, "StationLineModel", 5, 4, 90, false, 0, fun _ => 0)
abbrev M_R_writes : jx_M := (prog_10_method_20_code, "StationLineModel", 6, 5, 114, false, 0, fun _ => 0)
abbrev M_R_map : jx_M := (prog_10_method_23_code, "StationLineModel", 19, 6, 141, false, 0, fun _ => 0)
abbrev M_R_touch : jx_M := (prog_10_method_21_code, "StationLineModel", 7, 6, 141, false, 0, fun _ => 0)
abbrev M_R_handle : jx_M := (prog_10_method_24_code, "StationLineModel", 5, 7, 179, false, 0, fun _ => 0)
abbrev M_R_travel : jx_M := (prog_10_method_26_code, "StationLineModel", 7, 8, 203, false, 0, fun _ => 0)
abbrev M_R_answer : jx_M := (prog_10_method_58_code, "StationLineModel", 2, 9, 229, false, 0, fun _ => 0)
abbrev M_R_six : jx_M := (prog_10_method_48_code, "StationLineModel", 8, 0, 0, false, 0, fun _ => 0)
abbrev M_R_ask : jx_M := (prog_10_method_57_code, "StationLineModel", 5, 9, 229, false, 0, fun _ => 0)
abbrev M_R_cut : jx_M := (prog_10_method_32_code, "StationLineModel", 3, 1, 21, false, 0, fun _ => 0)
abbrev M_R_lies : jx_M := (prog_10_method_53_code, "StationLineModel", 3, 0, 0, false, 0, fun _ => 0)
abbrev M_R_expected : jx_M := (prog_10_method_54_code, "StationLineModel", 4, 1, 22, false, 0, fun _ => 0)
abbrev M_R_cycle : jx_M := (prog_10_method_55_code, "StationLineModel", 4, 9, 229, false, 0, fun _ => 0)
abbrev M_R_data : jx_M := (prog_10_method_29_code, "StationLineModel", 4, 0, 0, false, 0, fun _ => 0)
abbrev M_R_datagram : jx_M := (prog_10_method_27_code, "StationLineModel", 6, 1, 26, false, 0, fun _ => 0)
abbrev M_R_input : jx_M := (prog_10_method_56_code, "StationLineModel", 2, 0, 0, false, 0, fun _ => 0)
abbrev M_R_output : jx_M := (prog_10_method_52_code, "StationLineModel", 3, 0, 0, false, 0, fun _ => 0)
abbrev M_R_single : jx_M := (prog_10_method_46_code, "StationLineModel", 5, 9, 229, false, 0, fun _ => 0)
abbrev M_R_request : jx_M := (prog_10_method_51_code, "StationLineModel", 2, 10, 253, false, 0, fun _ => 0)
abbrev M_R_returned : jx_M := (prog_10_method_31_code, "StationLineModel", 3, 0, 0, false, 0, fun _ => 0)
abbrev M_R_scan : jx_M := (prog_10_method_47_code, "StationLineModel", 3, 10, 253, false, 0, fun _ => 0)
abbrev M_R_send : jx_M := (prog_10_method_30_code, "StationLineModel", 2, 9, 229, false, 0, fun _ => 0)
abbrev M_R_sense : jx_M := (prog_10_method_43_code, "StationLineModel", 4, 1, 21, false, 0, fun _ => 0)
abbrev M_R_equip : jx_M := (prog_10_method_49_code, "StationLineModel", 6, 9, 229, false, 0, fun _ => 0)
abbrev M_R_setup : jx_M := (prog_10_method_50_code, "StationLineModel", 4, 10, 254, false, 0, fun _ => 0)
abbrev M_R_spoil : jx_M := (prog_10_method_33_code, "StationLineModel", 2, 0, 0, false, 0, fun _ => 0)
abbrev M_R_state : jx_M := (prog_10_method_45_code, "StationLineModel", 2, 1, 22, false, 0, fun _ => 0)
abbrev M_R_station : jx_M := (prog_10_method_3_code, "StationLineModel", 3, 0, 0, false, 0, fun _ => 0)
abbrev M_R_fail : jx_M := (prog_10_method_34_code, "StationLineModel", 3, 0, 0, false, 0, fun _ => 0)
abbrev M_R_like : jx_M := (prog_10_method_9_code, "StationLineModel", 5, 3, 67, false, 0, fun _ => 0)
abbrev M_R_fit : jx_M := (prog_10_method_36_code, "StationLineModel", 5, 4, 91, false, 0, fun _ => 0)
abbrev M_R_mailed : jx_M := (prog_10_method_35_code, "StationLineModel", 2, 4, 91, false, 0, fun _ => 0)
abbrev M_R_hindrance : jx_M := (prog_10_method_37_code, "StationLineModel", 3, 5, 115, false, 0, fun _ => 0)
abbrev M_R_control : jx_M := (prog_10_method_38_code, "StationLineModel", 5, 6, 137, false, 0, fun _ => 0)
abbrev M_R_message : jx_M := (prog_10_method_39_code, "StationLineModel", 10, 1, 23, false, 0, fun _ => 0)
abbrev M_R_rest : jx_M := (prog_10_method_40_code, "StationLineModel", 3, 0, 0, false, 0, fun _ => 0)
abbrev M_R_turn : jx_M := (prog_10_method_41_code, "StationLineModel", 3, 7, 161, false, 0, fun _ => 0)
abbrev M_R_tick : jx_M := (prog_10_method_42_code, "StationLineModel", 2, 8, 183, false, 0, fun _ => 0)
theorem fp_B_27 (M : jx_M) (h : M.2.1 = "StationLine$MappedBits") : jx_FP M 27 4 0 (.int) := ⟨_, _, _, tt_B, rfl, by decide, by decide, in_B, to_B, nn_B, rfl, Or.inl ⟨rfl, Or.inl (by rw [h]; exact w_197)⟩⟩
theorem fp_B_32 (M : jx_M) (h : M.2.1 = "StationLine$MappedBits") : jx_FP M 32 4 1 (.int) := ⟨_, _, _, tt_B, rfl, by decide, by decide, in_B, to_B, nn_B, rfl, Or.inl ⟨rfl, Or.inl (by rw [h]; exact w_191)⟩⟩
theorem fp_B_35 (M : jx_M) (h : M.2.1 = "StationLine$MappedBits") : jx_FP M 35 4 2 (.int) := ⟨_, _, _, tt_B, rfl, by decide, by decide, in_B, to_B, nn_B, rfl, Or.inl ⟨rfl, Or.inl (by rw [h]; exact w_192)⟩⟩
theorem fp_E_100 (M : jx_M) (h : M.2.1 = "StationLine$Memory") : jx_FP M 100 5 9 (.int) := ⟨_, _, _, tt_E, rfl, by decide, by decide, in_E, to_E, nn_E, rfl, Or.inl ⟨rfl, Or.inl (by rw [h]; exact w_162)⟩⟩
theorem fp_E_104 (M : jx_M) (h : M.2.1 = "StationLine$Memory") : jx_FP M 104 5 7 (.boolean) := ⟨_, _, _, tt_E, rfl, by decide, by decide, in_E, to_E, nn_E, rfl, Or.inl ⟨rfl, Or.inl (by rw [h]; exact w_163)⟩⟩
theorem fp_E_96 (M : jx_M) (h : M.2.1 = "StationLine$Memory") : jx_FP M 96 5 8 (.boolean) := ⟨_, _, _, tt_E, rfl, by decide, by decide, in_E, to_E, nn_E, rfl, Or.inl ⟨rfl, Or.inl (by rw [h]; exact w_161)⟩⟩
theorem fp_F_18 (M : jx_M) (h : M.2.1 = "StationLine$Frame") : jx_FP M 18 1 1 (.int) := ⟨_, _, _, tt_F, rfl, by decide, by decide, in_F, to_F, nn_F, rfl, Or.inl ⟨rfl, Or.inl (by rw [h]; exact w_81)⟩⟩
theorem fp_F_22 (M : jx_M) (h : M.2.1 = "StationLine$Frame") : jx_FP M 22 0 0 (.int) := ⟨_, _, _, tt_D, rfl, by decide, by decide, in_D, to_D, nn_D, rfl, Or.inl ⟨rfl, Or.inl (by rw [h]; exact w_82)⟩⟩
theorem fp_F_25 (M : jx_M) (h : M.2.1 = "StationLine$Frame") : jx_FP M 25 0 1 (.int) := ⟨_, _, _, tt_D, rfl, by decide, by decide, in_D, to_D, nn_D, rfl, Or.inl ⟨rfl, Or.inl (by rw [h]; exact w_83)⟩⟩
theorem fp_F_28 (M : jx_M) (h : M.2.1 = "StationLine$Frame") : jx_FP M 28 0 2 (.int) := ⟨_, _, _, tt_D, rfl, by decide, by decide, in_D, to_D, nn_D, rfl, Or.inl ⟨rfl, Or.inl (by rw [h]; exact w_84)⟩⟩
theorem fp_F_31 (M : jx_M) (h : M.2.1 = "StationLine$Frame") : jx_FP M 31 0 3 (.int) := ⟨_, _, _, tt_D, rfl, by decide, by decide, in_D, to_D, nn_D, rfl, Or.inl ⟨rfl, Or.inl (by rw [h]; exact w_85)⟩⟩
theorem fp_F_34 (M : jx_M) (h : M.2.1 = "StationLine$Frame") : jx_FP M 34 0 4 (.int) := ⟨_, _, _, tt_D, rfl, by decide, by decide, in_D, to_D, nn_D, rfl, Or.inl ⟨rfl, Or.inl (by rw [h]; exact w_86)⟩⟩
theorem fp_I_27 (M : jx_M) (h : M.2.1 = "StationLine$Image") : jx_FP M 27 2 5 (.int) := ⟨_, _, _, tt_I, rfl, by decide, by decide, in_I, to_I, nn_I, rfl, Or.inl ⟨rfl, Or.inl (by rw [h]; exact w_330)⟩⟩
theorem fp_I_31 (M : jx_M) (h : M.2.1 = "StationLine$Image") : jx_FP M 31 2 6 (.int) := ⟨_, _, _, tt_I, rfl, by decide, by decide, in_I, to_I, nn_I, rfl, Or.inl ⟨rfl, Or.inl (by rw [h]; exact w_331)⟩⟩
theorem fp_L_124 (M : jx_M) (h : M.2.1 = "StationLine") : jx_FP M 124 7 5 (.int) := ⟨_, _, _, tt_L, rfl, by decide, by decide, in_L, to_L, nn_L, rfl, Or.inl ⟨rfl, Or.inl (by rw [h]; exact w_337)⟩⟩
theorem fp_L_26 (M : jx_M) (h : M.2.1 = "StationLine") : jx_FP M 26 7 2 (.object "StationLine$Frame") := ⟨_, _, _, tt_L, rfl, by decide, by decide, in_L, to_L, nn_L, rfl, Or.inl ⟨rfl, Or.inl (by rw [h]; exact w_41)⟩⟩
theorem fp_L_30 (M : jx_M) (h : M.2.1 = "StationLine") : jx_FP M 30 7 3 (.object "StationLine$Frame") := ⟨_, _, _, tt_L, rfl, by decide, by decide, in_L, to_L, nn_L, rfl, Or.inl ⟨rfl, Or.inl (by rw [h]; exact w_42)⟩⟩
theorem fp_L_33 (M : jx_M) (h : M.2.1 = "StationLine") : jx_FP M 33 3 2 (.int) := ⟨_, _, _, tt_N, rfl, by decide, by decide, in_N, to_N, nn_N, rfl, Or.inl ⟨rfl, Or.inl (by rw [h]; exact w_73)⟩⟩
theorem fp_L_46 (M : jx_M) (h : M.2.1 = "StationLine") : jx_FP M 46 1 1 (.int) := ⟨_, _, _, tt_F, rfl, by decide, by decide, in_F, to_F, nn_F, rfl, Or.inl ⟨rfl, Or.inl (by rw [h]; exact w_92)⟩⟩
theorem fp_L_76 (M : jx_M) (h : M.2.1 = "StationLine") : jx_FP M 76 7 4 (.boolean) := ⟨_, _, _, tt_L, rfl, by decide, by decide, in_L, to_L, nn_L, rfl, Or.inl ⟨rfl, Or.inl (by rw [h]; exact w_246)⟩⟩
theorem fp_L_96 (M : jx_M) (h : M.2.1 = "StationLine") : jx_FP M 96 3 3 (.int) := ⟨_, _, _, tt_N, rfl, by decide, by decide, in_N, to_N, nn_N, rfl, Or.inl ⟨rfl, Or.inl (by rw [h]; exact w_255)⟩⟩
theorem fp_N_21 (M : jx_M) (h : M.2.1 = "StationLine$Line") : jx_FP M 21 3 3 (.int) := ⟨_, _, _, tt_N, rfl, by decide, by decide, in_N, to_N, nn_N, rfl, Or.inl ⟨rfl, Or.inl (by rw [h]; exact w_21)⟩⟩
theorem fp_R_108 (M : jx_M) (h : M.2.1 = "StationLineModel") : jx_FP M 108 8 0 (.int) := ⟨_, _, _, tt_R, rfl, by decide, by decide, in_R, to_R, nn_R, rfl, Or.inl ⟨rfl, Or.inl (by rw [h]; exact w_418)⟩⟩
theorem fp_R_168 (M : jx_M) (h : M.2.1 = "StationLineModel") : jx_FP M 168 8 30 (.boolean) := ⟨_, _, _, tt_R, rfl, by decide, by decide, in_R, to_R, nn_R, rfl, Or.inl ⟨rfl, Or.inl (by rw [h]; exact w_484)⟩⟩
theorem fp_R_172 (M : jx_M) (h : M.2.1 = "StationLineModel") : jx_FP M 172 8 31 (.boolean) := ⟨_, _, _, tt_R, rfl, by decide, by decide, in_R, to_R, nn_R, rfl, Or.inl ⟨rfl, Or.inl (by rw [h]; exact w_485)⟩⟩
theorem fp_R_185 (M : jx_M) (h : M.2.1 = "StationLineModel") : jx_FP M 185 8 19 (.int) := ⟨_, _, _, tt_R, rfl, by decide, by decide, in_R, to_R, nn_R, rfl, Or.inl ⟨rfl, Or.inl (by rw [h]; exact w_503)⟩⟩
theorem fp_R_191 (M : jx_M) (h : M.2.1 = "StationLineModel") : jx_FP M 191 8 20 (.int) := ⟨_, _, _, tt_R, rfl, by decide, by decide, in_R, to_R, nn_R, rfl, Or.inl ⟨rfl, Or.inl (by rw [h]; exact w_508)⟩⟩
theorem fp_R_197 (M : jx_M) (h : M.2.1 = "StationLineModel") : jx_FP M 197 8 18 (.int) := ⟨_, _, _, tt_R, rfl, by decide, by decide, in_R, to_R, nn_R, rfl, Or.inl ⟨rfl, Or.inl (by rw [h]; exact w_534)⟩⟩
theorem fp_R_241 (M : jx_M) (h : M.2.1 = "StationLineModel") : jx_FP M 241 8 32 (.int) := ⟨_, _, _, tt_R, rfl, by decide, by decide, in_R, to_R, nn_R, rfl, Or.inl ⟨rfl, Or.inl (by rw [h]; exact w_539)⟩⟩
theorem fp_R_244 (M : jx_M) (h : M.2.1 = "StationLineModel") : jx_FP M 244 8 33 (.int) := ⟨_, _, _, tt_R, rfl, by decide, by decide, in_R, to_R, nn_R, rfl, Or.inl ⟨rfl, Or.inl (by rw [h]; exact w_525)⟩⟩
theorem fp_R_247 (M : jx_M) (h : M.2.1 = "StationLineModel") : jx_FP M 247 8 34 (.int) := ⟨_, _, _, tt_R, rfl, by decide, by decide, in_R, to_R, nn_R, rfl, Or.inl ⟨rfl, Or.inl (by rw [h]; exact w_529)⟩⟩
theorem fp_R_62 (M : jx_M) (h : M.2.1 = "StationLineModel") : jx_FP M 62 8 21 (.int) := ⟨_, _, _, tt_R, rfl, by decide, by decide, in_R, to_R, nn_R, rfl, Or.inl ⟨rfl, Or.inl (by rw [h]; exact w_403)⟩⟩
theorem fp_S_130 (M : jx_M) (h : M.2.1 = "StationLine$Station") : jx_FP M 130 5 7 (.boolean) := ⟨_, _, _, tt_E, rfl, by decide, by decide, in_E, to_E, nn_E, rfl, Or.inl ⟨rfl, Or.inl (by rw [h]; exact w_285)⟩⟩
theorem fp_S_146 (M : jx_M) (h : M.2.1 = "StationLine$Station") : jx_FP M 146 5 8 (.boolean) := ⟨_, _, _, tt_E, rfl, by decide, by decide, in_E, to_E, nn_E, rfl, Or.inl ⟨rfl, Or.inl (by rw [h]; exact w_267)⟩⟩
theorem fp_S_149 (M : jx_M) (h : M.2.1 = "StationLine$Station") : jx_FP M 149 5 9 (.int) := ⟨_, _, _, tt_E, rfl, by decide, by decide, in_E, to_E, nn_E, rfl, Or.inl ⟨rfl, Or.inl (by rw [h]; exact w_268)⟩⟩
theorem fp_S_53 (M : jx_M) (h : M.2.1 = "StationLine$Station") : jx_FP M 53 0 1 (.int) := ⟨_, _, _, tt_D, rfl, by decide, by decide, in_D, to_D, nn_D, rfl, Or.inl ⟨rfl, Or.inl (by rw [h]; exact w_222)⟩⟩
theorem fp_S_81 (M : jx_M) (h : M.2.1 = "StationLine$Station") : jx_FP M 81 0 4 (.int) := ⟨_, _, _, tt_D, rfl, by decide, by decide, in_D, to_D, nn_D, rfl, Or.inl ⟨rfl, Or.inl (by rw [h]; exact w_186)⟩⟩
theorem fq_D_init_9 : jx_FP M_D_init 9 0 5 (.array (.int)) := ⟨_, _, _, tt_D, rfl, by decide, by decide, in_D, to_D, nn_D, rfl, Or.inr ⟨rfl, rfl, rfl, w_3⟩⟩
theorem fq_E_init_17 : jx_FP M_E_init 17 5 1 (.array (.array (.int))) := ⟨_, _, _, tt_E, rfl, by decide, by decide, in_E, to_E, nn_E, rfl, Or.inr ⟨rfl, rfl, rfl, w_47⟩⟩
theorem fq_E_init_20 : jx_FP M_E_init 20 5 2 (.array (.array (.int))) := ⟨_, _, _, tt_E, rfl, by decide, by decide, in_E, to_E, nn_E, rfl, Or.inr ⟨rfl, rfl, rfl, w_48⟩⟩
theorem fq_E_init_23 : jx_FP M_E_init 23 5 3 (.array (.boolean)) := ⟨_, _, _, tt_E, rfl, by decide, by decide, in_E, to_E, nn_E, rfl, Or.inr ⟨rfl, rfl, rfl, w_49⟩⟩
theorem fq_E_init_27 : jx_FP M_E_init 27 5 4 (.array (.int)) := ⟨_, _, _, tt_E, rfl, by decide, by decide, in_E, to_E, nn_E, rfl, Or.inr ⟨rfl, rfl, rfl, w_50⟩⟩
theorem fq_E_init_30 : jx_FP M_E_init 30 5 5 (.array (.int)) := ⟨_, _, _, tt_E, rfl, by decide, by decide, in_E, to_E, nn_E, rfl, Or.inr ⟨rfl, rfl, rfl, w_51⟩⟩
theorem fq_E_init_33 : jx_FP M_E_init 33 5 6 (.array (.int)) := ⟨_, _, _, tt_E, rfl, by decide, by decide, in_E, to_E, nn_E, rfl, Or.inr ⟨rfl, rfl, rfl, w_52⟩⟩
theorem fq_E_init_9 : jx_FP M_E_init 9 5 0 (.array (.int)) := ⟨_, _, _, tt_E, rfl, by decide, by decide, in_E, to_E, nn_E, rfl, Or.inr ⟨rfl, rfl, rfl, w_45⟩⟩
theorem fq_F_init_11 : jx_FP M_F_init 11 1 0 (.array (.object "StationLine$Datagram")) := ⟨_, _, _, tt_F, rfl, by decide, by decide, in_F, to_F, nn_F, rfl, Or.inr ⟨rfl, rfl, rfl, w_6⟩⟩
theorem fq_I_init_15 : jx_FP M_I_init 15 2 1 (.array (.int)) := ⟨_, _, _, tt_I, rfl, by decide, by decide, in_I, to_I, nn_I, rfl, Or.inr ⟨rfl, rfl, rfl, w_13⟩⟩
theorem fq_I_init_18 : jx_FP M_I_init 18 2 2 (.array (.int)) := ⟨_, _, _, tt_I, rfl, by decide, by decide, in_I, to_I, nn_I, rfl, Or.inr ⟨rfl, rfl, rfl, w_14⟩⟩
theorem fq_I_init_21 : jx_FP M_I_init 21 2 3 (.array (.int)) := ⟨_, _, _, tt_I, rfl, by decide, by decide, in_I, to_I, nn_I, rfl, Or.inr ⟨rfl, rfl, rfl, w_15⟩⟩
theorem fq_I_init_24 : jx_FP M_I_init 24 2 4 (.array (.int)) := ⟨_, _, _, tt_I, rfl, by decide, by decide, in_I, to_I, nn_I, rfl, Or.inr ⟨rfl, rfl, rfl, w_16⟩⟩
theorem fq_I_init_9 : jx_FP M_I_init 9 2 0 (.array (.int)) := ⟨_, _, _, tt_I, rfl, by decide, by decide, in_I, to_I, nn_I, rfl, Or.inr ⟨rfl, rfl, rfl, w_12⟩⟩
theorem fq_L_init_12 : jx_FP M_L_init 12 7 0 (.object "StationLine$Line") := ⟨_, _, _, tt_L, rfl, by decide, by decide, in_L, to_L, nn_L, rfl, Or.inr ⟨rfl, rfl, rfl, w_28⟩⟩
theorem fq_L_init_19 : jx_FP M_L_init 19 7 1 (.object "StationLine$Image") := ⟨_, _, _, tt_L, rfl, by decide, by decide, in_L, to_L, nn_L, rfl, Or.inr ⟨rfl, rfl, rfl, w_34⟩⟩
theorem fq_N_init_11 : jx_FP M_N_init 11 3 0 (.array (.object "StationLine$Station")) := ⟨_, _, _, tt_N, rfl, by decide, by decide, in_N, to_N, nn_N, rfl, Or.inr ⟨rfl, rfl, rfl, w_19⟩⟩
theorem fq_N_init_17 : jx_FP M_N_init 17 3 1 (.array (.boolean)) := ⟨_, _, _, tt_N, rfl, by decide, by decide, in_N, to_N, nn_N, rfl, Or.inr ⟨rfl, rfl, rfl, w_20⟩⟩
theorem fq_R_init_102 : jx_FP M_R_init 102 8 39 (.array (.int)) := ⟨_, _, _, tt_R, rfl, by decide, by decide, in_R, to_R, nn_R, rfl, Or.inr ⟨rfl, rfl, rfl, w_416⟩⟩
theorem fq_R_init_105 : jx_FP M_R_init 105 8 40 (.array (.int)) := ⟨_, _, _, tt_R, rfl, by decide, by decide, in_R, to_R, nn_R, rfl, Or.inr ⟨rfl, rfl, rfl, w_417⟩⟩
theorem fq_R_init_13 : jx_FP M_R_init 13 8 2 (.array (.int)) := ⟨_, _, _, tt_R, rfl, by decide, by decide, in_R, to_R, nn_R, rfl, Or.inr ⟨rfl, rfl, rfl, w_387⟩⟩
theorem fq_R_init_16 : jx_FP M_R_init 16 8 3 (.array (.boolean)) := ⟨_, _, _, tt_R, rfl, by decide, by decide, in_R, to_R, nn_R, rfl, Or.inr ⟨rfl, rfl, rfl, w_388⟩⟩
theorem fq_R_init_20 : jx_FP M_R_init 20 8 4 (.array (.int)) := ⟨_, _, _, tt_R, rfl, by decide, by decide, in_R, to_R, nn_R, rfl, Or.inr ⟨rfl, rfl, rfl, w_389⟩⟩
theorem fq_R_init_23 : jx_FP M_R_init 23 8 5 (.array (.int)) := ⟨_, _, _, tt_R, rfl, by decide, by decide, in_R, to_R, nn_R, rfl, Or.inr ⟨rfl, rfl, rfl, w_390⟩⟩
theorem fq_R_init_26 : jx_FP M_R_init 26 8 6 (.array (.int)) := ⟨_, _, _, tt_R, rfl, by decide, by decide, in_R, to_R, nn_R, rfl, Or.inr ⟨rfl, rfl, rfl, w_391⟩⟩
theorem fq_R_init_29 : jx_FP M_R_init 29 8 7 (.array (.boolean)) := ⟨_, _, _, tt_R, rfl, by decide, by decide, in_R, to_R, nn_R, rfl, Or.inr ⟨rfl, rfl, rfl, w_392⟩⟩
theorem fq_R_init_32 : jx_FP M_R_init 32 8 8 (.array (.int)) := ⟨_, _, _, tt_R, rfl, by decide, by decide, in_R, to_R, nn_R, rfl, Or.inr ⟨rfl, rfl, rfl, w_393⟩⟩
theorem fq_R_init_35 : jx_FP M_R_init 35 8 9 (.array (.boolean)) := ⟨_, _, _, tt_R, rfl, by decide, by decide, in_R, to_R, nn_R, rfl, Or.inr ⟨rfl, rfl, rfl, w_394⟩⟩
theorem fq_R_init_38 : jx_FP M_R_init 38 8 10 (.array (.int)) := ⟨_, _, _, tt_R, rfl, by decide, by decide, in_R, to_R, nn_R, rfl, Or.inr ⟨rfl, rfl, rfl, w_395⟩⟩
theorem fq_R_init_41 : jx_FP M_R_init 41 8 11 (.array (.boolean)) := ⟨_, _, _, tt_R, rfl, by decide, by decide, in_R, to_R, nn_R, rfl, Or.inr ⟨rfl, rfl, rfl, w_396⟩⟩
theorem fq_R_init_44 : jx_FP M_R_init 44 8 12 (.array (.boolean)) := ⟨_, _, _, tt_R, rfl, by decide, by decide, in_R, to_R, nn_R, rfl, Or.inr ⟨rfl, rfl, rfl, w_397⟩⟩
theorem fq_R_init_47 : jx_FP M_R_init 47 8 13 (.array (.int)) := ⟨_, _, _, tt_R, rfl, by decide, by decide, in_R, to_R, nn_R, rfl, Or.inr ⟨rfl, rfl, rfl, w_398⟩⟩
theorem fq_R_init_50 : jx_FP M_R_init 50 8 14 (.array (.int)) := ⟨_, _, _, tt_R, rfl, by decide, by decide, in_R, to_R, nn_R, rfl, Or.inr ⟨rfl, rfl, rfl, w_399⟩⟩
theorem fq_R_init_53 : jx_FP M_R_init 53 8 15 (.array (.int)) := ⟨_, _, _, tt_R, rfl, by decide, by decide, in_R, to_R, nn_R, rfl, Or.inr ⟨rfl, rfl, rfl, w_400⟩⟩
theorem fq_R_init_56 : jx_FP M_R_init 56 8 16 (.array (.int)) := ⟨_, _, _, tt_R, rfl, by decide, by decide, in_R, to_R, nn_R, rfl, Or.inr ⟨rfl, rfl, rfl, w_401⟩⟩
theorem fq_R_init_59 : jx_FP M_R_init 59 8 17 (.array (.int)) := ⟨_, _, _, tt_R, rfl, by decide, by decide, in_R, to_R, nn_R, rfl, Or.inr ⟨rfl, rfl, rfl, w_402⟩⟩
theorem fq_R_init_66 : jx_FP M_R_init 66 8 22 (.array (.int)) := ⟨_, _, _, tt_R, rfl, by decide, by decide, in_R, to_R, nn_R, rfl, Or.inr ⟨rfl, rfl, rfl, w_404⟩⟩
theorem fq_R_init_69 : jx_FP M_R_init 69 8 23 (.array (.int)) := ⟨_, _, _, tt_R, rfl, by decide, by decide, in_R, to_R, nn_R, rfl, Or.inr ⟨rfl, rfl, rfl, w_405⟩⟩
theorem fq_R_init_7 : jx_FP M_R_init 7 8 1 (.array (.int)) := ⟨_, _, _, tt_R, rfl, by decide, by decide, in_R, to_R, nn_R, rfl, Or.inr ⟨rfl, rfl, rfl, w_386⟩⟩
theorem fq_R_init_72 : jx_FP M_R_init 72 8 24 (.array (.int)) := ⟨_, _, _, tt_R, rfl, by decide, by decide, in_R, to_R, nn_R, rfl, Or.inr ⟨rfl, rfl, rfl, w_406⟩⟩
theorem fq_R_init_75 : jx_FP M_R_init 75 8 25 (.array (.int)) := ⟨_, _, _, tt_R, rfl, by decide, by decide, in_R, to_R, nn_R, rfl, Or.inr ⟨rfl, rfl, rfl, w_407⟩⟩
theorem fq_R_init_78 : jx_FP M_R_init 78 8 26 (.array (.int)) := ⟨_, _, _, tt_R, rfl, by decide, by decide, in_R, to_R, nn_R, rfl, Or.inr ⟨rfl, rfl, rfl, w_408⟩⟩
theorem fq_R_init_81 : jx_FP M_R_init 81 8 27 (.array (.int)) := ⟨_, _, _, tt_R, rfl, by decide, by decide, in_R, to_R, nn_R, rfl, Or.inr ⟨rfl, rfl, rfl, w_409⟩⟩
theorem fq_R_init_84 : jx_FP M_R_init 84 8 28 (.array (.int)) := ⟨_, _, _, tt_R, rfl, by decide, by decide, in_R, to_R, nn_R, rfl, Or.inr ⟨rfl, rfl, rfl, w_410⟩⟩
theorem fq_R_init_87 : jx_FP M_R_init 87 8 29 (.array (.int)) := ⟨_, _, _, tt_R, rfl, by decide, by decide, in_R, to_R, nn_R, rfl, Or.inr ⟨rfl, rfl, rfl, w_411⟩⟩
theorem fq_R_init_90 : jx_FP M_R_init 90 8 35 (.array (.int)) := ⟨_, _, _, tt_R, rfl, by decide, by decide, in_R, to_R, nn_R, rfl, Or.inr ⟨rfl, rfl, rfl, w_412⟩⟩
theorem fq_R_init_93 : jx_FP M_R_init 93 8 36 (.array (.int)) := ⟨_, _, _, tt_R, rfl, by decide, by decide, in_R, to_R, nn_R, rfl, Or.inr ⟨rfl, rfl, rfl, w_413⟩⟩
theorem fq_R_init_96 : jx_FP M_R_init 96 8 37 (.array (.int)) := ⟨_, _, _, tt_R, rfl, by decide, by decide, in_R, to_R, nn_R, rfl, Or.inr ⟨rfl, rfl, rfl, w_414⟩⟩
theorem fq_R_init_99 : jx_FP M_R_init 99 8 38 (.array (.int)) := ⟨_, _, _, tt_R, rfl, by decide, by decide, in_R, to_R, nn_R, rfl, Or.inr ⟨rfl, rfl, rfl, w_415⟩⟩
theorem fq_S_init_15 : jx_FP M_S_init 15 6 3 (.array (.int)) := ⟨_, _, _, tt_S, rfl, by decide, by decide, in_S, to_S, nn_S, rfl, Or.inr ⟨rfl, rfl, rfl, w_55⟩⟩
theorem fq_S_init_21 : jx_FP M_S_init 21 6 4 (.object "StationLine$Memory") := ⟨_, _, _, tt_S, rfl, by decide, by decide, in_S, to_S, nn_S, rfl, Or.inr ⟨rfl, rfl, rfl, w_61⟩⟩
theorem fq_S_init_28 : jx_FP M_S_init 28 6 5 (.object "StationLine$MappedBits") := ⟨_, _, _, tt_S, rfl, by decide, by decide, in_S, to_S, nn_S, rfl, Or.inr ⟨rfl, rfl, rfl, w_67⟩⟩
theorem fq_S_init_32 : jx_FP M_S_init 32 6 6 (.array (.int)) := ⟨_, _, _, tt_S, rfl, by decide, by decide, in_S, to_S, nn_S, rfl, Or.inr ⟨rfl, rfl, rfl, w_68⟩⟩
theorem fq_S_init_35 : jx_FP M_S_init 35 6 7 (.array (.int)) := ⟨_, _, _, tt_S, rfl, by decide, by decide, in_S, to_S, nn_S, rfl, Or.inr ⟨rfl, rfl, rfl, w_69⟩⟩
theorem fq_S_init_38 : jx_FP M_S_init 38 6 0 (.int) := ⟨_, _, _, tt_S, rfl, by decide, by decide, in_S, to_S, nn_S, rfl, Or.inr ⟨rfl, rfl, rfl, w_70⟩⟩
theorem fq_S_init_42 : jx_FP M_S_init 42 6 1 (.int) := ⟨_, _, _, tt_S, rfl, by decide, by decide, in_S, to_S, nn_S, rfl, Or.inr ⟨rfl, rfl, rfl, w_71⟩⟩
theorem fq_S_init_9 : jx_FP M_S_init 9 6 2 (.array (.int)) := ⟨_, _, _, tt_S, rfl, by decide, by decide, in_S, to_S, nn_S, rfl, Or.inr ⟨rfl, rfl, rfl, w_54⟩⟩
theorem nw_F_9 : jx_NW "StationLine$Frame" 9 0 df_D := ⟨_, _, _, tt_D, rfl, by decide, rfl, in_D, to_D, dv_D, by decide, w_5, w_7, w_8⟩
theorem nw_L_16 : jx_NW "StationLine" 16 2 df_I := ⟨_, _, _, tt_I, rfl, by decide, rfl, in_I, to_I, dv_I, by decide, w_29, w_30, w_31⟩
theorem nw_L_23 : jx_NW "StationLine" 23 1 df_F := ⟨_, _, _, tt_F, rfl, by decide, rfl, in_F, to_F, dv_F, by decide, w_35, w_36, w_37⟩
theorem nw_L_41 : jx_NW "StationLine" 41 6 df_S := ⟨_, _, _, tt_S, rfl, by decide, rfl, in_S, to_S, dv_S, by decide, w_75, w_76, w_77⟩
theorem nw_L_9 : jx_NW "StationLine" 9 3 df_N := ⟨_, _, _, tt_N, rfl, by decide, rfl, in_N, to_N, dv_N, by decide, w_23, w_24, w_25⟩
theorem nw_S_18 : jx_NW "StationLine$Station" 18 5 df_E := ⟨_, _, _, tt_E, rfl, by decide, rfl, in_E, to_E, dv_E, by decide, w_56, w_57, w_58⟩
theorem nw_S_25 : jx_NW "StationLine$Station" 25 4 df_B := ⟨_, _, _, tt_B, rfl, by decide, rfl, in_B, to_B, dv_B, by decide, w_62, w_63, w_64⟩
theorem nw_W_10 : jx_NW "StationLineLaw" 10 8 df_R := ⟨_, _, _, tt_R, rfl, by decide, rfl, in_R, to_R, dv_R, by decide, w_586, w_587, w_421⟩
theorem nw_W_7 : jx_NW "StationLineLaw" 7 7 df_L := ⟨_, _, _, tt_L, rfl, by decide, rfl, in_L, to_L, dv_L, by decide, w_581, w_582, w_95⟩
theorem jt_ai : ∀ a, narrow (.array .int) (.ref a) = .ref a ∧ fits (.array .int) (.ref a) = true := fun _ => ⟨rfl, rfl⟩
theorem jt_az : ∀ a, narrow (.array .boolean) (.ref a) = .ref a ∧ fits (.array .boolean) (.ref a) = true := fun _ => ⟨rfl, rfl⟩
theorem jt_aai : ∀ a, narrow (.array (.array .int)) (.ref a) = .ref a ∧ fits (.array (.array .int)) (.ref a) = true := fun _ => ⟨rfl, rfl⟩
theorem jt_aD : ∀ a, narrow (.array (.object "StationLine$Datagram")) (.ref a) = .ref a ∧ fits (.array (.object "StationLine$Datagram")) (.ref a) = true := fun _ => ⟨rfl, rfl⟩
theorem jt_aS : ∀ a, narrow (.array (.object "StationLine$Station")) (.ref a) = .ref a ∧ fits (.array (.object "StationLine$Station")) (.ref a) = true := fun _ => ⟨rfl, rfl⟩
theorem jt_o {C : String} : ∀ a, narrow (.object C) (.ref a) = .ref a ∧ fits (.object C) (.ref a) = true := fun _ => ⟨rfl, rfl⟩
