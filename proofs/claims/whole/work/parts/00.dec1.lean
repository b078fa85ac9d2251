theorem d_D_init_0 : decode prog_2_method_1_code 0 = .ok (.aload_n 0, 1) := by decide +kernel
theorem d_D_init_1 : decode prog_2_method_1_code 1 = .ok (.invokespecial 3, 3) := by decide +kernel
theorem d_D_init_4 : decode prog_2_method_1_code 4 = .ok (.aload_n 0, 1) := by decide +kernel
theorem d_D_init_5 : decode prog_2_method_1_code 5 = .ok (.bipush 8, 2) := by decide +kernel
theorem d_D_init_7 : decode prog_2_method_1_code 7 = .ok (.newarray .int, 2) := by decide +kernel
theorem d_D_init_9 : decode prog_2_method_1_code 9 = .ok (.putfield 9, 3) := by decide +kernel
theorem d_D_init_12 : decode prog_2_method_1_code 12 = .ok (.return_, 1) := by decide +kernel
theorem d_F_init_0 : decode prog_3_method_1_code 0 = .ok (.aload_n 0, 1) := by decide +kernel
theorem d_F_init_1 : decode prog_3_method_1_code 1 = .ok (.invokespecial 3, 3) := by decide +kernel
theorem d_F_init_4 : decode prog_3_method_1_code 4 = .ok (.aload_n 0, 1) := by decide +kernel
theorem d_F_init_5 : decode prog_3_method_1_code 5 = .ok (.iconst 3, 1) := by decide +kernel
theorem d_F_init_6 : decode prog_3_method_1_code 6 = .ok (.anewarray 9, 3) := by decide +kernel
theorem d_F_init_9 : decode prog_3_method_1_code 9 = .ok (.putfield 11, 3) := by decide +kernel
theorem d_F_init_12 : decode prog_3_method_1_code 12 = .ok (.iconst 0, 1) := by decide +kernel
theorem d_F_init_13 : decode prog_3_method_1_code 13 = .ok (.istore_n 1, 1) := by decide +kernel
theorem d_F_init_14 : decode prog_3_method_1_code 14 = .ok (.iload_n 1, 1) := by decide +kernel
theorem d_F_init_15 : decode prog_3_method_1_code 15 = .ok (.iconst 3, 1) := by decide +kernel
theorem d_F_init_16 : decode prog_3_method_1_code 16 = .ok (.if_icmp .ge 22, 3) := by decide +kernel
theorem d_F_init_19 : decode prog_3_method_1_code 19 = .ok (.aload_n 0, 1) := by decide +kernel
theorem d_F_init_20 : decode prog_3_method_1_code 20 = .ok (.getfield 11, 3) := by decide +kernel
theorem d_F_init_23 : decode prog_3_method_1_code 23 = .ok (.iload_n 1, 1) := by decide +kernel
theorem d_F_init_24 : decode prog_3_method_1_code 24 = .ok (.new 9, 3) := by decide +kernel
theorem d_F_init_27 : decode prog_3_method_1_code 27 = .ok (.dup, 1) := by decide +kernel
theorem d_F_init_28 : decode prog_3_method_1_code 28 = .ok (.invokespecial 17, 3) := by decide +kernel
theorem d_F_init_31 : decode prog_3_method_1_code 31 = .ok (.aastore, 1) := by decide +kernel
theorem d_F_init_32 : decode prog_3_method_1_code 32 = .ok (.iinc 1 1, 3) := by decide +kernel
theorem d_F_init_35 : decode prog_3_method_1_code 35 = .ok (.goto (-21), 3) := by decide +kernel
theorem d_F_init_38 : decode prog_3_method_1_code 38 = .ok (.return_, 1) := by decide +kernel
theorem d_I_init_0 : decode prog_4_method_1_code 0 = .ok (.aload_n 0, 1) := by decide +kernel
theorem d_I_init_1 : decode prog_4_method_1_code 1 = .ok (.invokespecial 3, 3) := by decide +kernel
theorem d_I_init_4 : decode prog_4_method_1_code 4 = .ok (.aload_n 0, 1) := by decide +kernel
theorem d_I_init_5 : decode prog_4_method_1_code 5 = .ok (.bipush 24, 2) := by decide +kernel
theorem d_I_init_7 : decode prog_4_method_1_code 7 = .ok (.newarray .int, 2) := by decide +kernel
theorem d_I_init_9 : decode prog_4_method_1_code 9 = .ok (.putfield 9, 3) := by decide +kernel
theorem d_I_init_12 : decode prog_4_method_1_code 12 = .ok (.aload_n 0, 1) := by decide +kernel
theorem d_I_init_13 : decode prog_4_method_1_code 13 = .ok (.bipush 24, 2) := by decide +kernel
theorem d_I_init_15 : decode prog_4_method_1_code 15 = .ok (.newarray .int, 2) := by decide +kernel
theorem d_I_init_17 : decode prog_4_method_1_code 17 = .ok (.putfield 15, 3) := by decide +kernel
theorem d_I_init_20 : decode prog_4_method_1_code 20 = .ok (.aload_n 0, 1) := by decide +kernel
theorem d_I_init_21 : decode prog_4_method_1_code 21 = .ok (.bipush 6, 2) := by decide +kernel
theorem d_I_init_23 : decode prog_4_method_1_code 23 = .ok (.newarray .int, 2) := by decide +kernel
theorem d_I_init_25 : decode prog_4_method_1_code 25 = .ok (.putfield 18, 3) := by decide +kernel
theorem d_I_init_28 : decode prog_4_method_1_code 28 = .ok (.aload_n 0, 1) := by decide +kernel
theorem d_I_init_29 : decode prog_4_method_1_code 29 = .ok (.bipush 6, 2) := by decide +kernel
theorem d_I_init_31 : decode prog_4_method_1_code 31 = .ok (.newarray .int, 2) := by decide +kernel
theorem d_I_init_33 : decode prog_4_method_1_code 33 = .ok (.putfield 21, 3) := by decide +kernel
theorem d_I_init_36 : decode prog_4_method_1_code 36 = .ok (.aload_n 0, 1) := by decide +kernel
theorem d_I_init_37 : decode prog_4_method_1_code 37 = .ok (.bipush 6, 2) := by decide +kernel
theorem d_I_init_39 : decode prog_4_method_1_code 39 = .ok (.newarray .int, 2) := by decide +kernel
theorem d_I_init_41 : decode prog_4_method_1_code 41 = .ok (.putfield 24, 3) := by decide +kernel
theorem d_I_init_44 : decode prog_4_method_1_code 44 = .ok (.return_, 1) := by decide +kernel
theorem d_N_init_0 : decode prog_5_method_1_code 0 = .ok (.aload_n 0, 1) := by decide +kernel
theorem d_N_init_1 : decode prog_5_method_1_code 1 = .ok (.invokespecial 3, 3) := by decide +kernel
theorem d_N_init_4 : decode prog_5_method_1_code 4 = .ok (.aload_n 0, 1) := by decide +kernel
theorem d_N_init_5 : decode prog_5_method_1_code 5 = .ok (.bipush 6, 2) := by decide +kernel
theorem d_N_init_7 : decode prog_5_method_1_code 7 = .ok (.anewarray 9, 3) := by decide +kernel
theorem d_N_init_10 : decode prog_5_method_1_code 10 = .ok (.putfield 11, 3) := by decide +kernel
theorem d_N_init_13 : decode prog_5_method_1_code 13 = .ok (.aload_n 0, 1) := by decide +kernel
theorem d_N_init_14 : decode prog_5_method_1_code 14 = .ok (.bipush 6, 2) := by decide +kernel
theorem d_N_init_16 : decode prog_5_method_1_code 16 = .ok (.newarray .boolean, 2) := by decide +kernel
theorem d_N_init_18 : decode prog_5_method_1_code 18 = .ok (.putfield 17, 3) := by decide +kernel
theorem d_N_init_21 : decode prog_5_method_1_code 21 = .ok (.aload_n 0, 1) := by decide +kernel
theorem d_N_init_22 : decode prog_5_method_1_code 22 = .ok (.iconst (-1), 1) := by decide +kernel
theorem d_N_init_23 : decode prog_5_method_1_code 23 = .ok (.putfield 21, 3) := by decide +kernel
theorem d_N_init_26 : decode prog_5_method_1_code 26 = .ok (.return_, 1) := by decide +kernel
theorem d_L_init_0 : decode prog_1_method_1_code 0 = .ok (.aload_n 0, 1) := by decide +kernel
theorem d_L_init_1 : decode prog_1_method_1_code 1 = .ok (.invokespecial 3, 3) := by decide +kernel
theorem d_L_init_4 : decode prog_1_method_1_code 4 = .ok (.aload_n 0, 1) := by decide +kernel
theorem d_L_init_5 : decode prog_1_method_1_code 5 = .ok (.new 9, 3) := by decide +kernel
theorem d_L_init_8 : decode prog_1_method_1_code 8 = .ok (.dup, 1) := by decide +kernel
theorem d_L_init_9 : decode prog_1_method_1_code 9 = .ok (.invokespecial 11, 3) := by decide +kernel
theorem d_L_init_12 : decode prog_1_method_1_code 12 = .ok (.putfield 12, 3) := by decide +kernel
theorem d_L_init_15 : decode prog_1_method_1_code 15 = .ok (.aload_n 0, 1) := by decide +kernel
theorem d_L_init_16 : decode prog_1_method_1_code 16 = .ok (.new 16, 3) := by decide +kernel
theorem d_L_init_19 : decode prog_1_method_1_code 19 = .ok (.dup, 1) := by decide +kernel
theorem d_L_init_20 : decode prog_1_method_1_code 20 = .ok (.invokespecial 18, 3) := by decide +kernel
theorem d_L_init_23 : decode prog_1_method_1_code 23 = .ok (.putfield 19, 3) := by decide +kernel
theorem d_L_init_26 : decode prog_1_method_1_code 26 = .ok (.aload_n 0, 1) := by decide +kernel
theorem d_L_init_27 : decode prog_1_method_1_code 27 = .ok (.new 23, 3) := by decide +kernel
theorem d_L_init_30 : decode prog_1_method_1_code 30 = .ok (.dup, 1) := by decide +kernel
theorem d_L_init_31 : decode prog_1_method_1_code 31 = .ok (.invokespecial 25, 3) := by decide +kernel
theorem d_L_init_34 : decode prog_1_method_1_code 34 = .ok (.putfield 26, 3) := by decide +kernel
theorem d_L_init_37 : decode prog_1_method_1_code 37 = .ok (.aload_n 0, 1) := by decide +kernel
theorem d_L_init_38 : decode prog_1_method_1_code 38 = .ok (.new 23, 3) := by decide +kernel
theorem d_L_init_41 : decode prog_1_method_1_code 41 = .ok (.dup, 1) := by decide +kernel
theorem d_L_init_42 : decode prog_1_method_1_code 42 = .ok (.invokespecial 25, 3) := by decide +kernel
theorem d_L_init_45 : decode prog_1_method_1_code 45 = .ok (.putfield 30, 3) := by decide +kernel
theorem d_L_init_48 : decode prog_1_method_1_code 48 = .ok (.return_, 1) := by decide +kernel
theorem d_B_init_0 : decode prog_6_method_1_code 0 = .ok (.aload_n 0, 1) := by decide +kernel
theorem d_B_init_1 : decode prog_6_method_1_code 1 = .ok (.invokespecial 3, 3) := by decide +kernel
theorem d_B_init_4 : decode prog_6_method_1_code 4 = .ok (.return_, 1) := by decide +kernel
theorem d_E_init_0 : decode prog_7_method_1_code 0 = .ok (.aload_n 0, 1) := by decide +kernel
theorem d_E_init_1 : decode prog_7_method_1_code 1 = .ok (.invokespecial 3, 3) := by decide +kernel
theorem d_E_init_4 : decode prog_7_method_1_code 4 = .ok (.aload_n 0, 1) := by decide +kernel
theorem d_E_init_5 : decode prog_7_method_1_code 5 = .ok (.sipush 128, 3) := by decide +kernel
theorem d_E_init_8 : decode prog_7_method_1_code 8 = .ok (.newarray .int, 2) := by decide +kernel
theorem d_E_init_10 : decode prog_7_method_1_code 10 = .ok (.putfield 9, 3) := by decide +kernel
theorem d_E_init_13 : decode prog_7_method_1_code 13 = .ok (.aload_n 0, 1) := by decide +kernel
theorem d_E_init_14 : decode prog_7_method_1_code 14 = .ok (.iconst 4, 1) := by decide +kernel
theorem d_E_init_15 : decode prog_7_method_1_code 15 = .ok (.bipush 8, 2) := by decide +kernel
theorem d_E_init_17 : decode prog_7_method_1_code 17 = .ok (.multianewarray 15 2, 4) := by decide +kernel
theorem d_E_init_21 : decode prog_7_method_1_code 21 = .ok (.putfield 17, 3) := by decide +kernel
theorem d_E_init_24 : decode prog_7_method_1_code 24 = .ok (.aload_n 0, 1) := by decide +kernel
theorem d_E_init_25 : decode prog_7_method_1_code 25 = .ok (.iconst 4, 1) := by decide +kernel
theorem d_E_init_26 : decode prog_7_method_1_code 26 = .ok (.bipush 8, 2) := by decide +kernel
theorem d_E_init_28 : decode prog_7_method_1_code 28 = .ok (.multianewarray 15 2, 4) := by decide +kernel
theorem d_E_init_32 : decode prog_7_method_1_code 32 = .ok (.putfield 20, 3) := by decide +kernel
theorem d_E_init_35 : decode prog_7_method_1_code 35 = .ok (.aload_n 0, 1) := by decide +kernel
theorem d_E_init_36 : decode prog_7_method_1_code 36 = .ok (.iconst 4, 1) := by decide +kernel
theorem d_E_init_37 : decode prog_7_method_1_code 37 = .ok (.newarray .boolean, 2) := by decide +kernel
theorem d_E_init_39 : decode prog_7_method_1_code 39 = .ok (.putfield 23, 3) := by decide +kernel
theorem d_E_init_42 : decode prog_7_method_1_code 42 = .ok (.aload_n 0, 1) := by decide +kernel
theorem d_E_init_43 : decode prog_7_method_1_code 43 = .ok (.bipush 9, 2) := by decide +kernel
theorem d_E_init_45 : decode prog_7_method_1_code 45 = .ok (.newarray .int, 2) := by decide +kernel
theorem d_E_init_47 : decode prog_7_method_1_code 47 = .ok (.putfield 27, 3) := by decide +kernel
theorem d_E_init_50 : decode prog_7_method_1_code 50 = .ok (.aload_n 0, 1) := by decide +kernel
theorem d_E_init_51 : decode prog_7_method_1_code 51 = .ok (.bipush 9, 2) := by decide +kernel
theorem d_E_init_53 : decode prog_7_method_1_code 53 = .ok (.newarray .int, 2) := by decide +kernel
theorem d_E_init_55 : decode prog_7_method_1_code 55 = .ok (.putfield 30, 3) := by decide +kernel
theorem d_E_init_58 : decode prog_7_method_1_code 58 = .ok (.aload_n 0, 1) := by decide +kernel
theorem d_E_init_59 : decode prog_7_method_1_code 59 = .ok (.bipush 9, 2) := by decide +kernel
theorem d_E_init_61 : decode prog_7_method_1_code 61 = .ok (.newarray .int, 2) := by decide +kernel
theorem d_E_init_63 : decode prog_7_method_1_code 63 = .ok (.putfield 33, 3) := by decide +kernel
theorem d_E_init_66 : decode prog_7_method_1_code 66 = .ok (.return_, 1) := by decide +kernel
theorem d_S_init_0 : decode prog_8_method_1_code 0 = .ok (.aload_n 0, 1) := by decide +kernel
theorem d_S_init_1 : decode prog_8_method_1_code 1 = .ok (.invokespecial 3, 3) := by decide +kernel
theorem d_S_init_4 : decode prog_8_method_1_code 4 = .ok (.aload_n 0, 1) := by decide +kernel
theorem d_S_init_5 : decode prog_8_method_1_code 5 = .ok (.iconst 2, 1) := by decide +kernel
theorem d_S_init_6 : decode prog_8_method_1_code 6 = .ok (.newarray .int, 2) := by decide +kernel
theorem d_S_init_8 : decode prog_8_method_1_code 8 = .ok (.putfield 9, 3) := by decide +kernel
theorem d_S_init_11 : decode prog_8_method_1_code 11 = .ok (.aload_n 0, 1) := by decide +kernel
theorem d_S_init_12 : decode prog_8_method_1_code 12 = .ok (.iconst 2, 1) := by decide +kernel
theorem d_S_init_13 : decode prog_8_method_1_code 13 = .ok (.newarray .int, 2) := by decide +kernel
theorem d_S_init_15 : decode prog_8_method_1_code 15 = .ok (.putfield 15, 3) := by decide +kernel
theorem d_S_init_18 : decode prog_8_method_1_code 18 = .ok (.aload_n 0, 1) := by decide +kernel
theorem d_S_init_19 : decode prog_8_method_1_code 19 = .ok (.new 18, 3) := by decide +kernel
theorem d_S_init_22 : decode prog_8_method_1_code 22 = .ok (.dup, 1) := by decide +kernel
theorem d_S_init_23 : decode prog_8_method_1_code 23 = .ok (.invokespecial 20, 3) := by decide +kernel
theorem d_S_init_26 : decode prog_8_method_1_code 26 = .ok (.putfield 21, 3) := by decide +kernel
theorem d_S_init_29 : decode prog_8_method_1_code 29 = .ok (.aload_n 0, 1) := by decide +kernel
theorem d_S_init_30 : decode prog_8_method_1_code 30 = .ok (.new 25, 3) := by decide +kernel
theorem d_S_init_33 : decode prog_8_method_1_code 33 = .ok (.dup, 1) := by decide +kernel
theorem d_S_init_34 : decode prog_8_method_1_code 34 = .ok (.invokespecial 27, 3) := by decide +kernel
theorem d_S_init_37 : decode prog_8_method_1_code 37 = .ok (.putfield 28, 3) := by decide +kernel
theorem d_S_init_40 : decode prog_8_method_1_code 40 = .ok (.aload_n 0, 1) := by decide +kernel
theorem d_S_init_41 : decode prog_8_method_1_code 41 = .ok (.bipush 8, 2) := by decide +kernel
theorem d_S_init_43 : decode prog_8_method_1_code 43 = .ok (.newarray .int, 2) := by decide +kernel
theorem d_S_init_45 : decode prog_8_method_1_code 45 = .ok (.putfield 32, 3) := by decide +kernel
theorem d_S_init_48 : decode prog_8_method_1_code 48 = .ok (.aload_n 0, 1) := by decide +kernel
theorem d_S_init_49 : decode prog_8_method_1_code 49 = .ok (.iconst 4, 1) := by decide +kernel
theorem d_S_init_50 : decode prog_8_method_1_code 50 = .ok (.newarray .int, 2) := by decide +kernel
theorem d_S_init_52 : decode prog_8_method_1_code 52 = .ok (.putfield 35, 3) := by decide +kernel
theorem d_S_init_55 : decode prog_8_method_1_code 55 = .ok (.aload_n 0, 1) := by decide +kernel
theorem d_S_init_56 : decode prog_8_method_1_code 56 = .ok (.iload_n 1, 1) := by decide +kernel
theorem d_S_init_57 : decode prog_8_method_1_code 57 = .ok (.putfield 38, 3) := by decide +kernel
theorem d_S_init_60 : decode prog_8_method_1_code 60 = .ok (.aload_n 0, 1) := by decide +kernel
theorem d_S_init_61 : decode prog_8_method_1_code 61 = .ok (.iload_n 2, 1) := by decide +kernel
theorem d_S_init_62 : decode prog_8_method_1_code 62 = .ok (.putfield 42, 3) := by decide +kernel
theorem d_S_init_65 : decode prog_8_method_1_code 65 = .ok (.aload_n 0, 1) := by decide +kernel
theorem d_S_init_66 : decode prog_8_method_1_code 66 = .ok (.getfield 21, 3) := by decide +kernel
theorem d_S_init_69 : decode prog_8_method_1_code 69 = .ok (.getfield 45, 3) := by decide +kernel
theorem d_S_init_72 : decode prog_8_method_1_code 72 = .ok (.iconst 2, 1) := by decide +kernel
theorem d_S_init_73 : decode prog_8_method_1_code 73 = .ok (.iconst 1, 1) := by decide +kernel
theorem d_S_init_74 : decode prog_8_method_1_code 74 = .ok (.iastore, 1) := by decide +kernel
theorem d_S_init_75 : decode prog_8_method_1_code 75 = .ok (.aload_n 0, 1) := by decide +kernel
theorem d_S_init_76 : decode prog_8_method_1_code 76 = .ok (.getfield 35, 3) := by decide +kernel
theorem d_S_init_79 : decode prog_8_method_1_code 79 = .ok (.iconst 0, 1) := by decide +kernel
theorem d_S_init_80 : decode prog_8_method_1_code 80 = .ok (.sipush 1000, 3) := by decide +kernel
theorem d_S_init_83 : decode prog_8_method_1_code 83 = .ok (.bipush 16, 2) := by decide +kernel
theorem d_S_init_85 : decode prog_8_method_1_code 85 = .ok (.iload_n 1, 1) := by decide +kernel
theorem d_S_init_86 : decode prog_8_method_1_code 86 = .ok (.imul, 1) := by decide +kernel
theorem d_S_init_87 : decode prog_8_method_1_code 87 = .ok (.iadd, 1) := by decide +kernel
theorem d_S_init_88 : decode prog_8_method_1_code 88 = .ok (.iload_n 2, 1) := by decide +kernel
theorem d_S_init_89 : decode prog_8_method_1_code 89 = .ok (.iadd, 1) := by decide +kernel
theorem d_S_init_90 : decode prog_8_method_1_code 90 = .ok (.iastore, 1) := by decide +kernel
theorem d_S_init_91 : decode prog_8_method_1_code 91 = .ok (.return_, 1) := by decide +kernel
theorem d_L_station_0 : decode prog_1_method_2_code 0 = .ok (.iload_n 1, 1) := by decide +kernel
theorem d_L_station_1 : decode prog_1_method_2_code 1 = .ok (.ifCond .lt 17, 3) := by decide +kernel
theorem d_L_station_4 : decode prog_1_method_2_code 4 = .ok (.iload_n 1, 1) := by decide +kernel
theorem d_L_station_5 : decode prog_1_method_2_code 5 = .ok (.iconst 2, 1) := by decide +kernel
theorem d_L_station_6 : decode prog_1_method_2_code 6 = .ok (.if_icmp .gt 12, 3) := by decide +kernel
theorem d_L_station_9 : decode prog_1_method_2_code 9 = .ok (.iload_n 2, 1) := by decide +kernel
theorem d_L_station_10 : decode prog_1_method_2_code 10 = .ok (.ifCond .lt 8, 3) := by decide +kernel
theorem d_L_station_13 : decode prog_1_method_2_code 13 = .ok (.iload_n 2, 1) := by decide +kernel
theorem d_L_station_14 : decode prog_1_method_2_code 14 = .ok (.iconst 2, 1) := by decide +kernel
theorem d_L_station_15 : decode prog_1_method_2_code 15 = .ok (.if_icmp .le 5, 3) := by decide +kernel
theorem d_L_station_18 : decode prog_1_method_2_code 18 = .ok (.iconst (-1), 1) := by decide +kernel
theorem d_L_station_19 : decode prog_1_method_2_code 19 = .ok (.ireturn, 1) := by decide +kernel
theorem d_L_station_20 : decode prog_1_method_2_code 20 = .ok (.aload_n 0, 1) := by decide +kernel
theorem d_L_station_21 : decode prog_1_method_2_code 21 = .ok (.getfield 12, 3) := by decide +kernel
theorem d_L_station_24 : decode prog_1_method_2_code 24 = .ok (.getfield 33, 3) := by decide +kernel
theorem d_L_station_27 : decode prog_1_method_2_code 27 = .ok (.bipush 6, 2) := by decide +kernel
theorem d_L_station_29 : decode prog_1_method_2_code 29 = .ok (.if_icmp .lt 5, 3) := by decide +kernel
theorem d_L_station_32 : decode prog_1_method_2_code 32 = .ok (.iconst (-1), 1) := by decide +kernel
theorem d_L_station_33 : decode prog_1_method_2_code 33 = .ok (.ireturn, 1) := by decide +kernel
theorem d_L_station_34 : decode prog_1_method_2_code 34 = .ok (.aload_n 0, 1) := by decide +kernel
theorem d_L_station_35 : decode prog_1_method_2_code 35 = .ok (.getfield 12, 3) := by decide +kernel
theorem d_L_station_38 : decode prog_1_method_2_code 38 = .ok (.getfield 37, 3) := by decide +kernel
theorem d_L_station_41 : decode prog_1_method_2_code 41 = .ok (.aload_n 0, 1) := by decide +kernel
theorem d_L_station_42 : decode prog_1_method_2_code 42 = .ok (.getfield 12, 3) := by decide +kernel
theorem d_L_station_45 : decode prog_1_method_2_code 45 = .ok (.getfield 33, 3) := by decide +kernel
theorem d_L_station_48 : decode prog_1_method_2_code 48 = .ok (.new 41, 3) := by decide +kernel
theorem d_L_station_51 : decode prog_1_method_2_code 51 = .ok (.dup, 1) := by decide +kernel
theorem d_L_station_52 : decode prog_1_method_2_code 52 = .ok (.iload_n 1, 1) := by decide +kernel
theorem d_L_station_53 : decode prog_1_method_2_code 53 = .ok (.iload_n 2, 1) := by decide +kernel
theorem d_L_station_54 : decode prog_1_method_2_code 54 = .ok (.invokespecial 43, 3) := by decide +kernel
theorem d_L_station_57 : decode prog_1_method_2_code 57 = .ok (.aastore, 1) := by decide +kernel
theorem d_L_station_58 : decode prog_1_method_2_code 58 = .ok (.aload_n 0, 1) := by decide +kernel
theorem d_L_station_59 : decode prog_1_method_2_code 59 = .ok (.getfield 12, 3) := by decide +kernel
theorem d_L_station_62 : decode prog_1_method_2_code 62 = .ok (.dup, 1) := by decide +kernel
theorem d_L_station_63 : decode prog_1_method_2_code 63 = .ok (.getfield 33, 3) := by decide +kernel
theorem d_L_station_66 : decode prog_1_method_2_code 66 = .ok (.iconst 1, 1) := by decide +kernel
theorem d_L_station_67 : decode prog_1_method_2_code 67 = .ok (.iadd, 1) := by decide +kernel
theorem d_L_station_68 : decode prog_1_method_2_code 68 = .ok (.putfield 33, 3) := by decide +kernel
theorem d_L_station_71 : decode prog_1_method_2_code 71 = .ok (.aload_n 0, 1) := by decide +kernel
theorem d_L_station_72 : decode prog_1_method_2_code 72 = .ok (.getfield 12, 3) := by decide +kernel
theorem d_L_station_75 : decode prog_1_method_2_code 75 = .ok (.getfield 33, 3) := by decide +kernel
theorem d_L_station_78 : decode prog_1_method_2_code 78 = .ok (.iconst 1, 1) := by decide +kernel
theorem d_L_station_79 : decode prog_1_method_2_code 79 = .ok (.isub, 1) := by decide +kernel
theorem d_L_station_80 : decode prog_1_method_2_code 80 = .ok (.ireturn, 1) := by decide +kernel
theorem d_L_isCommand_0 : decode prog_1_method_21_code 0 = .ok (.iload_n 0, 1) := by decide +kernel
theorem d_L_isCommand_1 : decode prog_1_method_21_code 1 = .ok (.tableswitch 65 1 12 #[63, 63, 65, 63, 63, 65, 63, 63, 65, 63, 63, 63], 63) := by decide +kernel
theorem d_L_isCommand_64 : decode prog_1_method_21_code 64 = .ok (.iconst 1, 1) := by decide +kernel
theorem d_L_isCommand_65 : decode prog_1_method_21_code 65 = .ok (.ireturn, 1) := by decide +kernel
theorem d_L_isCommand_66 : decode prog_1_method_21_code 66 = .ok (.iconst 0, 1) := by decide +kernel
theorem d_L_isCommand_67 : decode prog_1_method_21_code 67 = .ok (.ireturn, 1) := by decide +kernel
theorem d_A_fill_0 : decode prog_13_method_103_code 0 = .ok (.iconst 0, 1) := by decide +kernel
theorem d_A_fill_1 : decode prog_13_method_103_code 1 = .ok (.istore_n 2, 1) := by decide +kernel
theorem d_A_fill_2 : decode prog_13_method_103_code 2 = .ok (.aload_n 0, 1) := by decide +kernel
theorem d_A_fill_3 : decode prog_13_method_103_code 3 = .ok (.arraylength, 1) := by decide +kernel
theorem d_A_fill_4 : decode prog_13_method_103_code 4 = .ok (.istore_n 3, 1) := by decide +kernel
theorem d_A_fill_5 : decode prog_13_method_103_code 5 = .ok (.iload_n 2, 1) := by decide +kernel
theorem d_A_fill_6 : decode prog_13_method_103_code 6 = .ok (.iload_n 3, 1) := by decide +kernel
theorem d_A_fill_7 : decode prog_13_method_103_code 7 = .ok (.if_icmp .ge 13, 3) := by decide +kernel
theorem d_A_fill_10 : decode prog_13_method_103_code 10 = .ok (.aload_n 0, 1) := by decide +kernel
theorem d_A_fill_11 : decode prog_13_method_103_code 11 = .ok (.iload_n 2, 1) := by decide +kernel
theorem d_A_fill_12 : decode prog_13_method_103_code 12 = .ok (.iload_n 1, 1) := by decide +kernel
theorem d_A_fill_13 : decode prog_13_method_103_code 13 = .ok (.iastore, 1) := by decide +kernel
theorem d_A_fill_14 : decode prog_13_method_103_code 14 = .ok (.iinc 2 1, 3) := by decide +kernel
theorem d_A_fill_17 : decode prog_13_method_103_code 17 = .ok (.goto (-12), 3) := by decide +kernel
theorem d_A_fill_20 : decode prog_13_method_103_code 20 = .ok (.return_, 1) := by decide +kernel
theorem d_F_append_0 : decode prog_3_method_2_code 0 = .ok (.aload_n 0, 1) := by decide +kernel
theorem d_F_append_1 : decode prog_3_method_2_code 1 = .ok (.getfield 11, 3) := by decide +kernel
theorem d_F_append_4 : decode prog_3_method_2_code 4 = .ok (.aload_n 0, 1) := by decide +kernel
theorem d_F_append_5 : decode prog_3_method_2_code 5 = .ok (.getfield 18, 3) := by decide +kernel
theorem d_F_append_8 : decode prog_3_method_2_code 8 = .ok (.aaload, 1) := by decide +kernel
theorem d_F_append_9 : decode prog_3_method_2_code 9 = .ok (.astore 5, 2) := by decide +kernel
theorem d_F_append_11 : decode prog_3_method_2_code 11 = .ok (.aload_n 0, 1) := by decide +kernel
theorem d_F_append_12 : decode prog_3_method_2_code 12 = .ok (.dup, 1) := by decide +kernel
theorem d_F_append_13 : decode prog_3_method_2_code 13 = .ok (.getfield 18, 3) := by decide +kernel
theorem d_F_append_16 : decode prog_3_method_2_code 16 = .ok (.iconst 1, 1) := by decide +kernel
theorem d_F_append_17 : decode prog_3_method_2_code 17 = .ok (.iadd, 1) := by decide +kernel
theorem d_F_append_18 : decode prog_3_method_2_code 18 = .ok (.putfield 18, 3) := by decide +kernel
theorem d_F_append_21 : decode prog_3_method_2_code 21 = .ok (.aload 5, 2) := by decide +kernel
theorem d_F_append_23 : decode prog_3_method_2_code 23 = .ok (.iload_n 1, 1) := by decide +kernel
theorem d_F_append_24 : decode prog_3_method_2_code 24 = .ok (.putfield 22, 3) := by decide +kernel
theorem d_F_append_27 : decode prog_3_method_2_code 27 = .ok (.aload 5, 2) := by decide +kernel
theorem d_F_append_29 : decode prog_3_method_2_code 29 = .ok (.iload_n 2, 1) := by decide +kernel
theorem d_F_append_30 : decode prog_3_method_2_code 30 = .ok (.putfield 25, 3) := by decide +kernel
theorem d_F_append_33 : decode prog_3_method_2_code 33 = .ok (.aload 5, 2) := by decide +kernel
theorem d_F_append_35 : decode prog_3_method_2_code 35 = .ok (.iload_n 3, 1) := by decide +kernel
theorem d_F_append_36 : decode prog_3_method_2_code 36 = .ok (.putfield 28, 3) := by decide +kernel
theorem d_F_append_39 : decode prog_3_method_2_code 39 = .ok (.aload 5, 2) := by decide +kernel
theorem d_F_append_41 : decode prog_3_method_2_code 41 = .ok (.iload 4, 2) := by decide +kernel
theorem d_F_append_43 : decode prog_3_method_2_code 43 = .ok (.putfield 31, 3) := by decide +kernel
theorem d_F_append_46 : decode prog_3_method_2_code 46 = .ok (.aload 5, 2) := by decide +kernel
theorem d_F_append_48 : decode prog_3_method_2_code 48 = .ok (.iconst 0, 1) := by decide +kernel
theorem d_F_append_49 : decode prog_3_method_2_code 49 = .ok (.putfield 34, 3) := by decide +kernel
theorem d_F_append_52 : decode prog_3_method_2_code 52 = .ok (.aload 5, 2) := by decide +kernel
theorem d_F_append_54 : decode prog_3_method_2_code 54 = .ok (.getfield 37, 3) := by decide +kernel
theorem d_F_append_57 : decode prog_3_method_2_code 57 = .ok (.iconst 0, 1) := by decide +kernel
theorem d_F_append_58 : decode prog_3_method_2_code 58 = .ok (.invokestatic 41, 3) := by decide +kernel
theorem d_F_append_61 : decode prog_3_method_2_code 61 = .ok (.aload 5, 2) := by decide +kernel
theorem d_F_append_63 : decode prog_3_method_2_code 63 = .ok (.areturn, 1) := by decide +kernel
theorem d_L_datagram_0 : decode prog_1_method_3_code 0 = .ok (.aload_n 0, 1) := by decide +kernel
theorem d_L_datagram_1 : decode prog_1_method_3_code 1 = .ok (.getfield 26, 3) := by decide +kernel
theorem d_L_datagram_4 : decode prog_1_method_3_code 4 = .ok (.getfield 46, 3) := by decide +kernel
theorem d_L_datagram_7 : decode prog_1_method_3_code 7 = .ok (.iconst 3, 1) := by decide +kernel
theorem d_L_datagram_8 : decode prog_1_method_3_code 8 = .ok (.if_icmp .ge 10, 3) := by decide +kernel
theorem d_L_datagram_11 : decode prog_1_method_3_code 11 = .ok (.iload_n 1, 1) := by decide +kernel
theorem d_L_datagram_12 : decode prog_1_method_3_code 12 = .ok (.invokestatic 49, 3) := by decide +kernel
theorem d_L_datagram_15 : decode prog_1_method_3_code 15 = .ok (.ifCond .ne 5, 3) := by decide +kernel
theorem d_L_datagram_18 : decode prog_1_method_3_code 18 = .ok (.iconst (-1), 1) := by decide +kernel
theorem d_L_datagram_19 : decode prog_1_method_3_code 19 = .ok (.ireturn, 1) := by decide +kernel
theorem d_L_datagram_20 : decode prog_1_method_3_code 20 = .ok (.iload_n 2, 1) := by decide +kernel
theorem d_L_datagram_21 : decode prog_1_method_3_code 21 = .ok (.ifCond .lt 22, 3) := by decide +kernel
theorem d_L_datagram_24 : decode prog_1_method_3_code 24 = .ok (.iload_n 2, 1) := by decide +kernel
theorem d_L_datagram_25 : decode prog_1_method_3_code 25 = .ok (.ldc 53, 2) := by decide +kernel
theorem d_L_datagram_27 : decode prog_1_method_3_code 27 = .ok (.if_icmp .gt 16, 3) := by decide +kernel
theorem d_L_datagram_30 : decode prog_1_method_3_code 30 = .ok (.iload 4, 2) := by decide +kernel
theorem d_L_datagram_32 : decode prog_1_method_3_code 32 = .ok (.iconst 1, 1) := by decide +kernel
theorem d_L_datagram_33 : decode prog_1_method_3_code 33 = .ok (.if_icmp .lt 10, 3) := by decide +kernel
theorem d_L_datagram_36 : decode prog_1_method_3_code 36 = .ok (.iload 4, 2) := by decide +kernel
theorem d_L_datagram_38 : decode prog_1_method_3_code 38 = .ok (.bipush 8, 2) := by decide +kernel
theorem d_L_datagram_40 : decode prog_1_method_3_code 40 = .ok (.if_icmp .le 5, 3) := by decide +kernel
theorem d_L_datagram_43 : decode prog_1_method_3_code 43 = .ok (.iconst (-1), 1) := by decide +kernel
theorem d_L_datagram_44 : decode prog_1_method_3_code 44 = .ok (.ireturn, 1) := by decide +kernel
theorem d_L_datagram_45 : decode prog_1_method_3_code 45 = .ok (.iload_n 1, 1) := by decide +kernel
theorem d_L_datagram_46 : decode prog_1_method_3_code 46 = .ok (.bipush 10, 2) := by decide +kernel
theorem d_L_datagram_48 : decode prog_1_method_3_code 48 = .ok (.if_icmp .ge 16, 3) := by decide +kernel
theorem d_L_datagram_51 : decode prog_1_method_3_code 51 = .ok (.iload_n 3, 1) := by decide +kernel
theorem d_L_datagram_52 : decode prog_1_method_3_code 52 = .ok (.ifCond .lt 10, 3) := by decide +kernel
theorem d_L_datagram_55 : decode prog_1_method_3_code 55 = .ok (.iload_n 3, 1) := by decide +kernel
theorem d_L_datagram_56 : decode prog_1_method_3_code 56 = .ok (.sipush 128, 3) := by decide +kernel
theorem d_L_datagram_59 : decode prog_1_method_3_code 59 = .ok (.if_icmp .lt 5, 3) := by decide +kernel
theorem d_L_datagram_62 : decode prog_1_method_3_code 62 = .ok (.iconst (-1), 1) := by decide +kernel
theorem d_L_datagram_63 : decode prog_1_method_3_code 63 = .ok (.ireturn, 1) := by decide +kernel
theorem d_L_datagram_64 : decode prog_1_method_3_code 64 = .ok (.aload_n 0, 1) := by decide +kernel
theorem d_L_datagram_65 : decode prog_1_method_3_code 65 = .ok (.getfield 26, 3) := by decide +kernel
theorem d_L_datagram_68 : decode prog_1_method_3_code 68 = .ok (.iload_n 1, 1) := by decide +kernel
theorem d_L_datagram_69 : decode prog_1_method_3_code 69 = .ok (.iload_n 2, 1) := by decide +kernel
theorem d_L_datagram_70 : decode prog_1_method_3_code 70 = .ok (.iload_n 3, 1) := by decide +kernel
theorem d_L_datagram_71 : decode prog_1_method_3_code 71 = .ok (.iload 4, 2) := by decide +kernel
theorem d_L_datagram_73 : decode prog_1_method_3_code 73 = .ok (.invokevirtual 54, 3) := by decide +kernel
theorem d_L_datagram_76 : decode prog_1_method_3_code 76 = .ok (.pop, 1) := by decide +kernel
theorem d_L_datagram_77 : decode prog_1_method_3_code 77 = .ok (.aload_n 0, 1) := by decide +kernel
theorem d_L_datagram_78 : decode prog_1_method_3_code 78 = .ok (.getfield 26, 3) := by decide +kernel
theorem d_L_datagram_81 : decode prog_1_method_3_code 81 = .ok (.getfield 46, 3) := by decide +kernel
theorem d_L_datagram_84 : decode prog_1_method_3_code 84 = .ok (.iconst 1, 1) := by decide +kernel
theorem d_L_datagram_85 : decode prog_1_method_3_code 85 = .ok (.isub, 1) := by decide +kernel
theorem d_L_datagram_86 : decode prog_1_method_3_code 86 = .ok (.ireturn, 1) := by decide +kernel
theorem d_F_hasDatagram_0 : decode prog_3_method_3_code 0 = .ok (.iload_n 1, 1) := by decide +kernel
theorem d_F_hasDatagram_1 : decode prog_3_method_3_code 1 = .ok (.ifCond .lt 15, 3) := by decide +kernel
theorem d_F_hasDatagram_4 : decode prog_3_method_3_code 4 = .ok (.iload_n 1, 1) := by decide +kernel
theorem d_F_hasDatagram_5 : decode prog_3_method_3_code 5 = .ok (.aload_n 0, 1) := by decide +kernel
theorem d_F_hasDatagram_6 : decode prog_3_method_3_code 6 = .ok (.getfield 18, 3) := by decide +kernel
theorem d_F_hasDatagram_9 : decode prog_3_method_3_code 9 = .ok (.if_icmp .ge 7, 3) := by decide +kernel
theorem d_F_hasDatagram_12 : decode prog_3_method_3_code 12 = .ok (.iconst 1, 1) := by decide +kernel
theorem d_F_hasDatagram_13 : decode prog_3_method_3_code 13 = .ok (.goto 4, 3) := by decide +kernel
theorem d_F_hasDatagram_16 : decode prog_3_method_3_code 16 = .ok (.iconst 0, 1) := by decide +kernel
theorem d_F_hasDatagram_17 : decode prog_3_method_3_code 17 = .ok (.ireturn, 1) := by decide +kernel
theorem d_F_hasByte_0 : decode prog_3_method_5_code 0 = .ok (.aload_n 0, 1) := by decide +kernel
theorem d_F_hasByte_1 : decode prog_3_method_5_code 1 = .ok (.iload_n 1, 1) := by decide +kernel
theorem d_F_hasByte_2 : decode prog_3_method_5_code 2 = .ok (.invokevirtual 47, 3) := by decide +kernel
theorem d_F_hasByte_5 : decode prog_3_method_5_code 5 = .ok (.ifCond .eq 24, 3) := by decide +kernel
theorem d_F_hasByte_8 : decode prog_3_method_5_code 8 = .ok (.iload_n 2, 1) := by decide +kernel
theorem d_F_hasByte_9 : decode prog_3_method_5_code 9 = .ok (.ifCond .lt 20, 3) := by decide +kernel
theorem d_F_hasByte_12 : decode prog_3_method_5_code 12 = .ok (.iload_n 2, 1) := by decide +kernel
theorem d_F_hasByte_13 : decode prog_3_method_5_code 13 = .ok (.aload_n 0, 1) := by decide +kernel
theorem d_F_hasByte_14 : decode prog_3_method_5_code 14 = .ok (.getfield 11, 3) := by decide +kernel
theorem d_F_hasByte_17 : decode prog_3_method_5_code 17 = .ok (.iload_n 1, 1) := by decide +kernel
theorem d_F_hasByte_18 : decode prog_3_method_5_code 18 = .ok (.aaload, 1) := by decide +kernel
theorem d_F_hasByte_19 : decode prog_3_method_5_code 19 = .ok (.getfield 31, 3) := by decide +kernel
theorem d_F_hasByte_22 : decode prog_3_method_5_code 22 = .ok (.if_icmp .ge 7, 3) := by decide +kernel
theorem d_F_hasByte_25 : decode prog_3_method_5_code 25 = .ok (.iconst 1, 1) := by decide +kernel
theorem d_F_hasByte_26 : decode prog_3_method_5_code 26 = .ok (.goto 4, 3) := by decide +kernel
theorem d_F_hasByte_29 : decode prog_3_method_5_code 29 = .ok (.iconst 0, 1) := by decide +kernel
theorem d_F_hasByte_30 : decode prog_3_method_5_code 30 = .ok (.ireturn, 1) := by decide +kernel
theorem d_L_data_0 : decode prog_1_method_4_code 0 = .ok (.aload_n 0, 1) := by decide +kernel
theorem d_L_data_1 : decode prog_1_method_4_code 1 = .ok (.getfield 26, 3) := by decide +kernel
theorem d_L_data_4 : decode prog_1_method_4_code 4 = .ok (.iload_n 1, 1) := by decide +kernel
theorem d_L_data_5 : decode prog_1_method_4_code 5 = .ok (.iload_n 2, 1) := by decide +kernel
theorem d_L_data_6 : decode prog_1_method_4_code 6 = .ok (.invokevirtual 58, 3) := by decide +kernel
theorem d_L_data_9 : decode prog_1_method_4_code 9 = .ok (.ifCond .ne 5, 3) := by decide +kernel
theorem d_L_data_12 : decode prog_1_method_4_code 12 = .ok (.iconst 0, 1) := by decide +kernel
theorem d_L_data_13 : decode prog_1_method_4_code 13 = .ok (.ireturn, 1) := by decide +kernel
theorem d_L_data_14 : decode prog_1_method_4_code 14 = .ok (.aload_n 0, 1) := by decide +kernel
theorem d_L_data_15 : decode prog_1_method_4_code 15 = .ok (.getfield 26, 3) := by decide +kernel
theorem d_L_data_18 : decode prog_1_method_4_code 18 = .ok (.getfield 62, 3) := by decide +kernel
theorem d_L_data_21 : decode prog_1_method_4_code 21 = .ok (.iload_n 1, 1) := by decide +kernel
theorem d_L_data_22 : decode prog_1_method_4_code 22 = .ok (.aaload, 1) := by decide +kernel
theorem d_L_data_23 : decode prog_1_method_4_code 23 = .ok (.getfield 66, 3) := by decide +kernel
theorem d_L_data_26 : decode prog_1_method_4_code 26 = .ok (.iload_n 2, 1) := by decide +kernel
theorem d_L_data_27 : decode prog_1_method_4_code 27 = .ok (.iload_n 3, 1) := by decide +kernel
theorem d_L_data_28 : decode prog_1_method_4_code 28 = .ok (.sipush 255, 3) := by decide +kernel
theorem d_L_data_31 : decode prog_1_method_4_code 31 = .ok (.iand, 1) := by decide +kernel
theorem d_L_data_32 : decode prog_1_method_4_code 32 = .ok (.iastore, 1) := by decide +kernel
theorem d_L_data_33 : decode prog_1_method_4_code 33 = .ok (.iconst 1, 1) := by decide +kernel
theorem d_L_data_34 : decode prog_1_method_4_code 34 = .ok (.ireturn, 1) := by decide +kernel
theorem d_N_stationsBeforeBreak_0 : decode prog_5_method_4_code 0 = .ok (.iconst 0, 1) := by decide +kernel
theorem d_N_stationsBeforeBreak_1 : decode prog_5_method_4_code 1 = .ok (.istore_n 1, 1) := by decide +kernel
theorem d_N_stationsBeforeBreak_2 : decode prog_5_method_4_code 2 = .ok (.iload_n 1, 1) := by decide +kernel
theorem d_N_stationsBeforeBreak_3 : decode prog_5_method_4_code 3 = .ok (.aload_n 0, 1) := by decide +kernel
theorem d_N_stationsBeforeBreak_4 : decode prog_5_method_4_code 4 = .ok (.getfield 25, 3) := by decide +kernel
theorem d_N_stationsBeforeBreak_7 : decode prog_5_method_4_code 7 = .ok (.if_icmp .ge 20, 3) := by decide +kernel
theorem d_N_stationsBeforeBreak_10 : decode prog_5_method_4_code 10 = .ok (.aload_n 0, 1) := by decide +kernel
theorem d_N_stationsBeforeBreak_11 : decode prog_5_method_4_code 11 = .ok (.getfield 17, 3) := by decide +kernel
theorem d_N_stationsBeforeBreak_14 : decode prog_5_method_4_code 14 = .ok (.iload_n 1, 1) := by decide +kernel
theorem d_N_stationsBeforeBreak_15 : decode prog_5_method_4_code 15 = .ok (.baload, 1) := by decide +kernel
theorem d_N_stationsBeforeBreak_16 : decode prog_5_method_4_code 16 = .ok (.ifCond .eq 5, 3) := by decide +kernel
theorem d_N_stationsBeforeBreak_19 : decode prog_5_method_4_code 19 = .ok (.iload_n 1, 1) := by decide +kernel
theorem d_N_stationsBeforeBreak_20 : decode prog_5_method_4_code 20 = .ok (.ireturn, 1) := by decide +kernel
theorem d_N_stationsBeforeBreak_21 : decode prog_5_method_4_code 21 = .ok (.iinc 1 1, 3) := by decide +kernel
theorem d_N_stationsBeforeBreak_24 : decode prog_5_method_4_code 24 = .ok (.goto (-22), 3) := by decide +kernel
theorem d_N_stationsBeforeBreak_27 : decode prog_5_method_4_code 27 = .ok (.aload_n 0, 1) := by decide +kernel
theorem d_N_stationsBeforeBreak_28 : decode prog_5_method_4_code 28 = .ok (.getfield 25, 3) := by decide +kernel
theorem d_N_stationsBeforeBreak_31 : decode prog_5_method_4_code 31 = .ok (.ireturn, 1) := by decide +kernel
theorem d_E_modeOf_0 : decode prog_7_method_7_code 0 = .ok (.aload_n 0, 1) := by decide +kernel
theorem d_E_modeOf_1 : decode prog_7_method_7_code 1 = .ok (.getfield 9, 3) := by decide +kernel
theorem d_E_modeOf_4 : decode prog_7_method_7_code 4 = .ok (.bipush 32, 2) := by decide +kernel
theorem d_E_modeOf_6 : decode prog_7_method_7_code 6 = .ok (.iload_n 1, 1) := by decide +kernel
theorem d_E_modeOf_7 : decode prog_7_method_7_code 7 = .ok (.iconst 4, 1) := by decide +kernel
theorem d_E_modeOf_8 : decode prog_7_method_7_code 8 = .ok (.imul, 1) := by decide +kernel
theorem d_E_modeOf_9 : decode prog_7_method_7_code 9 = .ok (.iadd, 1) := by decide +kernel
theorem d_E_modeOf_10 : decode prog_7_method_7_code 10 = .ok (.iconst 2, 1) := by decide +kernel
theorem d_E_modeOf_11 : decode prog_7_method_7_code 11 = .ok (.iadd, 1) := by decide +kernel
theorem d_E_modeOf_12 : decode prog_7_method_7_code 12 = .ok (.iaload, 1) := by decide +kernel
theorem d_E_modeOf_13 : decode prog_7_method_7_code 13 = .ok (.ireturn, 1) := by decide +kernel
theorem d_E_startOf_0 : decode prog_7_method_5_code 0 = .ok (.aload_n 0, 1) := by decide +kernel
theorem d_E_startOf_1 : decode prog_7_method_5_code 1 = .ok (.getfield 9, 3) := by decide +kernel
theorem d_E_startOf_4 : decode prog_7_method_5_code 4 = .ok (.bipush 32, 2) := by decide +kernel
theorem d_E_startOf_6 : decode prog_7_method_5_code 6 = .ok (.iload_n 1, 1) := by decide +kernel
theorem d_E_startOf_7 : decode prog_7_method_5_code 7 = .ok (.iconst 4, 1) := by decide +kernel
theorem d_E_startOf_8 : decode prog_7_method_5_code 8 = .ok (.imul, 1) := by decide +kernel
theorem d_E_startOf_9 : decode prog_7_method_5_code 9 = .ok (.iadd, 1) := by decide +kernel
theorem d_E_startOf_10 : decode prog_7_method_5_code 10 = .ok (.iaload, 1) := by decide +kernel
theorem d_E_startOf_11 : decode prog_7_method_5_code 11 = .ok (.ireturn, 1) := by decide +kernel
theorem d_E_beforeReading_0 : decode prog_7_method_13_code 0 = .ok (.aload_n 0, 1) := by decide +kernel
theorem d_E_beforeReading_1 : decode prog_7_method_13_code 1 = .ok (.iload_n 2, 1) := by decide +kernel
theorem d_E_beforeReading_2 : decode prog_7_method_13_code 2 = .ok (.invokevirtual 40, 3) := by decide +kernel
theorem d_E_beforeReading_5 : decode prog_7_method_13_code 5 = .ok (.iconst 1, 1) := by decide +kernel
theorem d_E_beforeReading_6 : decode prog_7_method_13_code 6 = .ok (.if_icmp .ne 16, 3) := by decide +kernel
theorem d_E_beforeReading_9 : decode prog_7_method_13_code 9 = .ok (.aload_n 0, 1) := by decide +kernel
theorem d_E_beforeReading_10 : decode prog_7_method_13_code 10 = .ok (.getfield 9, 3) := by decide +kernel
theorem d_E_beforeReading_13 : decode prog_7_method_13_code 13 = .ok (.bipush 48, 2) := by decide +kernel
theorem d_E_beforeReading_15 : decode prog_7_method_13_code 15 = .ok (.iload_n 2, 1) := by decide +kernel
theorem d_E_beforeReading_16 : decode prog_7_method_13_code 16 = .ok (.iadd, 1) := by decide +kernel
theorem d_E_beforeReading_17 : decode prog_7_method_13_code 17 = .ok (.iconst 0, 1) := by decide +kernel
theorem d_E_beforeReading_18 : decode prog_7_method_13_code 18 = .ok (.iastore, 1) := by decide +kernel
theorem d_E_beforeReading_19 : decode prog_7_method_13_code 19 = .ok (.goto 39, 3) := by decide +kernel
theorem d_E_beforeReading_22 : decode prog_7_method_13_code 22 = .ok (.aload_n 0, 1) := by decide +kernel
theorem d_E_beforeReading_23 : decode prog_7_method_13_code 23 = .ok (.iload_n 2, 1) := by decide +kernel
theorem d_E_beforeReading_24 : decode prog_7_method_13_code 24 = .ok (.invokevirtual 40, 3) := by decide +kernel
theorem d_E_beforeReading_27 : decode prog_7_method_13_code 27 = .ok (.ifCond .ne 31, 3) := by decide +kernel
theorem d_E_beforeReading_30 : decode prog_7_method_13_code 30 = .ok (.iload_n 1, 1) := by decide +kernel
theorem d_E_beforeReading_31 : decode prog_7_method_13_code 31 = .ok (.aload_n 0, 1) := by decide +kernel
theorem d_E_beforeReading_32 : decode prog_7_method_13_code 32 = .ok (.iload_n 2, 1) := by decide +kernel
theorem d_E_beforeReading_33 : decode prog_7_method_13_code 33 = .ok (.invokevirtual 75, 3) := by decide +kernel
theorem d_E_beforeReading_36 : decode prog_7_method_13_code 36 = .ok (.if_icmp .ne 22, 3) := by decide +kernel
theorem d_E_beforeReading_39 : decode prog_7_method_13_code 39 = .ok (.aload_n 0, 1) := by decide +kernel
theorem d_E_beforeReading_40 : decode prog_7_method_13_code 40 = .ok (.getfield 20, 3) := by decide +kernel
theorem d_E_beforeReading_43 : decode prog_7_method_13_code 43 = .ok (.iload_n 2, 1) := by decide +kernel
theorem d_E_beforeReading_44 : decode prog_7_method_13_code 44 = .ok (.aaload, 1) := by decide +kernel
theorem d_E_beforeReading_45 : decode prog_7_method_13_code 45 = .ok (.iconst 0, 1) := by decide +kernel
theorem d_E_beforeReading_46 : decode prog_7_method_13_code 46 = .ok (.aload_n 0, 1) := by decide +kernel
theorem d_E_beforeReading_47 : decode prog_7_method_13_code 47 = .ok (.getfield 17, 3) := by decide +kernel
theorem d_E_beforeReading_50 : decode prog_7_method_13_code 50 = .ok (.iload_n 2, 1) := by decide +kernel
theorem d_E_beforeReading_51 : decode prog_7_method_13_code 51 = .ok (.aaload, 1) := by decide +kernel
theorem d_E_beforeReading_52 : decode prog_7_method_13_code 52 = .ok (.iconst 0, 1) := by decide +kernel
theorem d_E_beforeReading_53 : decode prog_7_method_13_code 53 = .ok (.bipush 8, 2) := by decide +kernel
theorem d_E_beforeReading_55 : decode prog_7_method_13_code 55 = .ok (.invokestatic 90, 3) := by decide +kernel
theorem d_E_beforeReading_58 : decode prog_7_method_13_code 58 = .ok (.return_, 1) := by decide +kernel
theorem d_E_isOpen_0 : decode prog_7_method_2_code 0 = .ok (.bipush 32, 2) := by decide +kernel
theorem d_E_isOpen_2 : decode prog_7_method_2_code 2 = .ok (.iload_n 1, 1) := by decide +kernel
theorem d_E_isOpen_3 : decode prog_7_method_2_code 3 = .ok (.iconst 4, 1) := by decide +kernel
theorem d_E_isOpen_4 : decode prog_7_method_2_code 4 = .ok (.imul, 1) := by decide +kernel
theorem d_E_isOpen_5 : decode prog_7_method_2_code 5 = .ok (.iadd, 1) := by decide +kernel
theorem d_E_isOpen_6 : decode prog_7_method_2_code 6 = .ok (.istore_n 2, 1) := by decide +kernel
theorem d_E_isOpen_7 : decode prog_7_method_2_code 7 = .ok (.aload_n 0, 1) := by decide +kernel
theorem d_E_isOpen_8 : decode prog_7_method_2_code 8 = .ok (.getfield 9, 3) := by decide +kernel
theorem d_E_isOpen_11 : decode prog_7_method_2_code 11 = .ok (.iload_n 2, 1) := by decide +kernel
theorem d_E_isOpen_12 : decode prog_7_method_2_code 12 = .ok (.iaload, 1) := by decide +kernel
theorem d_E_isOpen_13 : decode prog_7_method_2_code 13 = .ok (.istore_n 3, 1) := by decide +kernel
theorem d_E_isOpen_14 : decode prog_7_method_2_code 14 = .ok (.aload_n 0, 1) := by decide +kernel
theorem d_E_isOpen_15 : decode prog_7_method_2_code 15 = .ok (.getfield 9, 3) := by decide +kernel
theorem d_E_isOpen_18 : decode prog_7_method_2_code 18 = .ok (.iload_n 2, 1) := by decide +kernel
theorem d_E_isOpen_19 : decode prog_7_method_2_code 19 = .ok (.iconst 1, 1) := by decide +kernel
theorem d_E_isOpen_20 : decode prog_7_method_2_code 20 = .ok (.iadd, 1) := by decide +kernel
theorem d_E_isOpen_21 : decode prog_7_method_2_code 21 = .ok (.iaload, 1) := by decide +kernel
theorem d_E_isOpen_22 : decode prog_7_method_2_code 22 = .ok (.istore 4, 2) := by decide +kernel
theorem d_E_isOpen_24 : decode prog_7_method_2_code 24 = .ok (.aload_n 0, 1) := by decide +kernel
theorem d_E_isOpen_25 : decode prog_7_method_2_code 25 = .ok (.getfield 9, 3) := by decide +kernel
theorem d_E_isOpen_28 : decode prog_7_method_2_code 28 = .ok (.iload_n 2, 1) := by decide +kernel
theorem d_E_isOpen_29 : decode prog_7_method_2_code 29 = .ok (.iconst 3, 1) := by decide +kernel
theorem d_E_isOpen_30 : decode prog_7_method_2_code 30 = .ok (.iadd, 1) := by decide +kernel
theorem d_E_isOpen_31 : decode prog_7_method_2_code 31 = .ok (.iaload, 1) := by decide +kernel
theorem d_E_isOpen_32 : decode prog_7_method_2_code 32 = .ok (.iconst 1, 1) := by decide +kernel
theorem d_E_isOpen_33 : decode prog_7_method_2_code 33 = .ok (.if_icmp .ne 36, 3) := by decide +kernel
theorem d_E_isOpen_36 : decode prog_7_method_2_code 36 = .ok (.iload_n 3, 1) := by decide +kernel
theorem d_E_isOpen_37 : decode prog_7_method_2_code 37 = .ok (.bipush 64, 2) := by decide +kernel
theorem d_E_isOpen_39 : decode prog_7_method_2_code 39 = .ok (.if_icmp .lt 30, 3) := by decide +kernel
theorem d_E_isOpen_42 : decode prog_7_method_2_code 42 = .ok (.iload 4, 2) := by decide +kernel
theorem d_E_isOpen_44 : decode prog_7_method_2_code 44 = .ok (.iconst 1, 1) := by decide +kernel
theorem d_E_isOpen_45 : decode prog_7_method_2_code 45 = .ok (.if_icmp .lt 24, 3) := by decide +kernel
theorem d_E_isOpen_48 : decode prog_7_method_2_code 48 = .ok (.iload 4, 2) := by decide +kernel
theorem d_E_isOpen_50 : decode prog_7_method_2_code 50 = .ok (.bipush 8, 2) := by decide +kernel
theorem d_E_isOpen_52 : decode prog_7_method_2_code 52 = .ok (.if_icmp .gt 17, 3) := by decide +kernel
theorem d_E_isOpen_55 : decode prog_7_method_2_code 55 = .ok (.iload_n 3, 1) := by decide +kernel
theorem d_E_isOpen_56 : decode prog_7_method_2_code 56 = .ok (.iload 4, 2) := by decide +kernel
theorem d_E_isOpen_58 : decode prog_7_method_2_code 58 = .ok (.iadd, 1) := by decide +kernel
theorem d_E_isOpen_59 : decode prog_7_method_2_code 59 = .ok (.sipush 128, 3) := by decide +kernel
theorem d_E_isOpen_62 : decode prog_7_method_2_code 62 = .ok (.if_icmp .gt 7, 3) := by decide +kernel
theorem d_E_isOpen_65 : decode prog_7_method_2_code 65 = .ok (.iconst 1, 1) := by decide +kernel
theorem d_E_isOpen_66 : decode prog_7_method_2_code 66 = .ok (.goto 4, 3) := by decide +kernel
theorem d_E_isOpen_69 : decode prog_7_method_2_code 69 = .ok (.iconst 0, 1) := by decide +kernel
theorem d_E_isOpen_70 : decode prog_7_method_2_code 70 = .ok (.ireturn, 1) := by decide +kernel
theorem d_E_lengthOf_0 : decode prog_7_method_6_code 0 = .ok (.aload_n 0, 1) := by decide +kernel
theorem d_E_lengthOf_1 : decode prog_7_method_6_code 1 = .ok (.getfield 9, 3) := by decide +kernel
theorem d_E_lengthOf_4 : decode prog_7_method_6_code 4 = .ok (.bipush 32, 2) := by decide +kernel
theorem d_E_lengthOf_6 : decode prog_7_method_6_code 6 = .ok (.iload_n 1, 1) := by decide +kernel
theorem d_E_lengthOf_7 : decode prog_7_method_6_code 7 = .ok (.iconst 4, 1) := by decide +kernel
theorem d_E_lengthOf_8 : decode prog_7_method_6_code 8 = .ok (.imul, 1) := by decide +kernel
theorem d_E_lengthOf_9 : decode prog_7_method_6_code 9 = .ok (.iadd, 1) := by decide +kernel
theorem d_E_lengthOf_10 : decode prog_7_method_6_code 10 = .ok (.iconst 1, 1) := by decide +kernel
theorem d_E_lengthOf_11 : decode prog_7_method_6_code 11 = .ok (.iadd, 1) := by decide +kernel
theorem d_E_lengthOf_12 : decode prog_7_method_6_code 12 = .ok (.iaload, 1) := by decide +kernel
theorem d_E_lengthOf_13 : decode prog_7_method_6_code 13 = .ok (.ireturn, 1) := by decide +kernel
theorem d_E_findOwners_0 : decode prog_7_method_10_code 0 = .ok (.aload_n 0, 1) := by decide +kernel
theorem d_E_findOwners_1 : decode prog_7_method_10_code 1 = .ok (.getfield 33, 3) := by decide +kernel
theorem d_E_findOwners_4 : decode prog_7_method_10_code 4 = .ok (.iconst (-1), 1) := by decide +kernel
theorem d_E_findOwners_5 : decode prog_7_method_10_code 5 = .ok (.invokestatic 69, 3) := by decide +kernel
theorem d_E_findOwners_8 : decode prog_7_method_10_code 8 = .ok (.iconst 3, 1) := by decide +kernel
theorem d_E_findOwners_9 : decode prog_7_method_10_code 9 = .ok (.istore_n 3, 1) := by decide +kernel
theorem d_E_findOwners_10 : decode prog_7_method_10_code 10 = .ok (.iload_n 3, 1) := by decide +kernel
theorem d_E_findOwners_11 : decode prog_7_method_10_code 11 = .ok (.ifCond .lt 70, 3) := by decide +kernel
theorem d_E_findOwners_14 : decode prog_7_method_10_code 14 = .ok (.aload_n 0, 1) := by decide +kernel
theorem d_E_findOwners_15 : decode prog_7_method_10_code 15 = .ok (.iload_n 3, 1) := by decide +kernel
theorem d_E_findOwners_16 : decode prog_7_method_10_code 16 = .ok (.invokevirtual 36, 3) := by decide +kernel
theorem d_E_findOwners_19 : decode prog_7_method_10_code 19 = .ok (.ifCond .eq 56, 3) := by decide +kernel
theorem d_E_findOwners_22 : decode prog_7_method_10_code 22 = .ok (.iload_n 2, 1) := by decide +kernel
theorem d_E_findOwners_23 : decode prog_7_method_10_code 23 = .ok (.aload_n 0, 1) := by decide +kernel
theorem d_E_findOwners_24 : decode prog_7_method_10_code 24 = .ok (.iload_n 3, 1) := by decide +kernel
theorem d_E_findOwners_25 : decode prog_7_method_10_code 25 = .ok (.invokevirtual 75, 3) := by decide +kernel
theorem d_E_findOwners_28 : decode prog_7_method_10_code 28 = .ok (.aload_n 0, 1) := by decide +kernel
theorem d_E_findOwners_29 : decode prog_7_method_10_code 29 = .ok (.iload_n 3, 1) := by decide +kernel
theorem d_E_findOwners_30 : decode prog_7_method_10_code 30 = .ok (.invokevirtual 44, 3) := by decide +kernel
theorem d_E_findOwners_33 : decode prog_7_method_10_code 33 = .ok (.iadd, 1) := by decide +kernel
theorem d_E_findOwners_34 : decode prog_7_method_10_code 34 = .ok (.iconst 1, 1) := by decide +kernel
theorem d_E_findOwners_35 : decode prog_7_method_10_code 35 = .ok (.isub, 1) := by decide +kernel
theorem d_E_findOwners_36 : decode prog_7_method_10_code 36 = .ok (.invokestatic 78, 3) := by decide +kernel
theorem d_E_findOwners_39 : decode prog_7_method_10_code 39 = .ok (.istore 4, 2) := by decide +kernel
theorem d_E_findOwners_41 : decode prog_7_method_10_code 41 = .ok (.iload_n 1, 1) := by decide +kernel
theorem d_E_findOwners_42 : decode prog_7_method_10_code 42 = .ok (.aload_n 0, 1) := by decide +kernel
theorem d_E_findOwners_43 : decode prog_7_method_10_code 43 = .ok (.iload_n 3, 1) := by decide +kernel
theorem d_E_findOwners_44 : decode prog_7_method_10_code 44 = .ok (.invokevirtual 75, 3) := by decide +kernel
theorem d_E_findOwners_47 : decode prog_7_method_10_code 47 = .ok (.invokestatic 83, 3) := by decide +kernel
theorem d_E_findOwners_50 : decode prog_7_method_10_code 50 = .ok (.istore 5, 2) := by decide +kernel
theorem d_E_findOwners_52 : decode prog_7_method_10_code 52 = .ok (.iload 5, 2) := by decide +kernel
theorem d_E_findOwners_54 : decode prog_7_method_10_code 54 = .ok (.iload 4, 2) := by decide +kernel
theorem d_E_findOwners_56 : decode prog_7_method_10_code 56 = .ok (.if_icmp .gt 19, 3) := by decide +kernel
theorem d_E_findOwners_59 : decode prog_7_method_10_code 59 = .ok (.aload_n 0, 1) := by decide +kernel
theorem d_E_findOwners_60 : decode prog_7_method_10_code 60 = .ok (.getfield 33, 3) := by decide +kernel
theorem d_E_findOwners_63 : decode prog_7_method_10_code 63 = .ok (.iload 5, 2) := by decide +kernel
theorem d_E_findOwners_65 : decode prog_7_method_10_code 65 = .ok (.iload_n 1, 1) := by decide +kernel
theorem d_E_findOwners_66 : decode prog_7_method_10_code 66 = .ok (.isub, 1) := by decide +kernel
theorem d_E_findOwners_67 : decode prog_7_method_10_code 67 = .ok (.iload_n 3, 1) := by decide +kernel
theorem d_E_findOwners_68 : decode prog_7_method_10_code 68 = .ok (.iastore, 1) := by decide +kernel
theorem d_E_findOwners_69 : decode prog_7_method_10_code 69 = .ok (.iinc 5 1, 3) := by decide +kernel
theorem d_E_findOwners_72 : decode prog_7_method_10_code 72 = .ok (.goto (-20), 3) := by decide +kernel
theorem d_E_findOwners_75 : decode prog_7_method_10_code 75 = .ok (.iinc 3 (-1), 3) := by decide +kernel
theorem d_E_findOwners_78 : decode prog_7_method_10_code 78 = .ok (.goto (-68), 3) := by decide +kernel
theorem d_E_findOwners_81 : decode prog_7_method_10_code 81 = .ok (.return_, 1) := by decide +kernel
theorem d_E_heldByte_0 : decode prog_7_method_14_code 0 = .ok (.iload_n 2, 1) := by decide +kernel
theorem d_E_heldByte_1 : decode prog_7_method_14_code 1 = .ok (.ifCond .ge 10, 3) := by decide +kernel
theorem d_E_heldByte_4 : decode prog_7_method_14_code 4 = .ok (.aload_n 0, 1) := by decide +kernel
theorem d_E_heldByte_5 : decode prog_7_method_14_code 5 = .ok (.getfield 9, 3) := by decide +kernel
theorem d_E_heldByte_8 : decode prog_7_method_14_code 8 = .ok (.iload_n 1, 1) := by decide +kernel
theorem d_E_heldByte_9 : decode prog_7_method_14_code 9 = .ok (.iaload, 1) := by decide +kernel
theorem d_E_heldByte_10 : decode prog_7_method_14_code 10 = .ok (.ireturn, 1) := by decide +kernel
theorem d_E_heldByte_11 : decode prog_7_method_14_code 11 = .ok (.iload_n 1, 1) := by decide +kernel
theorem d_E_heldByte_12 : decode prog_7_method_14_code 12 = .ok (.aload_n 0, 1) := by decide +kernel
theorem d_E_heldByte_13 : decode prog_7_method_14_code 13 = .ok (.iload_n 2, 1) := by decide +kernel
theorem d_E_heldByte_14 : decode prog_7_method_14_code 14 = .ok (.invokevirtual 75, 3) := by decide +kernel
theorem d_E_heldByte_17 : decode prog_7_method_14_code 17 = .ok (.isub, 1) := by decide +kernel
theorem d_E_heldByte_18 : decode prog_7_method_14_code 18 = .ok (.istore_n 3, 1) := by decide +kernel
theorem d_E_heldByte_19 : decode prog_7_method_14_code 19 = .ok (.aload_n 0, 1) := by decide +kernel
theorem d_E_heldByte_20 : decode prog_7_method_14_code 20 = .ok (.iload_n 2, 1) := by decide +kernel
theorem d_E_heldByte_21 : decode prog_7_method_14_code 21 = .ok (.invokevirtual 40, 3) := by decide +kernel
theorem d_E_heldByte_24 : decode prog_7_method_14_code 24 = .ok (.iconst 3, 1) := by decide +kernel
theorem d_E_heldByte_25 : decode prog_7_method_14_code 25 = .ok (.if_icmp .eq 12, 3) := by decide +kernel
theorem d_E_heldByte_28 : decode prog_7_method_14_code 28 = .ok (.aload_n 0, 1) := by decide +kernel
theorem d_E_heldByte_29 : decode prog_7_method_14_code 29 = .ok (.iload_n 2, 1) := by decide +kernel
theorem d_E_heldByte_30 : decode prog_7_method_14_code 30 = .ok (.invokevirtual 40, 3) := by decide +kernel
theorem d_E_heldByte_33 : decode prog_7_method_14_code 33 = .ok (.iconst 1, 1) := by decide +kernel
theorem d_E_heldByte_34 : decode prog_7_method_14_code 34 = .ok (.if_icmp .ne 7, 3) := by decide +kernel
theorem d_E_heldByte_37 : decode prog_7_method_14_code 37 = .ok (.iconst 1, 1) := by decide +kernel
theorem d_E_heldByte_38 : decode prog_7_method_14_code 38 = .ok (.goto 4, 3) := by decide +kernel
theorem d_E_heldByte_41 : decode prog_7_method_14_code 41 = .ok (.iconst 0, 1) := by decide +kernel
theorem d_E_heldByte_42 : decode prog_7_method_14_code 42 = .ok (.istore 4, 2) := by decide +kernel
theorem d_E_heldByte_44 : decode prog_7_method_14_code 44 = .ok (.iload 4, 2) := by decide +kernel
theorem d_E_heldByte_46 : decode prog_7_method_14_code 46 = .ok (.ifCond .eq 14, 3) := by decide +kernel
theorem d_E_heldByte_49 : decode prog_7_method_14_code 49 = .ok (.aload_n 0, 1) := by decide +kernel
theorem d_E_heldByte_50 : decode prog_7_method_14_code 50 = .ok (.getfield 20, 3) := by decide +kernel
theorem d_E_heldByte_53 : decode prog_7_method_14_code 53 = .ok (.iload_n 2, 1) := by decide +kernel
theorem d_E_heldByte_54 : decode prog_7_method_14_code 54 = .ok (.aaload, 1) := by decide +kernel
theorem d_E_heldByte_55 : decode prog_7_method_14_code 55 = .ok (.iload_n 3, 1) := by decide +kernel
theorem d_E_heldByte_56 : decode prog_7_method_14_code 56 = .ok (.iaload, 1) := by decide +kernel
theorem d_E_heldByte_57 : decode prog_7_method_14_code 57 = .ok (.goto 11, 3) := by decide +kernel
theorem d_E_heldByte_60 : decode prog_7_method_14_code 60 = .ok (.aload_n 0, 1) := by decide +kernel
theorem d_E_heldByte_61 : decode prog_7_method_14_code 61 = .ok (.getfield 17, 3) := by decide +kernel
theorem d_E_heldByte_64 : decode prog_7_method_14_code 64 = .ok (.iload_n 2, 1) := by decide +kernel
theorem d_E_heldByte_65 : decode prog_7_method_14_code 65 = .ok (.aaload, 1) := by decide +kernel
theorem d_E_heldByte_66 : decode prog_7_method_14_code 66 = .ok (.iload_n 3, 1) := by decide +kernel
theorem d_E_heldByte_67 : decode prog_7_method_14_code 67 = .ok (.iaload, 1) := by decide +kernel
theorem d_E_heldByte_68 : decode prog_7_method_14_code 68 = .ok (.ireturn, 1) := by decide +kernel
theorem d_E_allows_0 : decode prog_7_method_12_code 0 = .ok (.bipush 32, 2) := by decide +kernel
theorem d_E_allows_2 : decode prog_7_method_12_code 2 = .ok (.iload_n 1, 1) := by decide +kernel
theorem d_E_allows_3 : decode prog_7_method_12_code 3 = .ok (.iconst 4, 1) := by decide +kernel
theorem d_E_allows_4 : decode prog_7_method_12_code 4 = .ok (.imul, 1) := by decide +kernel
theorem d_E_allows_5 : decode prog_7_method_12_code 5 = .ok (.iadd, 1) := by decide +kernel
theorem d_E_allows_6 : decode prog_7_method_12_code 6 = .ok (.istore 5, 2) := by decide +kernel
theorem d_E_allows_8 : decode prog_7_method_12_code 8 = .ok (.iload_n 2, 1) := by decide +kernel
theorem d_E_allows_9 : decode prog_7_method_12_code 9 = .ok (.aload_n 0, 1) := by decide +kernel
theorem d_E_allows_10 : decode prog_7_method_12_code 10 = .ok (.getfield 9, 3) := by decide +kernel
theorem d_E_allows_13 : decode prog_7_method_12_code 13 = .ok (.iload 5, 2) := by decide +kernel
theorem d_E_allows_15 : decode prog_7_method_12_code 15 = .ok (.iaload, 1) := by decide +kernel
theorem d_E_allows_16 : decode prog_7_method_12_code 16 = .ok (.if_icmp .gt 30, 3) := by decide +kernel
theorem d_E_allows_19 : decode prog_7_method_12_code 19 = .ok (.iload_n 3, 1) := by decide +kernel
theorem d_E_allows_20 : decode prog_7_method_12_code 20 = .ok (.aload_n 0, 1) := by decide +kernel
theorem d_E_allows_21 : decode prog_7_method_12_code 21 = .ok (.getfield 9, 3) := by decide +kernel
theorem d_E_allows_24 : decode prog_7_method_12_code 24 = .ok (.iload 5, 2) := by decide +kernel
theorem d_E_allows_26 : decode prog_7_method_12_code 26 = .ok (.iaload, 1) := by decide +kernel
theorem d_E_allows_27 : decode prog_7_method_12_code 27 = .ok (.aload_n 0, 1) := by decide +kernel
theorem d_E_allows_28 : decode prog_7_method_12_code 28 = .ok (.getfield 9, 3) := by decide +kernel
theorem d_E_allows_31 : decode prog_7_method_12_code 31 = .ok (.iload 5, 2) := by decide +kernel
theorem d_E_allows_33 : decode prog_7_method_12_code 33 = .ok (.iconst 1, 1) := by decide +kernel
theorem d_E_allows_34 : decode prog_7_method_12_code 34 = .ok (.iadd, 1) := by decide +kernel
theorem d_E_allows_35 : decode prog_7_method_12_code 35 = .ok (.iaload, 1) := by decide +kernel
theorem d_E_allows_36 : decode prog_7_method_12_code 36 = .ok (.iadd, 1) := by decide +kernel
theorem d_E_allows_37 : decode prog_7_method_12_code 37 = .ok (.iconst 1, 1) := by decide +kernel
theorem d_E_allows_38 : decode prog_7_method_12_code 38 = .ok (.isub, 1) := by decide +kernel
theorem d_E_allows_39 : decode prog_7_method_12_code 39 = .ok (.if_icmp .lt 7, 3) := by decide +kernel
theorem d_E_allows_42 : decode prog_7_method_12_code 42 = .ok (.iconst 1, 1) := by decide +kernel
theorem d_E_allows_43 : decode prog_7_method_12_code 43 = .ok (.goto 4, 3) := by decide +kernel
theorem d_E_allows_46 : decode prog_7_method_12_code 46 = .ok (.iconst 0, 1) := by decide +kernel
theorem d_E_allows_47 : decode prog_7_method_12_code 47 = .ok (.istore 6, 2) := by decide +kernel
theorem d_E_allows_49 : decode prog_7_method_12_code 49 = .ok (.aload_n 0, 1) := by decide +kernel
theorem d_E_allows_50 : decode prog_7_method_12_code 50 = .ok (.getfield 9, 3) := by decide +kernel
theorem d_E_allows_53 : decode prog_7_method_12_code 53 = .ok (.iload 5, 2) := by decide +kernel
theorem d_E_allows_55 : decode prog_7_method_12_code 55 = .ok (.iconst 2, 1) := by decide +kernel
theorem d_E_allows_56 : decode prog_7_method_12_code 56 = .ok (.iadd, 1) := by decide +kernel
theorem d_E_allows_57 : decode prog_7_method_12_code 57 = .ok (.iaload, 1) := by decide +kernel
theorem d_E_allows_58 : decode prog_7_method_12_code 58 = .ok (.tableswitch 110 0 3 #[30, 50, 79, 82], 30) := by decide +kernel
theorem d_E_allows_88 : decode prog_7_method_12_code 88 = .ok (.iload 4, 2) := by decide +kernel
theorem d_E_allows_90 : decode prog_7_method_12_code 90 = .ok (.ifCond .ne 16, 3) := by decide +kernel
theorem d_E_allows_93 : decode prog_7_method_12_code 93 = .ok (.aload_n 0, 1) := by decide +kernel
theorem d_E_allows_94 : decode prog_7_method_12_code 94 = .ok (.getfield 23, 3) := by decide +kernel
theorem d_E_allows_97 : decode prog_7_method_12_code 97 = .ok (.iload_n 1, 1) := by decide +kernel
theorem d_E_allows_98 : decode prog_7_method_12_code 98 = .ok (.baload, 1) := by decide +kernel
theorem d_E_allows_99 : decode prog_7_method_12_code 99 = .ok (.ifCond .eq 7, 3) := by decide +kernel
theorem d_E_allows_102 : decode prog_7_method_12_code 102 = .ok (.iconst 1, 1) := by decide +kernel
theorem d_E_allows_103 : decode prog_7_method_12_code 103 = .ok (.goto 4, 3) := by decide +kernel
theorem d_E_allows_106 : decode prog_7_method_12_code 106 = .ok (.iconst 0, 1) := by decide +kernel
theorem d_E_allows_107 : decode prog_7_method_12_code 107 = .ok (.ireturn, 1) := by decide +kernel
theorem d_E_allows_108 : decode prog_7_method_12_code 108 = .ok (.iload 4, 2) := by decide +kernel
theorem d_E_allows_110 : decode prog_7_method_12_code 110 = .ok (.ifCond .ne 25, 3) := by decide +kernel
theorem d_E_allows_113 : decode prog_7_method_12_code 113 = .ok (.iload 6, 2) := by decide +kernel
theorem d_E_allows_115 : decode prog_7_method_12_code 115 = .ok (.ifCond .eq 20, 3) := by decide +kernel
theorem d_E_allows_118 : decode prog_7_method_12_code 118 = .ok (.aload_n 0, 1) := by decide +kernel
theorem d_E_allows_119 : decode prog_7_method_12_code 119 = .ok (.getfield 9, 3) := by decide +kernel
theorem d_E_allows_122 : decode prog_7_method_12_code 122 = .ok (.bipush 48, 2) := by decide +kernel
theorem d_E_allows_124 : decode prog_7_method_12_code 124 = .ok (.iload_n 1, 1) := by decide +kernel
theorem d_E_allows_125 : decode prog_7_method_12_code 125 = .ok (.iadd, 1) := by decide +kernel
theorem d_E_allows_126 : decode prog_7_method_12_code 126 = .ok (.iaload, 1) := by decide +kernel
theorem d_E_allows_127 : decode prog_7_method_12_code 127 = .ok (.iconst 1, 1) := by decide +kernel
theorem d_E_allows_128 : decode prog_7_method_12_code 128 = .ok (.if_icmp .ne 7, 3) := by decide +kernel
theorem d_E_allows_131 : decode prog_7_method_12_code 131 = .ok (.iconst 1, 1) := by decide +kernel
theorem d_E_allows_132 : decode prog_7_method_12_code 132 = .ok (.goto 4, 3) := by decide +kernel
theorem d_E_allows_135 : decode prog_7_method_12_code 135 = .ok (.iconst 0, 1) := by decide +kernel
theorem d_E_allows_136 : decode prog_7_method_12_code 136 = .ok (.ireturn, 1) := by decide +kernel
theorem d_E_allows_137 : decode prog_7_method_12_code 137 = .ok (.iload 4, 2) := by decide +kernel
theorem d_E_allows_139 : decode prog_7_method_12_code 139 = .ok (.ireturn, 1) := by decide +kernel
theorem d_E_allows_140 : decode prog_7_method_12_code 140 = .ok (.iload 4, 2) := by decide +kernel
theorem d_E_allows_142 : decode prog_7_method_12_code 142 = .ok (.ifCond .eq 24, 3) := by decide +kernel
theorem d_E_allows_145 : decode prog_7_method_12_code 145 = .ok (.iload 6, 2) := by decide +kernel
theorem d_E_allows_147 : decode prog_7_method_12_code 147 = .ok (.ifCond .eq 19, 3) := by decide +kernel
theorem d_E_allows_150 : decode prog_7_method_12_code 150 = .ok (.aload_n 0, 1) := by decide +kernel
theorem d_E_allows_151 : decode prog_7_method_12_code 151 = .ok (.getfield 9, 3) := by decide +kernel
theorem d_E_allows_154 : decode prog_7_method_12_code 154 = .ok (.bipush 48, 2) := by decide +kernel
theorem d_E_allows_156 : decode prog_7_method_12_code 156 = .ok (.iload_n 1, 1) := by decide +kernel
theorem d_E_allows_157 : decode prog_7_method_12_code 157 = .ok (.iadd, 1) := by decide +kernel
theorem d_E_allows_158 : decode prog_7_method_12_code 158 = .ok (.iaload, 1) := by decide +kernel
theorem d_E_allows_159 : decode prog_7_method_12_code 159 = .ok (.ifCond .ne 7, 3) := by decide +kernel
theorem d_E_allows_162 : decode prog_7_method_12_code 162 = .ok (.iconst 1, 1) := by decide +kernel
theorem d_E_allows_163 : decode prog_7_method_12_code 163 = .ok (.goto 4, 3) := by decide +kernel
theorem d_E_allows_166 : decode prog_7_method_12_code 166 = .ok (.iconst 0, 1) := by decide +kernel
theorem d_E_allows_167 : decode prog_7_method_12_code 167 = .ok (.ireturn, 1) := by decide +kernel
theorem d_E_allows_168 : decode prog_7_method_12_code 168 = .ok (.iconst 0, 1) := by decide +kernel
theorem d_E_allows_169 : decode prog_7_method_12_code 169 = .ok (.ireturn, 1) := by decide +kernel
theorem d_E_isAllowed_0 : decode prog_7_method_11_code 0 = .ok (.iload_n 1, 1) := by decide +kernel
theorem d_E_isAllowed_1 : decode prog_7_method_11_code 1 = .ok (.istore 4, 2) := by decide +kernel
theorem d_E_isAllowed_3 : decode prog_7_method_11_code 3 = .ok (.iload 4, 2) := by decide +kernel
theorem d_E_isAllowed_5 : decode prog_7_method_11_code 5 = .ok (.iload_n 2, 1) := by decide +kernel
theorem d_E_isAllowed_6 : decode prog_7_method_11_code 6 = .ok (.if_icmp .gt 39, 3) := by decide +kernel
theorem d_E_isAllowed_9 : decode prog_7_method_11_code 9 = .ok (.aload_n 0, 1) := by decide +kernel
theorem d_E_isAllowed_10 : decode prog_7_method_11_code 10 = .ok (.getfield 33, 3) := by decide +kernel
theorem d_E_isAllowed_13 : decode prog_7_method_11_code 13 = .ok (.iload 4, 2) := by decide +kernel
theorem d_E_isAllowed_15 : decode prog_7_method_11_code 15 = .ok (.iload_n 1, 1) := by decide +kernel
theorem d_E_isAllowed_16 : decode prog_7_method_11_code 16 = .ok (.isub, 1) := by decide +kernel
theorem d_E_isAllowed_17 : decode prog_7_method_11_code 17 = .ok (.iaload, 1) := by decide +kernel
theorem d_E_isAllowed_18 : decode prog_7_method_11_code 18 = .ok (.istore 5, 2) := by decide +kernel
theorem d_E_isAllowed_20 : decode prog_7_method_11_code 20 = .ok (.iload 5, 2) := by decide +kernel
theorem d_E_isAllowed_22 : decode prog_7_method_11_code 22 = .ok (.ifCond .lt 17, 3) := by decide +kernel
theorem d_E_isAllowed_25 : decode prog_7_method_11_code 25 = .ok (.aload_n 0, 1) := by decide +kernel
theorem d_E_isAllowed_26 : decode prog_7_method_11_code 26 = .ok (.iload 5, 2) := by decide +kernel
theorem d_E_isAllowed_28 : decode prog_7_method_11_code 28 = .ok (.iload_n 1, 1) := by decide +kernel
theorem d_E_isAllowed_29 : decode prog_7_method_11_code 29 = .ok (.iload_n 2, 1) := by decide +kernel
theorem d_E_isAllowed_30 : decode prog_7_method_11_code 30 = .ok (.iload_n 3, 1) := by decide +kernel
theorem d_E_isAllowed_31 : decode prog_7_method_11_code 31 = .ok (.invokevirtual 86, 3) := by decide +kernel
theorem d_E_isAllowed_34 : decode prog_7_method_11_code 34 = .ok (.ifCond .ne 5, 3) := by decide +kernel
theorem d_E_isAllowed_37 : decode prog_7_method_11_code 37 = .ok (.iconst 0, 1) := by decide +kernel
theorem d_E_isAllowed_38 : decode prog_7_method_11_code 38 = .ok (.ireturn, 1) := by decide +kernel
theorem d_E_isAllowed_39 : decode prog_7_method_11_code 39 = .ok (.iinc 4 1, 3) := by decide +kernel
theorem d_E_isAllowed_42 : decode prog_7_method_11_code 42 = .ok (.goto (-39), 3) := by decide +kernel
theorem d_E_isAllowed_45 : decode prog_7_method_11_code 45 = .ok (.iconst 1, 1) := by decide +kernel
theorem d_E_isAllowed_46 : decode prog_7_method_11_code 46 = .ok (.ireturn, 1) := by decide +kernel
theorem d_E_readRow_0 : decode prog_7_method_8_code 0 = .ok (.iload_n 2, 1) := by decide +kernel
theorem d_E_readRow_1 : decode prog_7_method_8_code 1 = .ok (.sipush 128, 3) := by decide +kernel
theorem d_E_readRow_4 : decode prog_7_method_8_code 4 = .ok (.if_icmp .lt 5, 3) := by decide +kernel
theorem d_E_readRow_7 : decode prog_7_method_8_code 7 = .ok (.iconst 0, 1) := by decide +kernel
theorem d_E_readRow_8 : decode prog_7_method_8_code 8 = .ok (.ireturn, 1) := by decide +kernel
theorem d_E_readRow_9 : decode prog_7_method_8_code 9 = .ok (.aload_n 0, 1) := by decide +kernel
theorem d_E_readRow_10 : decode prog_7_method_8_code 10 = .ok (.iload_n 1, 1) := by decide +kernel
theorem d_E_readRow_11 : decode prog_7_method_8_code 11 = .ok (.iload_n 2, 1) := by decide +kernel
theorem d_E_readRow_12 : decode prog_7_method_8_code 12 = .ok (.invokevirtual 47, 3) := by decide +kernel
theorem d_E_readRow_15 : decode prog_7_method_8_code 15 = .ok (.aload_n 0, 1) := by decide +kernel
theorem d_E_readRow_16 : decode prog_7_method_8_code 16 = .ok (.iload_n 1, 1) := by decide +kernel
theorem d_E_readRow_17 : decode prog_7_method_8_code 17 = .ok (.iload_n 2, 1) := by decide +kernel
theorem d_E_readRow_18 : decode prog_7_method_8_code 18 = .ok (.iconst 0, 1) := by decide +kernel
theorem d_E_readRow_19 : decode prog_7_method_8_code 19 = .ok (.invokevirtual 51, 3) := by decide +kernel
theorem d_E_readRow_22 : decode prog_7_method_8_code 22 = .ok (.ifCond .ne 5, 3) := by decide +kernel
theorem d_E_readRow_25 : decode prog_7_method_8_code 25 = .ok (.iconst 0, 1) := by decide +kernel
theorem d_E_readRow_26 : decode prog_7_method_8_code 26 = .ok (.ireturn, 1) := by decide +kernel
theorem d_E_readRow_27 : decode prog_7_method_8_code 27 = .ok (.iload_n 1, 1) := by decide +kernel
theorem d_E_readRow_28 : decode prog_7_method_8_code 28 = .ok (.istore_n 3, 1) := by decide +kernel
theorem d_E_readRow_29 : decode prog_7_method_8_code 29 = .ok (.iload_n 3, 1) := by decide +kernel
theorem d_E_readRow_30 : decode prog_7_method_8_code 30 = .ok (.iload_n 2, 1) := by decide +kernel
theorem d_E_readRow_31 : decode prog_7_method_8_code 31 = .ok (.if_icmp .gt 46, 3) := by decide +kernel
theorem d_E_readRow_34 : decode prog_7_method_8_code 34 = .ok (.aload_n 0, 1) := by decide +kernel
theorem d_E_readRow_35 : decode prog_7_method_8_code 35 = .ok (.getfield 33, 3) := by decide +kernel
theorem d_E_readRow_38 : decode prog_7_method_8_code 38 = .ok (.iload_n 3, 1) := by decide +kernel
theorem d_E_readRow_39 : decode prog_7_method_8_code 39 = .ok (.iload_n 1, 1) := by decide +kernel
theorem d_E_readRow_40 : decode prog_7_method_8_code 40 = .ok (.isub, 1) := by decide +kernel
theorem d_E_readRow_41 : decode prog_7_method_8_code 41 = .ok (.iaload, 1) := by decide +kernel
theorem d_E_readRow_42 : decode prog_7_method_8_code 42 = .ok (.istore 4, 2) := by decide +kernel
theorem d_E_readRow_44 : decode prog_7_method_8_code 44 = .ok (.iload 4, 2) := by decide +kernel
theorem d_E_readRow_46 : decode prog_7_method_8_code 46 = .ok (.ifCond .lt 10, 3) := by decide +kernel
theorem d_E_readRow_49 : decode prog_7_method_8_code 49 = .ok (.aload_n 0, 1) := by decide +kernel
theorem d_E_readRow_50 : decode prog_7_method_8_code 50 = .ok (.iload_n 3, 1) := by decide +kernel
theorem d_E_readRow_51 : decode prog_7_method_8_code 51 = .ok (.iload 4, 2) := by decide +kernel
theorem d_E_readRow_53 : decode prog_7_method_8_code 53 = .ok (.invokevirtual 55, 3) := by decide +kernel
theorem d_E_readRow_56 : decode prog_7_method_8_code 56 = .ok (.aload_n 0, 1) := by decide +kernel
theorem d_E_readRow_57 : decode prog_7_method_8_code 57 = .ok (.getfield 27, 3) := by decide +kernel
theorem d_E_readRow_60 : decode prog_7_method_8_code 60 = .ok (.iload_n 3, 1) := by decide +kernel
theorem d_E_readRow_61 : decode prog_7_method_8_code 61 = .ok (.iload_n 1, 1) := by decide +kernel
theorem d_E_readRow_62 : decode prog_7_method_8_code 62 = .ok (.isub, 1) := by decide +kernel
theorem d_E_readRow_63 : decode prog_7_method_8_code 63 = .ok (.aload_n 0, 1) := by decide +kernel
theorem d_E_readRow_64 : decode prog_7_method_8_code 64 = .ok (.iload_n 3, 1) := by decide +kernel
theorem d_E_readRow_65 : decode prog_7_method_8_code 65 = .ok (.iload 4, 2) := by decide +kernel
theorem d_E_readRow_67 : decode prog_7_method_8_code 67 = .ok (.invokevirtual 58, 3) := by decide +kernel
theorem d_E_readRow_70 : decode prog_7_method_8_code 70 = .ok (.iastore, 1) := by decide +kernel
theorem d_E_readRow_71 : decode prog_7_method_8_code 71 = .ok (.iinc 3 1, 3) := by decide +kernel
theorem d_E_readRow_74 : decode prog_7_method_8_code 74 = .ok (.goto (-45), 3) := by decide +kernel
theorem d_E_readRow_77 : decode prog_7_method_8_code 77 = .ok (.iconst 1, 1) := by decide +kernel
theorem d_E_readRow_78 : decode prog_7_method_8_code 78 = .ok (.ireturn, 1) := by decide +kernel
theorem d_E_storeInChannel_0 : decode prog_7_method_15_code 0 = .ok (.iload_n 1, 1) := by decide +kernel
theorem d_E_storeInChannel_1 : decode prog_7_method_15_code 1 = .ok (.aload_n 0, 1) := by decide +kernel
theorem d_E_storeInChannel_2 : decode prog_7_method_15_code 2 = .ok (.iload_n 2, 1) := by decide +kernel
theorem d_E_storeInChannel_3 : decode prog_7_method_15_code 3 = .ok (.invokevirtual 75, 3) := by decide +kernel
theorem d_E_storeInChannel_6 : decode prog_7_method_15_code 6 = .ok (.isub, 1) := by decide +kernel
theorem d_E_storeInChannel_7 : decode prog_7_method_15_code 7 = .ok (.istore 4, 2) := by decide +kernel
theorem d_E_storeInChannel_9 : decode prog_7_method_15_code 9 = .ok (.aload_n 0, 1) := by decide +kernel
theorem d_E_storeInChannel_10 : decode prog_7_method_15_code 10 = .ok (.iload_n 2, 1) := by decide +kernel
theorem d_E_storeInChannel_11 : decode prog_7_method_15_code 11 = .ok (.invokevirtual 40, 3) := by decide +kernel
theorem d_E_storeInChannel_14 : decode prog_7_method_15_code 14 = .ok (.iconst 3, 1) := by decide +kernel
theorem d_E_storeInChannel_15 : decode prog_7_method_15_code 15 = .ok (.if_icmp .ne 24, 3) := by decide +kernel
theorem d_E_storeInChannel_18 : decode prog_7_method_15_code 18 = .ok (.aload_n 0, 1) := by decide +kernel
theorem d_E_storeInChannel_19 : decode prog_7_method_15_code 19 = .ok (.getfield 20, 3) := by decide +kernel
theorem d_E_storeInChannel_22 : decode prog_7_method_15_code 22 = .ok (.iload_n 2, 1) := by decide +kernel
theorem d_E_storeInChannel_23 : decode prog_7_method_15_code 23 = .ok (.aaload, 1) := by decide +kernel
theorem d_E_storeInChannel_24 : decode prog_7_method_15_code 24 = .ok (.iload 4, 2) := by decide +kernel
theorem d_E_storeInChannel_26 : decode prog_7_method_15_code 26 = .ok (.iload_n 3, 1) := by decide +kernel
theorem d_E_storeInChannel_27 : decode prog_7_method_15_code 27 = .ok (.iastore, 1) := by decide +kernel
theorem d_E_storeInChannel_28 : decode prog_7_method_15_code 28 = .ok (.aload_n 0, 1) := by decide +kernel
theorem d_E_storeInChannel_29 : decode prog_7_method_15_code 29 = .ok (.getfield 9, 3) := by decide +kernel
theorem d_E_storeInChannel_32 : decode prog_7_method_15_code 32 = .ok (.bipush 48, 2) := by decide +kernel
theorem d_E_storeInChannel_34 : decode prog_7_method_15_code 34 = .ok (.iload_n 2, 1) := by decide +kernel
theorem d_E_storeInChannel_35 : decode prog_7_method_15_code 35 = .ok (.iadd, 1) := by decide +kernel
theorem d_E_storeInChannel_36 : decode prog_7_method_15_code 36 = .ok (.iconst 1, 1) := by decide +kernel
theorem d_E_storeInChannel_37 : decode prog_7_method_15_code 37 = .ok (.iastore, 1) := by decide +kernel
theorem d_E_storeInChannel_38 : decode prog_7_method_15_code 38 = .ok (.return_, 1) := by decide +kernel
theorem d_E_storeInChannel_39 : decode prog_7_method_15_code 39 = .ok (.aload_n 0, 1) := by decide +kernel
theorem d_E_storeInChannel_40 : decode prog_7_method_15_code 40 = .ok (.getfield 17, 3) := by decide +kernel
theorem d_E_storeInChannel_43 : decode prog_7_method_15_code 43 = .ok (.iload_n 2, 1) := by decide +kernel
theorem d_E_storeInChannel_44 : decode prog_7_method_15_code 44 = .ok (.aaload, 1) := by decide +kernel
theorem d_E_storeInChannel_45 : decode prog_7_method_15_code 45 = .ok (.iload 4, 2) := by decide +kernel
theorem d_E_storeInChannel_47 : decode prog_7_method_15_code 47 = .ok (.iload_n 3, 1) := by decide +kernel
theorem d_E_storeInChannel_48 : decode prog_7_method_15_code 48 = .ok (.iastore, 1) := by decide +kernel
theorem d_E_storeInChannel_49 : decode prog_7_method_15_code 49 = .ok (.iload 4, 2) := by decide +kernel
theorem d_E_storeInChannel_51 : decode prog_7_method_15_code 51 = .ok (.aload_n 0, 1) := by decide +kernel
theorem d_E_storeInChannel_52 : decode prog_7_method_15_code 52 = .ok (.iload_n 2, 1) := by decide +kernel
theorem d_E_storeInChannel_53 : decode prog_7_method_15_code 53 = .ok (.invokevirtual 44, 3) := by decide +kernel
theorem d_E_storeInChannel_56 : decode prog_7_method_15_code 56 = .ok (.iconst 1, 1) := by decide +kernel
theorem d_E_storeInChannel_57 : decode prog_7_method_15_code 57 = .ok (.isub, 1) := by decide +kernel
theorem d_E_storeInChannel_58 : decode prog_7_method_15_code 58 = .ok (.if_icmp .ne 44, 3) := by decide +kernel
theorem d_E_storeInChannel_61 : decode prog_7_method_15_code 61 = .ok (.aload_n 0, 1) := by decide +kernel
theorem d_E_storeInChannel_62 : decode prog_7_method_15_code 62 = .ok (.getfield 17, 3) := by decide +kernel
theorem d_E_storeInChannel_65 : decode prog_7_method_15_code 65 = .ok (.iload_n 2, 1) := by decide +kernel
theorem d_E_storeInChannel_66 : decode prog_7_method_15_code 66 = .ok (.aaload, 1) := by decide +kernel
theorem d_E_storeInChannel_67 : decode prog_7_method_15_code 67 = .ok (.iconst 0, 1) := by decide +kernel
theorem d_E_storeInChannel_68 : decode prog_7_method_15_code 68 = .ok (.aload_n 0, 1) := by decide +kernel
theorem d_E_storeInChannel_69 : decode prog_7_method_15_code 69 = .ok (.getfield 20, 3) := by decide +kernel
theorem d_E_storeInChannel_72 : decode prog_7_method_15_code 72 = .ok (.iload_n 2, 1) := by decide +kernel
theorem d_E_storeInChannel_73 : decode prog_7_method_15_code 73 = .ok (.aaload, 1) := by decide +kernel
theorem d_E_storeInChannel_74 : decode prog_7_method_15_code 74 = .ok (.iconst 0, 1) := by decide +kernel
theorem d_E_storeInChannel_75 : decode prog_7_method_15_code 75 = .ok (.bipush 8, 2) := by decide +kernel
theorem d_E_storeInChannel_77 : decode prog_7_method_15_code 77 = .ok (.invokestatic 90, 3) := by decide +kernel
theorem d_E_storeInChannel_80 : decode prog_7_method_15_code 80 = .ok (.aload_n 0, 1) := by decide +kernel
theorem d_E_storeInChannel_81 : decode prog_7_method_15_code 81 = .ok (.getfield 23, 3) := by decide +kernel
theorem d_E_storeInChannel_84 : decode prog_7_method_15_code 84 = .ok (.iload_n 2, 1) := by decide +kernel
theorem d_E_storeInChannel_85 : decode prog_7_method_15_code 85 = .ok (.iconst 1, 1) := by decide +kernel
theorem d_E_storeInChannel_86 : decode prog_7_method_15_code 86 = .ok (.bastore, 1) := by decide +kernel
theorem d_E_storeInChannel_87 : decode prog_7_method_15_code 87 = .ok (.iload_n 2, 1) := by decide +kernel
theorem d_E_storeInChannel_88 : decode prog_7_method_15_code 88 = .ok (.iconst 2, 1) := by decide +kernel
theorem d_E_storeInChannel_89 : decode prog_7_method_15_code 89 = .ok (.if_icmp .ne 13, 3) := by decide +kernel
theorem d_E_storeInChannel_92 : decode prog_7_method_15_code 92 = .ok (.aload_n 0, 1) := by decide +kernel
theorem d_E_storeInChannel_93 : decode prog_7_method_15_code 93 = .ok (.iconst 1, 1) := by decide +kernel
theorem d_E_storeInChannel_94 : decode prog_7_method_15_code 94 = .ok (.putfield 96, 3) := by decide +kernel
theorem d_E_storeInChannel_97 : decode prog_7_method_15_code 97 = .ok (.aload_n 0, 1) := by decide +kernel
theorem d_E_storeInChannel_98 : decode prog_7_method_15_code 98 = .ok (.iconst 0, 1) := by decide +kernel
theorem d_E_storeInChannel_99 : decode prog_7_method_15_code 99 = .ok (.putfield 100, 3) := by decide +kernel
theorem d_E_storeInChannel_102 : decode prog_7_method_15_code 102 = .ok (.return_, 1) := by decide +kernel
theorem d_E_clearChannel_0 : decode prog_7_method_17_code 0 = .ok (.iconst 0, 1) := by decide +kernel
theorem d_E_clearChannel_1 : decode prog_7_method_17_code 1 = .ok (.istore_n 2, 1) := by decide +kernel
theorem d_E_clearChannel_2 : decode prog_7_method_17_code 2 = .ok (.iload_n 2, 1) := by decide +kernel
theorem d_E_clearChannel_3 : decode prog_7_method_17_code 3 = .ok (.bipush 8, 2) := by decide +kernel
theorem d_E_clearChannel_5 : decode prog_7_method_17_code 5 = .ok (.if_icmp .ge 27, 3) := by decide +kernel
theorem d_E_clearChannel_8 : decode prog_7_method_17_code 8 = .ok (.aload_n 0, 1) := by decide +kernel
theorem d_E_clearChannel_9 : decode prog_7_method_17_code 9 = .ok (.getfield 17, 3) := by decide +kernel
theorem d_E_clearChannel_12 : decode prog_7_method_17_code 12 = .ok (.iload_n 1, 1) := by decide +kernel
theorem d_E_clearChannel_13 : decode prog_7_method_17_code 13 = .ok (.aaload, 1) := by decide +kernel
theorem d_E_clearChannel_14 : decode prog_7_method_17_code 14 = .ok (.iload_n 2, 1) := by decide +kernel
theorem d_E_clearChannel_15 : decode prog_7_method_17_code 15 = .ok (.iconst 0, 1) := by decide +kernel
theorem d_E_clearChannel_16 : decode prog_7_method_17_code 16 = .ok (.iastore, 1) := by decide +kernel
theorem d_E_clearChannel_17 : decode prog_7_method_17_code 17 = .ok (.aload_n 0, 1) := by decide +kernel
theorem d_E_clearChannel_18 : decode prog_7_method_17_code 18 = .ok (.getfield 20, 3) := by decide +kernel
theorem d_E_clearChannel_21 : decode prog_7_method_17_code 21 = .ok (.iload_n 1, 1) := by decide +kernel
theorem d_E_clearChannel_22 : decode prog_7_method_17_code 22 = .ok (.aaload, 1) := by decide +kernel
theorem d_E_clearChannel_23 : decode prog_7_method_17_code 23 = .ok (.iload_n 2, 1) := by decide +kernel
theorem d_E_clearChannel_24 : decode prog_7_method_17_code 24 = .ok (.iconst 0, 1) := by decide +kernel
theorem d_E_clearChannel_25 : decode prog_7_method_17_code 25 = .ok (.iastore, 1) := by decide +kernel
theorem d_E_clearChannel_26 : decode prog_7_method_17_code 26 = .ok (.iinc 2 1, 3) := by decide +kernel
theorem d_E_clearChannel_29 : decode prog_7_method_17_code 29 = .ok (.goto (-27), 3) := by decide +kernel
theorem d_E_clearChannel_32 : decode prog_7_method_17_code 32 = .ok (.aload_n 0, 1) := by decide +kernel
theorem d_E_clearChannel_33 : decode prog_7_method_17_code 33 = .ok (.getfield 23, 3) := by decide +kernel
theorem d_E_clearChannel_36 : decode prog_7_method_17_code 36 = .ok (.iload_n 1, 1) := by decide +kernel
theorem d_E_clearChannel_37 : decode prog_7_method_17_code 37 = .ok (.iconst 0, 1) := by decide +kernel
theorem d_E_clearChannel_38 : decode prog_7_method_17_code 38 = .ok (.bastore, 1) := by decide +kernel
theorem d_E_clearChannel_39 : decode prog_7_method_17_code 39 = .ok (.aload_n 0, 1) := by decide +kernel
theorem d_E_clearChannel_40 : decode prog_7_method_17_code 40 = .ok (.getfield 9, 3) := by decide +kernel
theorem d_E_clearChannel_43 : decode prog_7_method_17_code 43 = .ok (.bipush 48, 2) := by decide +kernel
theorem d_E_clearChannel_45 : decode prog_7_method_17_code 45 = .ok (.iload_n 1, 1) := by decide +kernel
theorem d_E_clearChannel_46 : decode prog_7_method_17_code 46 = .ok (.iadd, 1) := by decide +kernel
theorem d_E_clearChannel_47 : decode prog_7_method_17_code 47 = .ok (.iconst 0, 1) := by decide +kernel
theorem d_E_clearChannel_48 : decode prog_7_method_17_code 48 = .ok (.iastore, 1) := by decide +kernel
theorem d_E_clearChannel_49 : decode prog_7_method_17_code 49 = .ok (.return_, 1) := by decide +kernel
theorem d_E_storePlain_0 : decode prog_7_method_16_code 0 = .ok (.iload_n 1, 1) := by decide +kernel
theorem d_E_storePlain_1 : decode prog_7_method_16_code 1 = .ok (.iconst 2, 1) := by decide +kernel
theorem d_E_storePlain_2 : decode prog_7_method_16_code 2 = .ok (.if_icmp .eq 20, 3) := by decide +kernel
theorem d_E_storePlain_5 : decode prog_7_method_16_code 5 = .ok (.iload_n 1, 1) := by decide +kernel
theorem d_E_storePlain_6 : decode prog_7_method_16_code 6 = .ok (.iconst 3, 1) := by decide +kernel
theorem d_E_storePlain_7 : decode prog_7_method_16_code 7 = .ok (.if_icmp .eq 15, 3) := by decide +kernel
theorem d_E_storePlain_10 : decode prog_7_method_16_code 10 = .ok (.iload_n 1, 1) := by decide +kernel
theorem d_E_storePlain_11 : decode prog_7_method_16_code 11 = .ok (.bipush 48, 2) := by decide +kernel
theorem d_E_storePlain_13 : decode prog_7_method_16_code 13 = .ok (.if_icmp .lt 10, 3) := by decide +kernel
theorem d_E_storePlain_16 : decode prog_7_method_16_code 16 = .ok (.iload_n 1, 1) := by decide +kernel
theorem d_E_storePlain_17 : decode prog_7_method_16_code 17 = .ok (.bipush 52, 2) := by decide +kernel
theorem d_E_storePlain_19 : decode prog_7_method_16_code 19 = .ok (.if_icmp .ge 4, 3) := by decide +kernel
theorem d_E_storePlain_22 : decode prog_7_method_16_code 22 = .ok (.return_, 1) := by decide +kernel
theorem d_E_storePlain_23 : decode prog_7_method_16_code 23 = .ok (.aload_n 0, 1) := by decide +kernel
theorem d_E_storePlain_24 : decode prog_7_method_16_code 24 = .ok (.getfield 9, 3) := by decide +kernel
theorem d_E_storePlain_27 : decode prog_7_method_16_code 27 = .ok (.iload_n 1, 1) := by decide +kernel
theorem d_E_storePlain_28 : decode prog_7_method_16_code 28 = .ok (.iload_n 2, 1) := by decide +kernel
theorem d_E_storePlain_29 : decode prog_7_method_16_code 29 = .ok (.iastore, 1) := by decide +kernel
theorem d_E_storePlain_30 : decode prog_7_method_16_code 30 = .ok (.iload_n 1, 1) := by decide +kernel
theorem d_E_storePlain_31 : decode prog_7_method_16_code 31 = .ok (.iconst 1, 1) := by decide +kernel
theorem d_E_storePlain_32 : decode prog_7_method_16_code 32 = .ok (.if_icmp .ne 8, 3) := by decide +kernel
theorem d_E_storePlain_35 : decode prog_7_method_16_code 35 = .ok (.aload_n 0, 1) := by decide +kernel
theorem d_E_storePlain_36 : decode prog_7_method_16_code 36 = .ok (.iconst 1, 1) := by decide +kernel
theorem d_E_storePlain_37 : decode prog_7_method_16_code 37 = .ok (.putfield 104, 3) := by decide +kernel
theorem d_E_storePlain_40 : decode prog_7_method_16_code 40 = .ok (.iload_n 1, 1) := by decide +kernel
theorem d_E_storePlain_41 : decode prog_7_method_16_code 41 = .ok (.bipush 32, 2) := by decide +kernel
theorem d_E_storePlain_43 : decode prog_7_method_16_code 43 = .ok (.if_icmp .lt 19, 3) := by decide +kernel
theorem d_E_storePlain_46 : decode prog_7_method_16_code 46 = .ok (.iload_n 1, 1) := by decide +kernel
theorem d_E_storePlain_47 : decode prog_7_method_16_code 47 = .ok (.bipush 48, 2) := by decide +kernel
theorem d_E_storePlain_49 : decode prog_7_method_16_code 49 = .ok (.if_icmp .ge 13, 3) := by decide +kernel
theorem d_E_storePlain_52 : decode prog_7_method_16_code 52 = .ok (.aload_n 0, 1) := by decide +kernel
theorem d_E_storePlain_53 : decode prog_7_method_16_code 53 = .ok (.iload_n 1, 1) := by decide +kernel
theorem d_E_storePlain_54 : decode prog_7_method_16_code 54 = .ok (.bipush 32, 2) := by decide +kernel
theorem d_E_storePlain_56 : decode prog_7_method_16_code 56 = .ok (.isub, 1) := by decide +kernel
theorem d_E_storePlain_57 : decode prog_7_method_16_code 57 = .ok (.iconst 4, 1) := by decide +kernel
theorem d_E_storePlain_58 : decode prog_7_method_16_code 58 = .ok (.idiv, 1) := by decide +kernel
theorem d_E_storePlain_59 : decode prog_7_method_16_code 59 = .ok (.invokevirtual 107, 3) := by decide +kernel
theorem d_E_storePlain_62 : decode prog_7_method_16_code 62 = .ok (.return_, 1) := by decide +kernel
theorem d_E_writeRow_0 : decode prog_7_method_9_code 0 = .ok (.iload_n 2, 1) := by decide +kernel
theorem d_E_writeRow_1 : decode prog_7_method_9_code 1 = .ok (.sipush 128, 3) := by decide +kernel
theorem d_E_writeRow_4 : decode prog_7_method_9_code 4 = .ok (.if_icmp .lt 5, 3) := by decide +kernel
theorem d_E_writeRow_7 : decode prog_7_method_9_code 7 = .ok (.iconst 0, 1) := by decide +kernel
theorem d_E_writeRow_8 : decode prog_7_method_9_code 8 = .ok (.ireturn, 1) := by decide +kernel
theorem d_E_writeRow_9 : decode prog_7_method_9_code 9 = .ok (.aload_n 0, 1) := by decide +kernel
theorem d_E_writeRow_10 : decode prog_7_method_9_code 10 = .ok (.iload_n 1, 1) := by decide +kernel
theorem d_E_writeRow_11 : decode prog_7_method_9_code 11 = .ok (.iload_n 2, 1) := by decide +kernel
theorem d_E_writeRow_12 : decode prog_7_method_9_code 12 = .ok (.invokevirtual 47, 3) := by decide +kernel
theorem d_E_writeRow_15 : decode prog_7_method_9_code 15 = .ok (.aload_n 0, 1) := by decide +kernel
theorem d_E_writeRow_16 : decode prog_7_method_9_code 16 = .ok (.iload_n 1, 1) := by decide +kernel
theorem d_E_writeRow_17 : decode prog_7_method_9_code 17 = .ok (.iload_n 2, 1) := by decide +kernel
theorem d_E_writeRow_18 : decode prog_7_method_9_code 18 = .ok (.iconst 1, 1) := by decide +kernel
theorem d_E_writeRow_19 : decode prog_7_method_9_code 19 = .ok (.invokevirtual 51, 3) := by decide +kernel
theorem d_E_writeRow_22 : decode prog_7_method_9_code 22 = .ok (.ifCond .ne 5, 3) := by decide +kernel
theorem d_E_writeRow_25 : decode prog_7_method_9_code 25 = .ok (.iconst 0, 1) := by decide +kernel
theorem d_E_writeRow_26 : decode prog_7_method_9_code 26 = .ok (.ireturn, 1) := by decide +kernel
theorem d_E_writeRow_27 : decode prog_7_method_9_code 27 = .ok (.iload_n 1, 1) := by decide +kernel
theorem d_E_writeRow_28 : decode prog_7_method_9_code 28 = .ok (.istore_n 3, 1) := by decide +kernel
theorem d_E_writeRow_29 : decode prog_7_method_9_code 29 = .ok (.iload_n 3, 1) := by decide +kernel
theorem d_E_writeRow_30 : decode prog_7_method_9_code 30 = .ok (.iload_n 2, 1) := by decide +kernel
theorem d_E_writeRow_31 : decode prog_7_method_9_code 31 = .ok (.if_icmp .gt 79, 3) := by decide +kernel
theorem d_E_writeRow_34 : decode prog_7_method_9_code 34 = .ok (.aload_n 0, 1) := by decide +kernel
theorem d_E_writeRow_35 : decode prog_7_method_9_code 35 = .ok (.getfield 33, 3) := by decide +kernel
theorem d_E_writeRow_38 : decode prog_7_method_9_code 38 = .ok (.iload_n 3, 1) := by decide +kernel
theorem d_E_writeRow_39 : decode prog_7_method_9_code 39 = .ok (.iload_n 1, 1) := by decide +kernel
theorem d_E_writeRow_40 : decode prog_7_method_9_code 40 = .ok (.isub, 1) := by decide +kernel
theorem d_E_writeRow_41 : decode prog_7_method_9_code 41 = .ok (.iaload, 1) := by decide +kernel
theorem d_E_writeRow_42 : decode prog_7_method_9_code 42 = .ok (.istore 4, 2) := by decide +kernel
theorem d_E_writeRow_44 : decode prog_7_method_9_code 44 = .ok (.aload_n 0, 1) := by decide +kernel
theorem d_E_writeRow_45 : decode prog_7_method_9_code 45 = .ok (.getfield 30, 3) := by decide +kernel
theorem d_E_writeRow_48 : decode prog_7_method_9_code 48 = .ok (.iload_n 3, 1) := by decide +kernel
theorem d_E_writeRow_49 : decode prog_7_method_9_code 49 = .ok (.iload_n 1, 1) := by decide +kernel
theorem d_E_writeRow_50 : decode prog_7_method_9_code 50 = .ok (.isub, 1) := by decide +kernel
theorem d_E_writeRow_51 : decode prog_7_method_9_code 51 = .ok (.iaload, 1) := by decide +kernel
theorem d_E_writeRow_52 : decode prog_7_method_9_code 52 = .ok (.istore 5, 2) := by decide +kernel
theorem d_E_writeRow_54 : decode prog_7_method_9_code 54 = .ok (.aload_n 0, 1) := by decide +kernel
theorem d_E_writeRow_55 : decode prog_7_method_9_code 55 = .ok (.iload_n 3, 1) := by decide +kernel
theorem d_E_writeRow_56 : decode prog_7_method_9_code 56 = .ok (.iload 4, 2) := by decide +kernel
theorem d_E_writeRow_58 : decode prog_7_method_9_code 58 = .ok (.invokevirtual 58, 3) := by decide +kernel
theorem d_E_writeRow_61 : decode prog_7_method_9_code 61 = .ok (.iload 5, 2) := by decide +kernel
theorem d_E_writeRow_63 : decode prog_7_method_9_code 63 = .ok (.iconst (-1), 1) := by decide +kernel
theorem d_E_writeRow_64 : decode prog_7_method_9_code 64 = .ok (.ixor, 1) := by decide +kernel
theorem d_E_writeRow_65 : decode prog_7_method_9_code 65 = .ok (.iand, 1) := by decide +kernel
theorem d_E_writeRow_66 : decode prog_7_method_9_code 66 = .ok (.aload_n 0, 1) := by decide +kernel
theorem d_E_writeRow_67 : decode prog_7_method_9_code 67 = .ok (.getfield 27, 3) := by decide +kernel
theorem d_E_writeRow_70 : decode prog_7_method_9_code 70 = .ok (.iload_n 3, 1) := by decide +kernel
theorem d_E_writeRow_71 : decode prog_7_method_9_code 71 = .ok (.iload_n 1, 1) := by decide +kernel
theorem d_E_writeRow_72 : decode prog_7_method_9_code 72 = .ok (.isub, 1) := by decide +kernel
theorem d_E_writeRow_73 : decode prog_7_method_9_code 73 = .ok (.iaload, 1) := by decide +kernel
theorem d_E_writeRow_74 : decode prog_7_method_9_code 74 = .ok (.iload 5, 2) := by decide +kernel
theorem d_E_writeRow_76 : decode prog_7_method_9_code 76 = .ok (.iand, 1) := by decide +kernel
theorem d_E_writeRow_77 : decode prog_7_method_9_code 77 = .ok (.ior, 1) := by decide +kernel
theorem d_E_writeRow_78 : decode prog_7_method_9_code 78 = .ok (.istore 6, 2) := by decide +kernel
theorem d_E_writeRow_80 : decode prog_7_method_9_code 80 = .ok (.iload 4, 2) := by decide +kernel
theorem d_E_writeRow_82 : decode prog_7_method_9_code 82 = .ok (.ifCond .lt 15, 3) := by decide +kernel
theorem d_E_writeRow_85 : decode prog_7_method_9_code 85 = .ok (.aload_n 0, 1) := by decide +kernel
theorem d_E_writeRow_86 : decode prog_7_method_9_code 86 = .ok (.iload_n 3, 1) := by decide +kernel
theorem d_E_writeRow_87 : decode prog_7_method_9_code 87 = .ok (.iload 4, 2) := by decide +kernel
theorem d_E_writeRow_89 : decode prog_7_method_9_code 89 = .ok (.iload 6, 2) := by decide +kernel
theorem d_E_writeRow_91 : decode prog_7_method_9_code 91 = .ok (.invokevirtual 62, 3) := by decide +kernel
theorem d_E_writeRow_94 : decode prog_7_method_9_code 94 = .ok (.goto 10, 3) := by decide +kernel
theorem d_E_writeRow_97 : decode prog_7_method_9_code 97 = .ok (.aload_n 0, 1) := by decide +kernel
theorem d_E_writeRow_98 : decode prog_7_method_9_code 98 = .ok (.iload_n 3, 1) := by decide +kernel
theorem d_E_writeRow_99 : decode prog_7_method_9_code 99 = .ok (.iload 6, 2) := by decide +kernel
theorem d_E_writeRow_101 : decode prog_7_method_9_code 101 = .ok (.invokevirtual 66, 3) := by decide +kernel
theorem d_E_writeRow_104 : decode prog_7_method_9_code 104 = .ok (.iinc 3 1, 3) := by decide +kernel
theorem d_E_writeRow_107 : decode prog_7_method_9_code 107 = .ok (.goto (-78), 3) := by decide +kernel
theorem d_E_writeRow_110 : decode prog_7_method_9_code 110 = .ok (.iconst 1, 1) := by decide +kernel
theorem d_E_writeRow_111 : decode prog_7_method_9_code 111 = .ok (.ireturn, 1) := by decide +kernel
theorem d_S_performDirect_0 : decode prog_8_method_3_code 0 = .ok (.aload_n 1, 1) := by decide +kernel
theorem d_S_performDirect_1 : decode prog_8_method_3_code 1 = .ok (.getfield 64, 3) := by decide +kernel
theorem d_S_performDirect_4 : decode prog_8_method_3_code 4 = .ok (.aload_n 1, 1) := by decide +kernel
theorem d_S_performDirect_5 : decode prog_8_method_3_code 5 = .ok (.getfield 67, 3) := by decide +kernel
theorem d_S_performDirect_8 : decode prog_8_method_3_code 8 = .ok (.iadd, 1) := by decide +kernel
theorem d_S_performDirect_9 : decode prog_8_method_3_code 9 = .ok (.iconst 1, 1) := by decide +kernel
theorem d_S_performDirect_10 : decode prog_8_method_3_code 10 = .ok (.isub, 1) := by decide +kernel
theorem d_S_performDirect_11 : decode prog_8_method_3_code 11 = .ok (.istore_n 2, 1) := by decide +kernel
theorem d_S_performDirect_12 : decode prog_8_method_3_code 12 = .ok (.aload_n 1, 1) := by decide +kernel
theorem d_S_performDirect_13 : decode prog_8_method_3_code 13 = .ok (.getfield 48, 3) := by decide +kernel
theorem d_S_performDirect_16 : decode prog_8_method_3_code 16 = .ok (.iconst 2, 1) := by decide +kernel
theorem d_S_performDirect_17 : decode prog_8_method_3_code 17 = .ok (.if_icmp .eq 20, 3) := by decide +kernel
theorem d_S_performDirect_20 : decode prog_8_method_3_code 20 = .ok (.aload_n 1, 1) := by decide +kernel
theorem d_S_performDirect_21 : decode prog_8_method_3_code 21 = .ok (.getfield 48, 3) := by decide +kernel
theorem d_S_performDirect_24 : decode prog_8_method_3_code 24 = .ok (.iconst 5, 1) := by decide +kernel
theorem d_S_performDirect_25 : decode prog_8_method_3_code 25 = .ok (.if_icmp .eq 12, 3) := by decide +kernel
theorem d_S_performDirect_28 : decode prog_8_method_3_code 28 = .ok (.aload_n 1, 1) := by decide +kernel
theorem d_S_performDirect_29 : decode prog_8_method_3_code 29 = .ok (.getfield 48, 3) := by decide +kernel
theorem d_S_performDirect_32 : decode prog_8_method_3_code 32 = .ok (.bipush 8, 2) := by decide +kernel
theorem d_S_performDirect_34 : decode prog_8_method_3_code 34 = .ok (.if_icmp .ne 74, 3) := by decide +kernel
theorem d_S_performDirect_37 : decode prog_8_method_3_code 37 = .ok (.iconst 0, 1) := by decide +kernel
theorem d_S_performDirect_38 : decode prog_8_method_3_code 38 = .ok (.istore_n 3, 1) := by decide +kernel
theorem d_S_performDirect_39 : decode prog_8_method_3_code 39 = .ok (.iload_n 3, 1) := by decide +kernel
theorem d_S_performDirect_40 : decode prog_8_method_3_code 40 = .ok (.aload_n 1, 1) := by decide +kernel
theorem d_S_performDirect_41 : decode prog_8_method_3_code 41 = .ok (.getfield 67, 3) := by decide +kernel
theorem d_S_performDirect_44 : decode prog_8_method_3_code 44 = .ok (.if_icmp .ge 36, 3) := by decide +kernel
theorem d_S_performDirect_47 : decode prog_8_method_3_code 47 = .ok (.aload_n 0, 1) := by decide +kernel
theorem d_S_performDirect_48 : decode prog_8_method_3_code 48 = .ok (.getfield 21, 3) := by decide +kernel
theorem d_S_performDirect_51 : decode prog_8_method_3_code 51 = .ok (.getfield 70, 3) := by decide +kernel
theorem d_S_performDirect_54 : decode prog_8_method_3_code 54 = .ok (.iload_n 3, 1) := by decide +kernel
theorem d_S_performDirect_55 : decode prog_8_method_3_code 55 = .ok (.aload_n 1, 1) := by decide +kernel
theorem d_S_performDirect_56 : decode prog_8_method_3_code 56 = .ok (.getfield 73, 3) := by decide +kernel
theorem d_S_performDirect_59 : decode prog_8_method_3_code 59 = .ok (.iload_n 3, 1) := by decide +kernel
theorem d_S_performDirect_60 : decode prog_8_method_3_code 60 = .ok (.iaload, 1) := by decide +kernel
theorem d_S_performDirect_61 : decode prog_8_method_3_code 61 = .ok (.iastore, 1) := by decide +kernel
theorem d_S_performDirect_62 : decode prog_8_method_3_code 62 = .ok (.aload_n 0, 1) := by decide +kernel
theorem d_S_performDirect_63 : decode prog_8_method_3_code 63 = .ok (.getfield 21, 3) := by decide +kernel
theorem d_S_performDirect_66 : decode prog_8_method_3_code 66 = .ok (.getfield 74, 3) := by decide +kernel
theorem d_S_performDirect_69 : decode prog_8_method_3_code 69 = .ok (.iload_n 3, 1) := by decide +kernel
theorem d_S_performDirect_70 : decode prog_8_method_3_code 70 = .ok (.sipush 255, 3) := by decide +kernel
theorem d_S_performDirect_73 : decode prog_8_method_3_code 73 = .ok (.iastore, 1) := by decide +kernel
theorem d_S_performDirect_74 : decode prog_8_method_3_code 74 = .ok (.iinc 3 1, 3) := by decide +kernel
theorem d_S_performDirect_77 : decode prog_8_method_3_code 77 = .ok (.goto (-38), 3) := by decide +kernel
theorem d_S_performDirect_80 : decode prog_8_method_3_code 80 = .ok (.aload_n 0, 1) := by decide +kernel
theorem d_S_performDirect_81 : decode prog_8_method_3_code 81 = .ok (.getfield 21, 3) := by decide +kernel
theorem d_S_performDirect_84 : decode prog_8_method_3_code 84 = .ok (.aload_n 1, 1) := by decide +kernel
theorem d_S_performDirect_85 : decode prog_8_method_3_code 85 = .ok (.getfield 64, 3) := by decide +kernel
theorem d_S_performDirect_88 : decode prog_8_method_3_code 88 = .ok (.iload_n 2, 1) := by decide +kernel
theorem d_S_performDirect_89 : decode prog_8_method_3_code 89 = .ok (.invokevirtual 77, 3) := by decide +kernel
theorem d_S_performDirect_92 : decode prog_8_method_3_code 92 = .ok (.ifCond .eq 96, 3) := by decide +kernel
theorem d_S_performDirect_95 : decode prog_8_method_3_code 95 = .ok (.aload_n 1, 1) := by decide +kernel
theorem d_S_performDirect_96 : decode prog_8_method_3_code 96 = .ok (.dup, 1) := by decide +kernel
theorem d_S_performDirect_97 : decode prog_8_method_3_code 97 = .ok (.getfield 81, 3) := by decide +kernel
theorem d_S_performDirect_100 : decode prog_8_method_3_code 100 = .ok (.iconst 1, 1) := by decide +kernel
theorem d_S_performDirect_101 : decode prog_8_method_3_code 101 = .ok (.iadd, 1) := by decide +kernel
theorem d_S_performDirect_102 : decode prog_8_method_3_code 102 = .ok (.putfield 81, 3) := by decide +kernel
theorem d_S_performDirect_105 : decode prog_8_method_3_code 105 = .ok (.goto 83, 3) := by decide +kernel
theorem d_S_performDirect_108 : decode prog_8_method_3_code 108 = .ok (.aload_n 0, 1) := by decide +kernel
theorem d_S_performDirect_109 : decode prog_8_method_3_code 109 = .ok (.getfield 21, 3) := by decide +kernel
theorem d_S_performDirect_112 : decode prog_8_method_3_code 112 = .ok (.aload_n 1, 1) := by decide +kernel
theorem d_S_performDirect_113 : decode prog_8_method_3_code 113 = .ok (.getfield 64, 3) := by decide +kernel
theorem d_S_performDirect_116 : decode prog_8_method_3_code 116 = .ok (.iload_n 2, 1) := by decide +kernel
theorem d_S_performDirect_117 : decode prog_8_method_3_code 117 = .ok (.invokevirtual 84, 3) := by decide +kernel
theorem d_S_performDirect_120 : decode prog_8_method_3_code 120 = .ok (.ifCond .eq 68, 3) := by decide +kernel
theorem d_S_performDirect_123 : decode prog_8_method_3_code 123 = .ok (.iconst 0, 1) := by decide +kernel
theorem d_S_performDirect_124 : decode prog_8_method_3_code 124 = .ok (.istore_n 3, 1) := by decide +kernel
theorem d_S_performDirect_125 : decode prog_8_method_3_code 125 = .ok (.iload_n 3, 1) := by decide +kernel
theorem d_S_performDirect_126 : decode prog_8_method_3_code 126 = .ok (.aload_n 1, 1) := by decide +kernel
theorem d_S_performDirect_127 : decode prog_8_method_3_code 127 = .ok (.getfield 67, 3) := by decide +kernel
theorem d_S_performDirect_130 : decode prog_8_method_3_code 130 = .ok (.if_icmp .ge 48, 3) := by decide +kernel
theorem d_S_performDirect_133 : decode prog_8_method_3_code 133 = .ok (.aload_n 1, 1) := by decide +kernel
theorem d_S_performDirect_134 : decode prog_8_method_3_code 134 = .ok (.getfield 48, 3) := by decide +kernel
theorem d_S_performDirect_137 : decode prog_8_method_3_code 137 = .ok (.bipush 7, 2) := by decide +kernel
theorem d_S_performDirect_139 : decode prog_8_method_3_code 139 = .ok (.if_icmp .ne 12, 3) := by decide +kernel
theorem d_S_performDirect_142 : decode prog_8_method_3_code 142 = .ok (.aload_n 1, 1) := by decide +kernel
theorem d_S_performDirect_143 : decode prog_8_method_3_code 143 = .ok (.getfield 73, 3) := by decide +kernel
theorem d_S_performDirect_146 : decode prog_8_method_3_code 146 = .ok (.iload_n 3, 1) := by decide +kernel
theorem d_S_performDirect_147 : decode prog_8_method_3_code 147 = .ok (.iaload, 1) := by decide +kernel
theorem d_S_performDirect_148 : decode prog_8_method_3_code 148 = .ok (.goto 4, 3) := by decide +kernel
theorem d_S_performDirect_151 : decode prog_8_method_3_code 151 = .ok (.iconst 0, 1) := by decide +kernel
theorem d_S_performDirect_152 : decode prog_8_method_3_code 152 = .ok (.istore 4, 2) := by decide +kernel
theorem d_S_performDirect_154 : decode prog_8_method_3_code 154 = .ok (.aload_n 1, 1) := by decide +kernel
theorem d_S_performDirect_155 : decode prog_8_method_3_code 155 = .ok (.getfield 73, 3) := by decide +kernel
theorem d_S_performDirect_158 : decode prog_8_method_3_code 158 = .ok (.iload_n 3, 1) := by decide +kernel
theorem d_S_performDirect_159 : decode prog_8_method_3_code 159 = .ok (.iload 4, 2) := by decide +kernel
theorem d_S_performDirect_161 : decode prog_8_method_3_code 161 = .ok (.aload_n 0, 1) := by decide +kernel
theorem d_S_performDirect_162 : decode prog_8_method_3_code 162 = .ok (.getfield 21, 3) := by decide +kernel
theorem d_S_performDirect_165 : decode prog_8_method_3_code 165 = .ok (.getfield 70, 3) := by decide +kernel
theorem d_S_performDirect_168 : decode prog_8_method_3_code 168 = .ok (.iload_n 3, 1) := by decide +kernel
theorem d_S_performDirect_169 : decode prog_8_method_3_code 169 = .ok (.iaload, 1) := by decide +kernel
theorem d_S_performDirect_170 : decode prog_8_method_3_code 170 = .ok (.ior, 1) := by decide +kernel
theorem d_S_performDirect_171 : decode prog_8_method_3_code 171 = .ok (.iastore, 1) := by decide +kernel
theorem d_S_performDirect_172 : decode prog_8_method_3_code 172 = .ok (.iinc 3 1, 3) := by decide +kernel
theorem d_S_performDirect_175 : decode prog_8_method_3_code 175 = .ok (.goto (-50), 3) := by decide +kernel
theorem d_S_performDirect_178 : decode prog_8_method_3_code 178 = .ok (.aload_n 1, 1) := by decide +kernel
theorem d_S_performDirect_179 : decode prog_8_method_3_code 179 = .ok (.dup, 1) := by decide +kernel
theorem d_S_performDirect_180 : decode prog_8_method_3_code 180 = .ok (.getfield 81, 3) := by decide +kernel
theorem d_S_performDirect_183 : decode prog_8_method_3_code 183 = .ok (.iconst 1, 1) := by decide +kernel
theorem d_S_performDirect_184 : decode prog_8_method_3_code 184 = .ok (.iadd, 1) := by decide +kernel
theorem d_S_performDirect_185 : decode prog_8_method_3_code 185 = .ok (.putfield 81, 3) := by decide +kernel
theorem d_S_performDirect_188 : decode prog_8_method_3_code 188 = .ok (.return_, 1) := by decide +kernel
theorem d_B_lastByte_0 : decode prog_6_method_4_code 0 = .ok (.aload_n 0, 1) := by decide +kernel
theorem d_B_lastByte_1 : decode prog_6_method_4_code 1 = .ok (.getfield 32, 3) := by decide +kernel
theorem d_B_lastByte_4 : decode prog_6_method_4_code 4 = .ok (.aload_n 0, 1) := by decide +kernel
theorem d_B_lastByte_5 : decode prog_6_method_4_code 5 = .ok (.getfield 35, 3) := by decide +kernel
theorem d_B_lastByte_8 : decode prog_6_method_4_code 8 = .ok (.iadd, 1) := by decide +kernel
theorem d_B_lastByte_9 : decode prog_6_method_4_code 9 = .ok (.iconst 1, 1) := by decide +kernel
theorem d_B_lastByte_10 : decode prog_6_method_4_code 10 = .ok (.isub, 1) := by decide +kernel
theorem d_B_lastByte_11 : decode prog_6_method_4_code 11 = .ok (.bipush 8, 2) := by decide +kernel
theorem d_B_lastByte_13 : decode prog_6_method_4_code 13 = .ok (.idiv, 1) := by decide +kernel
theorem d_B_lastByte_14 : decode prog_6_method_4_code 14 = .ok (.ireturn, 1) := by decide +kernel
theorem d_B_find_0 : decode prog_6_method_2_code 0 = .ok (.bipush 8, 2) := by decide +kernel
theorem d_B_find_2 : decode prog_6_method_2_code 2 = .ok (.iload_n 2, 1) := by decide +kernel
theorem d_B_find_3 : decode prog_6_method_2_code 3 = .ok (.bipush 6, 2) := by decide +kernel
theorem d_B_find_5 : decode prog_6_method_2_code 5 = .ok (.imul, 1) := by decide +kernel
theorem d_B_find_6 : decode prog_6_method_2_code 6 = .ok (.iadd, 1) := by decide +kernel
theorem d_B_find_7 : decode prog_6_method_2_code 7 = .ok (.istore 4, 2) := by decide +kernel
theorem d_B_find_9 : decode prog_6_method_2_code 9 = .ok (.aload_n 1, 1) := by decide +kernel
theorem d_B_find_10 : decode prog_6_method_2_code 10 = .ok (.iload 4, 2) := by decide +kernel
theorem d_B_find_12 : decode prog_6_method_2_code 12 = .ok (.iconst 2, 1) := by decide +kernel
theorem d_B_find_13 : decode prog_6_method_2_code 13 = .ok (.iadd, 1) := by decide +kernel
theorem d_B_find_14 : decode prog_6_method_2_code 14 = .ok (.iaload, 1) := by decide +kernel
theorem d_B_find_15 : decode prog_6_method_2_code 15 = .ok (.istore 5, 2) := by decide +kernel
theorem d_B_find_17 : decode prog_6_method_2_code 17 = .ok (.iload 5, 2) := by decide +kernel
theorem d_B_find_19 : decode prog_6_method_2_code 19 = .ok (.iconst 1, 1) := by decide +kernel
theorem d_B_find_20 : decode prog_6_method_2_code 20 = .ok (.if_icmp .lt 10, 3) := by decide +kernel
theorem d_B_find_23 : decode prog_6_method_2_code 23 = .ok (.iload 5, 2) := by decide +kernel
theorem d_B_find_25 : decode prog_6_method_2_code 25 = .ok (.bipush 64, 2) := by decide +kernel
theorem d_B_find_27 : decode prog_6_method_2_code 27 = .ok (.if_icmp .le 5, 3) := by decide +kernel
theorem d_B_find_30 : decode prog_6_method_2_code 30 = .ok (.iconst 0, 1) := by decide +kernel
theorem d_B_find_31 : decode prog_6_method_2_code 31 = .ok (.ireturn, 1) := by decide +kernel
theorem d_B_find_32 : decode prog_6_method_2_code 32 = .ok (.bipush 8, 2) := by decide +kernel
theorem d_B_find_34 : decode prog_6_method_2_code 34 = .ok (.aload_n 1, 1) := by decide +kernel
theorem d_B_find_35 : decode prog_6_method_2_code 35 = .ok (.iload 4, 2) := by decide +kernel
theorem d_B_find_37 : decode prog_6_method_2_code 37 = .ok (.iaload, 1) := by decide +kernel
theorem d_B_find_38 : decode prog_6_method_2_code 38 = .ok (.imul, 1) := by decide +kernel
theorem d_B_find_39 : decode prog_6_method_2_code 39 = .ok (.aload_n 1, 1) := by decide +kernel
theorem d_B_find_40 : decode prog_6_method_2_code 40 = .ok (.iload 4, 2) := by decide +kernel
theorem d_B_find_42 : decode prog_6_method_2_code 42 = .ok (.iconst 1, 1) := by decide +kernel
theorem d_B_find_43 : decode prog_6_method_2_code 43 = .ok (.iadd, 1) := by decide +kernel
theorem d_B_find_44 : decode prog_6_method_2_code 44 = .ok (.iaload, 1) := by decide +kernel
theorem d_B_find_45 : decode prog_6_method_2_code 45 = .ok (.bipush 7, 2) := by decide +kernel
theorem d_B_find_47 : decode prog_6_method_2_code 47 = .ok (.iand, 1) := by decide +kernel
theorem d_B_find_48 : decode prog_6_method_2_code 48 = .ok (.iadd, 1) := by decide +kernel
theorem d_B_find_49 : decode prog_6_method_2_code 49 = .ok (.istore 6, 2) := by decide +kernel
theorem d_B_find_51 : decode prog_6_method_2_code 51 = .ok (.bipush 8, 2) := by decide +kernel
theorem d_B_find_53 : decode prog_6_method_2_code 53 = .ok (.aload_n 1, 1) := by decide +kernel
theorem d_B_find_54 : decode prog_6_method_2_code 54 = .ok (.iload 4, 2) := by decide +kernel
theorem d_B_find_56 : decode prog_6_method_2_code 56 = .ok (.iconst 3, 1) := by decide +kernel
theorem d_B_find_57 : decode prog_6_method_2_code 57 = .ok (.iadd, 1) := by decide +kernel
theorem d_B_find_58 : decode prog_6_method_2_code 58 = .ok (.iaload, 1) := by decide +kernel
theorem d_B_find_59 : decode prog_6_method_2_code 59 = .ok (.imul, 1) := by decide +kernel
theorem d_B_find_60 : decode prog_6_method_2_code 60 = .ok (.aload_n 1, 1) := by decide +kernel
theorem d_B_find_61 : decode prog_6_method_2_code 61 = .ok (.iload 4, 2) := by decide +kernel
theorem d_B_find_63 : decode prog_6_method_2_code 63 = .ok (.iconst 4, 1) := by decide +kernel
theorem d_B_find_64 : decode prog_6_method_2_code 64 = .ok (.iadd, 1) := by decide +kernel
theorem d_B_find_65 : decode prog_6_method_2_code 65 = .ok (.iaload, 1) := by decide +kernel
theorem d_B_find_66 : decode prog_6_method_2_code 66 = .ok (.bipush 7, 2) := by decide +kernel
theorem d_B_find_68 : decode prog_6_method_2_code 68 = .ok (.iand, 1) := by decide +kernel
theorem d_B_find_69 : decode prog_6_method_2_code 69 = .ok (.iadd, 1) := by decide +kernel
theorem d_B_find_70 : decode prog_6_method_2_code 70 = .ok (.istore 7, 2) := by decide +kernel
theorem d_B_find_72 : decode prog_6_method_2_code 72 = .ok (.iload 6, 2) := by decide +kernel
theorem d_B_find_74 : decode prog_6_method_2_code 74 = .ok (.bipush 8, 2) := by decide +kernel
theorem d_B_find_76 : decode prog_6_method_2_code 76 = .ok (.aload_n 3, 1) := by decide +kernel
theorem d_B_find_77 : decode prog_6_method_2_code 77 = .ok (.getfield 9, 3) := by decide +kernel
theorem d_B_find_80 : decode prog_6_method_2_code 80 = .ok (.imul, 1) := by decide +kernel
theorem d_B_find_81 : decode prog_6_method_2_code 81 = .ok (.invokestatic 15, 3) := by decide +kernel
theorem d_B_find_84 : decode prog_6_method_2_code 84 = .ok (.istore 8, 2) := by decide +kernel
theorem d_B_find_86 : decode prog_6_method_2_code 86 = .ok (.iload 6, 2) := by decide +kernel
theorem d_B_find_88 : decode prog_6_method_2_code 88 = .ok (.iload 5, 2) := by decide +kernel
theorem d_B_find_90 : decode prog_6_method_2_code 90 = .ok (.iadd, 1) := by decide +kernel
theorem d_B_find_91 : decode prog_6_method_2_code 91 = .ok (.bipush 8, 2) := by decide +kernel
theorem d_B_find_93 : decode prog_6_method_2_code 93 = .ok (.aload_n 3, 1) := by decide +kernel
theorem d_B_find_94 : decode prog_6_method_2_code 94 = .ok (.getfield 9, 3) := by decide +kernel
theorem d_B_find_97 : decode prog_6_method_2_code 97 = .ok (.aload_n 3, 1) := by decide +kernel
theorem d_B_find_98 : decode prog_6_method_2_code 98 = .ok (.getfield 21, 3) := by decide +kernel
theorem d_B_find_101 : decode prog_6_method_2_code 101 = .ok (.iadd, 1) := by decide +kernel
theorem d_B_find_102 : decode prog_6_method_2_code 102 = .ok (.imul, 1) := by decide +kernel
theorem d_B_find_103 : decode prog_6_method_2_code 103 = .ok (.invokestatic 24, 3) := by decide +kernel
theorem d_B_find_106 : decode prog_6_method_2_code 106 = .ok (.istore 9, 2) := by decide +kernel
theorem d_B_find_108 : decode prog_6_method_2_code 108 = .ok (.aload_n 0, 1) := by decide +kernel
theorem d_B_find_109 : decode prog_6_method_2_code 109 = .ok (.iload 8, 2) := by decide +kernel
theorem d_B_find_111 : decode prog_6_method_2_code 111 = .ok (.bipush 8, 2) := by decide +kernel
theorem d_B_find_113 : decode prog_6_method_2_code 113 = .ok (.aload_n 3, 1) := by decide +kernel
theorem d_B_find_114 : decode prog_6_method_2_code 114 = .ok (.getfield 9, 3) := by decide +kernel
theorem d_B_find_117 : decode prog_6_method_2_code 117 = .ok (.imul, 1) := by decide +kernel
theorem d_B_find_118 : decode prog_6_method_2_code 118 = .ok (.isub, 1) := by decide +kernel
theorem d_B_find_119 : decode prog_6_method_2_code 119 = .ok (.putfield 27, 3) := by decide +kernel
theorem d_B_find_122 : decode prog_6_method_2_code 122 = .ok (.aload_n 0, 1) := by decide +kernel
theorem d_B_find_123 : decode prog_6_method_2_code 123 = .ok (.iload 7, 2) := by decide +kernel
theorem d_B_find_125 : decode prog_6_method_2_code 125 = .ok (.iload 8, 2) := by decide +kernel
theorem d_B_find_127 : decode prog_6_method_2_code 127 = .ok (.iadd, 1) := by decide +kernel
theorem d_B_find_128 : decode prog_6_method_2_code 128 = .ok (.iload 6, 2) := by decide +kernel
theorem d_B_find_130 : decode prog_6_method_2_code 130 = .ok (.isub, 1) := by decide +kernel
theorem d_B_find_131 : decode prog_6_method_2_code 131 = .ok (.putfield 32, 3) := by decide +kernel
theorem d_B_find_134 : decode prog_6_method_2_code 134 = .ok (.aload_n 0, 1) := by decide +kernel
theorem d_B_find_135 : decode prog_6_method_2_code 135 = .ok (.iload 9, 2) := by decide +kernel
theorem d_B_find_137 : decode prog_6_method_2_code 137 = .ok (.iload 8, 2) := by decide +kernel
theorem d_B_find_139 : decode prog_6_method_2_code 139 = .ok (.isub, 1) := by decide +kernel
theorem d_B_find_140 : decode prog_6_method_2_code 140 = .ok (.putfield 35, 3) := by decide +kernel
theorem d_B_find_143 : decode prog_6_method_2_code 143 = .ok (.aload_n 0, 1) := by decide +kernel
theorem d_B_find_144 : decode prog_6_method_2_code 144 = .ok (.getfield 35, 3) := by decide +kernel
theorem d_B_find_147 : decode prog_6_method_2_code 147 = .ok (.ifCond .le 17, 3) := by decide +kernel
theorem d_B_find_150 : decode prog_6_method_2_code 150 = .ok (.aload_n 0, 1) := by decide +kernel
theorem d_B_find_151 : decode prog_6_method_2_code 151 = .ok (.invokevirtual 38, 3) := by decide +kernel
theorem d_B_find_154 : decode prog_6_method_2_code 154 = .ok (.sipush 128, 3) := by decide +kernel
theorem d_B_find_157 : decode prog_6_method_2_code 157 = .ok (.if_icmp .ge 7, 3) := by decide +kernel
theorem d_B_find_160 : decode prog_6_method_2_code 160 = .ok (.iconst 1, 1) := by decide +kernel
theorem d_B_find_161 : decode prog_6_method_2_code 161 = .ok (.goto 4, 3) := by decide +kernel
theorem d_B_find_164 : decode prog_6_method_2_code 164 = .ok (.iconst 0, 1) := by decide +kernel
theorem d_B_find_165 : decode prog_6_method_2_code 165 = .ok (.ireturn, 1) := by decide +kernel
theorem d_B_firstByte_0 : decode prog_6_method_3_code 0 = .ok (.aload_n 0, 1) := by decide +kernel
theorem d_B_firstByte_1 : decode prog_6_method_3_code 1 = .ok (.getfield 32, 3) := by decide +kernel
theorem d_B_firstByte_4 : decode prog_6_method_3_code 4 = .ok (.bipush 8, 2) := by decide +kernel
theorem d_B_firstByte_6 : decode prog_6_method_3_code 6 = .ok (.idiv, 1) := by decide +kernel
theorem d_B_firstByte_7 : decode prog_6_method_3_code 7 = .ok (.ireturn, 1) := by decide +kernel
theorem d_B_putIntoData_0 : decode prog_6_method_5_code 0 = .ok (.bipush 8, 2) := by decide +kernel
theorem d_B_putIntoData_2 : decode prog_6_method_5_code 2 = .ok (.aload_n 0, 1) := by decide +kernel
theorem d_B_putIntoData_3 : decode prog_6_method_5_code 3 = .ok (.invokevirtual 42, 3) := by decide +kernel
theorem d_B_putIntoData_6 : decode prog_6_method_5_code 6 = .ok (.imul, 1) := by decide +kernel
theorem d_B_putIntoData_7 : decode prog_6_method_5_code 7 = .ok (.istore_n 3, 1) := by decide +kernel
theorem d_B_putIntoData_8 : decode prog_6_method_5_code 8 = .ok (.iconst 0, 1) := by decide +kernel
theorem d_B_putIntoData_9 : decode prog_6_method_5_code 9 = .ok (.istore 4, 2) := by decide +kernel
theorem d_B_putIntoData_11 : decode prog_6_method_5_code 11 = .ok (.iload 4, 2) := by decide +kernel
theorem d_B_putIntoData_13 : decode prog_6_method_5_code 13 = .ok (.aload_n 0, 1) := by decide +kernel
theorem d_B_putIntoData_14 : decode prog_6_method_5_code 14 = .ok (.getfield 35, 3) := by decide +kernel
theorem d_B_putIntoData_17 : decode prog_6_method_5_code 17 = .ok (.if_icmp .ge 79, 3) := by decide +kernel
theorem d_B_putIntoData_20 : decode prog_6_method_5_code 20 = .ok (.aload_n 0, 1) := by decide +kernel
theorem d_B_putIntoData_21 : decode prog_6_method_5_code 21 = .ok (.getfield 32, 3) := by decide +kernel
theorem d_B_putIntoData_24 : decode prog_6_method_5_code 24 = .ok (.iload 4, 2) := by decide +kernel
theorem d_B_putIntoData_26 : decode prog_6_method_5_code 26 = .ok (.iadd, 1) := by decide +kernel
theorem d_B_putIntoData_27 : decode prog_6_method_5_code 27 = .ok (.iload_n 3, 1) := by decide +kernel
theorem d_B_putIntoData_28 : decode prog_6_method_5_code 28 = .ok (.isub, 1) := by decide +kernel
theorem d_B_putIntoData_29 : decode prog_6_method_5_code 29 = .ok (.istore 5, 2) := by decide +kernel
theorem d_B_putIntoData_31 : decode prog_6_method_5_code 31 = .ok (.aload_n 0, 1) := by decide +kernel
theorem d_B_putIntoData_32 : decode prog_6_method_5_code 32 = .ok (.getfield 27, 3) := by decide +kernel
theorem d_B_putIntoData_35 : decode prog_6_method_5_code 35 = .ok (.iload 4, 2) := by decide +kernel
theorem d_B_putIntoData_37 : decode prog_6_method_5_code 37 = .ok (.iadd, 1) := by decide +kernel
theorem d_B_putIntoData_38 : decode prog_6_method_5_code 38 = .ok (.istore 6, 2) := by decide +kernel
theorem d_B_putIntoData_40 : decode prog_6_method_5_code 40 = .ok (.aload_n 1, 1) := by decide +kernel
theorem d_B_putIntoData_41 : decode prog_6_method_5_code 41 = .ok (.iload 5, 2) := by decide +kernel
theorem d_B_putIntoData_43 : decode prog_6_method_5_code 43 = .ok (.bipush 8, 2) := by decide +kernel
theorem d_B_putIntoData_45 : decode prog_6_method_5_code 45 = .ok (.idiv, 1) := by decide +kernel
theorem d_B_putIntoData_46 : decode prog_6_method_5_code 46 = .ok (.iaload, 1) := by decide +kernel
theorem d_B_putIntoData_47 : decode prog_6_method_5_code 47 = .ok (.iload 5, 2) := by decide +kernel
theorem d_B_putIntoData_49 : decode prog_6_method_5_code 49 = .ok (.bipush 8, 2) := by decide +kernel
theorem d_B_putIntoData_51 : decode prog_6_method_5_code 51 = .ok (.irem, 1) := by decide +kernel
theorem d_B_putIntoData_52 : decode prog_6_method_5_code 52 = .ok (.ishr, 1) := by decide +kernel
theorem d_B_putIntoData_53 : decode prog_6_method_5_code 53 = .ok (.iconst 1, 1) := by decide +kernel
theorem d_B_putIntoData_54 : decode prog_6_method_5_code 54 = .ok (.iand, 1) := by decide +kernel
theorem d_B_putIntoData_55 : decode prog_6_method_5_code 55 = .ok (.istore 7, 2) := by decide +kernel
theorem d_B_putIntoData_57 : decode prog_6_method_5_code 57 = .ok (.aload_n 2, 1) := by decide +kernel
theorem d_B_putIntoData_58 : decode prog_6_method_5_code 58 = .ok (.iload 6, 2) := by decide +kernel
theorem d_B_putIntoData_60 : decode prog_6_method_5_code 60 = .ok (.bipush 8, 2) := by decide +kernel
theorem d_B_putIntoData_62 : decode prog_6_method_5_code 62 = .ok (.idiv, 1) := by decide +kernel
theorem d_B_putIntoData_63 : decode prog_6_method_5_code 63 = .ok (.aload_n 2, 1) := by decide +kernel
theorem d_B_putIntoData_64 : decode prog_6_method_5_code 64 = .ok (.iload 6, 2) := by decide +kernel
theorem d_B_putIntoData_66 : decode prog_6_method_5_code 66 = .ok (.bipush 8, 2) := by decide +kernel
theorem d_B_putIntoData_68 : decode prog_6_method_5_code 68 = .ok (.idiv, 1) := by decide +kernel
theorem d_B_putIntoData_69 : decode prog_6_method_5_code 69 = .ok (.iaload, 1) := by decide +kernel
theorem d_B_putIntoData_70 : decode prog_6_method_5_code 70 = .ok (.iconst 1, 1) := by decide +kernel
theorem d_B_putIntoData_71 : decode prog_6_method_5_code 71 = .ok (.iload 6, 2) := by decide +kernel
theorem d_B_putIntoData_73 : decode prog_6_method_5_code 73 = .ok (.bipush 8, 2) := by decide +kernel
theorem d_B_putIntoData_75 : decode prog_6_method_5_code 75 = .ok (.irem, 1) := by decide +kernel
theorem d_B_putIntoData_76 : decode prog_6_method_5_code 76 = .ok (.ishl, 1) := by decide +kernel
theorem d_B_putIntoData_77 : decode prog_6_method_5_code 77 = .ok (.iconst (-1), 1) := by decide +kernel
theorem d_B_putIntoData_78 : decode prog_6_method_5_code 78 = .ok (.ixor, 1) := by decide +kernel
theorem d_B_putIntoData_79 : decode prog_6_method_5_code 79 = .ok (.iand, 1) := by decide +kernel
theorem d_B_putIntoData_80 : decode prog_6_method_5_code 80 = .ok (.iload 7, 2) := by decide +kernel
theorem d_B_putIntoData_82 : decode prog_6_method_5_code 82 = .ok (.iload 6, 2) := by decide +kernel
theorem d_B_putIntoData_84 : decode prog_6_method_5_code 84 = .ok (.bipush 8, 2) := by decide +kernel
theorem d_B_putIntoData_86 : decode prog_6_method_5_code 86 = .ok (.irem, 1) := by decide +kernel
theorem d_B_putIntoData_87 : decode prog_6_method_5_code 87 = .ok (.ishl, 1) := by decide +kernel
theorem d_B_putIntoData_88 : decode prog_6_method_5_code 88 = .ok (.ior, 1) := by decide +kernel
theorem d_B_putIntoData_89 : decode prog_6_method_5_code 89 = .ok (.iastore, 1) := by decide +kernel
theorem d_B_putIntoData_90 : decode prog_6_method_5_code 90 = .ok (.iinc 4 1, 3) := by decide +kernel
theorem d_B_putIntoData_93 : decode prog_6_method_5_code 93 = .ok (.goto (-82), 3) := by decide +kernel
theorem d_B_putIntoData_96 : decode prog_6_method_5_code 96 = .ok (.return_, 1) := by decide +kernel
theorem d_B_putIntoRow_0 : decode prog_6_method_6_code 0 = .ok (.aload_n 2, 1) := by decide +kernel
theorem d_B_putIntoRow_1 : decode prog_6_method_6_code 1 = .ok (.iconst 0, 1) := by decide +kernel
theorem d_B_putIntoRow_2 : decode prog_6_method_6_code 2 = .ok (.invokestatic 45, 3) := by decide +kernel
theorem d_B_putIntoRow_5 : decode prog_6_method_6_code 5 = .ok (.aload_n 3, 1) := by decide +kernel
theorem d_B_putIntoRow_6 : decode prog_6_method_6_code 6 = .ok (.iconst 0, 1) := by decide +kernel
theorem d_B_putIntoRow_7 : decode prog_6_method_6_code 7 = .ok (.invokestatic 45, 3) := by decide +kernel
theorem d_B_putIntoRow_10 : decode prog_6_method_6_code 10 = .ok (.bipush 8, 2) := by decide +kernel
theorem d_B_putIntoRow_12 : decode prog_6_method_6_code 12 = .ok (.aload_n 0, 1) := by decide +kernel
theorem d_B_putIntoRow_13 : decode prog_6_method_6_code 13 = .ok (.invokevirtual 42, 3) := by decide +kernel
theorem d_B_putIntoRow_16 : decode prog_6_method_6_code 16 = .ok (.imul, 1) := by decide +kernel
theorem d_B_putIntoRow_17 : decode prog_6_method_6_code 17 = .ok (.istore 4, 2) := by decide +kernel
theorem d_B_putIntoRow_19 : decode prog_6_method_6_code 19 = .ok (.iconst 0, 1) := by decide +kernel
theorem d_B_putIntoRow_20 : decode prog_6_method_6_code 20 = .ok (.istore 5, 2) := by decide +kernel
theorem d_B_putIntoRow_22 : decode prog_6_method_6_code 22 = .ok (.iload 5, 2) := by decide +kernel
theorem d_B_putIntoRow_24 : decode prog_6_method_6_code 24 = .ok (.aload_n 0, 1) := by decide +kernel
theorem d_B_putIntoRow_25 : decode prog_6_method_6_code 25 = .ok (.getfield 35, 3) := by decide +kernel
theorem d_B_putIntoRow_28 : decode prog_6_method_6_code 28 = .ok (.if_icmp .ge 82, 3) := by decide +kernel
theorem d_B_putIntoRow_31 : decode prog_6_method_6_code 31 = .ok (.aload_n 0, 1) := by decide +kernel
theorem d_B_putIntoRow_32 : decode prog_6_method_6_code 32 = .ok (.getfield 27, 3) := by decide +kernel
theorem d_B_putIntoRow_35 : decode prog_6_method_6_code 35 = .ok (.iload 5, 2) := by decide +kernel
theorem d_B_putIntoRow_37 : decode prog_6_method_6_code 37 = .ok (.iadd, 1) := by decide +kernel
theorem d_B_putIntoRow_38 : decode prog_6_method_6_code 38 = .ok (.istore 6, 2) := by decide +kernel
theorem d_B_putIntoRow_40 : decode prog_6_method_6_code 40 = .ok (.aload_n 0, 1) := by decide +kernel
theorem d_B_putIntoRow_41 : decode prog_6_method_6_code 41 = .ok (.getfield 32, 3) := by decide +kernel
theorem d_B_putIntoRow_44 : decode prog_6_method_6_code 44 = .ok (.iload 5, 2) := by decide +kernel
theorem d_B_putIntoRow_46 : decode prog_6_method_6_code 46 = .ok (.iadd, 1) := by decide +kernel
theorem d_B_putIntoRow_47 : decode prog_6_method_6_code 47 = .ok (.iload 4, 2) := by decide +kernel
theorem d_B_putIntoRow_49 : decode prog_6_method_6_code 49 = .ok (.isub, 1) := by decide +kernel
theorem d_B_putIntoRow_50 : decode prog_6_method_6_code 50 = .ok (.istore 7, 2) := by decide +kernel
theorem d_B_putIntoRow_52 : decode prog_6_method_6_code 52 = .ok (.aload_n 1, 1) := by decide +kernel
theorem d_B_putIntoRow_53 : decode prog_6_method_6_code 53 = .ok (.iload 6, 2) := by decide +kernel
theorem d_B_putIntoRow_55 : decode prog_6_method_6_code 55 = .ok (.bipush 8, 2) := by decide +kernel
theorem d_B_putIntoRow_57 : decode prog_6_method_6_code 57 = .ok (.idiv, 1) := by decide +kernel
theorem d_B_putIntoRow_58 : decode prog_6_method_6_code 58 = .ok (.iaload, 1) := by decide +kernel
theorem d_B_putIntoRow_59 : decode prog_6_method_6_code 59 = .ok (.iload 6, 2) := by decide +kernel
theorem d_B_putIntoRow_61 : decode prog_6_method_6_code 61 = .ok (.bipush 8, 2) := by decide +kernel
theorem d_B_putIntoRow_63 : decode prog_6_method_6_code 63 = .ok (.irem, 1) := by decide +kernel
theorem d_B_putIntoRow_64 : decode prog_6_method_6_code 64 = .ok (.ishr, 1) := by decide +kernel
theorem d_B_putIntoRow_65 : decode prog_6_method_6_code 65 = .ok (.iconst 1, 1) := by decide +kernel
theorem d_B_putIntoRow_66 : decode prog_6_method_6_code 66 = .ok (.iand, 1) := by decide +kernel
theorem d_B_putIntoRow_67 : decode prog_6_method_6_code 67 = .ok (.istore 8, 2) := by decide +kernel
theorem d_B_putIntoRow_69 : decode prog_6_method_6_code 69 = .ok (.aload_n 2, 1) := by decide +kernel
theorem d_B_putIntoRow_70 : decode prog_6_method_6_code 70 = .ok (.iload 7, 2) := by decide +kernel
theorem d_B_putIntoRow_72 : decode prog_6_method_6_code 72 = .ok (.bipush 8, 2) := by decide +kernel
theorem d_B_putIntoRow_74 : decode prog_6_method_6_code 74 = .ok (.idiv, 1) := by decide +kernel
theorem d_B_putIntoRow_75 : decode prog_6_method_6_code 75 = .ok (.dup2, 1) := by decide +kernel
theorem d_B_putIntoRow_76 : decode prog_6_method_6_code 76 = .ok (.iaload, 1) := by decide +kernel
theorem d_B_putIntoRow_77 : decode prog_6_method_6_code 77 = .ok (.iload 8, 2) := by decide +kernel
theorem d_B_putIntoRow_79 : decode prog_6_method_6_code 79 = .ok (.iload 7, 2) := by decide +kernel
theorem d_B_putIntoRow_81 : decode prog_6_method_6_code 81 = .ok (.bipush 8, 2) := by decide +kernel
theorem d_B_putIntoRow_83 : decode prog_6_method_6_code 83 = .ok (.irem, 1) := by decide +kernel
theorem d_B_putIntoRow_84 : decode prog_6_method_6_code 84 = .ok (.ishl, 1) := by decide +kernel
theorem d_B_putIntoRow_85 : decode prog_6_method_6_code 85 = .ok (.ior, 1) := by decide +kernel
theorem d_B_putIntoRow_86 : decode prog_6_method_6_code 86 = .ok (.iastore, 1) := by decide +kernel
theorem d_B_putIntoRow_87 : decode prog_6_method_6_code 87 = .ok (.aload_n 3, 1) := by decide +kernel
theorem d_B_putIntoRow_88 : decode prog_6_method_6_code 88 = .ok (.iload 7, 2) := by decide +kernel
theorem d_B_putIntoRow_90 : decode prog_6_method_6_code 90 = .ok (.bipush 8, 2) := by decide +kernel
theorem d_B_putIntoRow_92 : decode prog_6_method_6_code 92 = .ok (.idiv, 1) := by decide +kernel
theorem d_B_putIntoRow_93 : decode prog_6_method_6_code 93 = .ok (.dup2, 1) := by decide +kernel
theorem d_B_putIntoRow_94 : decode prog_6_method_6_code 94 = .ok (.iaload, 1) := by decide +kernel
theorem d_B_putIntoRow_95 : decode prog_6_method_6_code 95 = .ok (.iconst 1, 1) := by decide +kernel
theorem d_B_putIntoRow_96 : decode prog_6_method_6_code 96 = .ok (.iload 7, 2) := by decide +kernel
theorem d_B_putIntoRow_98 : decode prog_6_method_6_code 98 = .ok (.bipush 8, 2) := by decide +kernel
theorem d_B_putIntoRow_100 : decode prog_6_method_6_code 100 = .ok (.irem, 1) := by decide +kernel
theorem d_B_putIntoRow_101 : decode prog_6_method_6_code 101 = .ok (.ishl, 1) := by decide +kernel
theorem d_B_putIntoRow_102 : decode prog_6_method_6_code 102 = .ok (.ior, 1) := by decide +kernel
theorem d_B_putIntoRow_103 : decode prog_6_method_6_code 103 = .ok (.iastore, 1) := by decide +kernel
theorem d_B_putIntoRow_104 : decode prog_6_method_6_code 104 = .ok (.iinc 5 1, 3) := by decide +kernel
theorem d_B_putIntoRow_107 : decode prog_6_method_6_code 107 = .ok (.goto (-85), 3) := by decide +kernel
theorem d_B_putIntoRow_110 : decode prog_6_method_6_code 110 = .ok (.return_, 1) := by decide +kernel
theorem d_S_performLogical_0 : decode prog_8_method_4_code 0 = .ok (.aload_n 1, 1) := by decide +kernel
theorem d_S_performLogical_1 : decode prog_8_method_4_code 1 = .ok (.getfield 73, 3) := by decide +kernel
theorem d_S_performLogical_4 : decode prog_8_method_4_code 4 = .ok (.iconst 0, 1) := by decide +kernel
theorem d_S_performLogical_5 : decode prog_8_method_4_code 5 = .ok (.aload_n 0, 1) := by decide +kernel
theorem d_S_performLogical_6 : decode prog_8_method_4_code 6 = .ok (.getfield 32, 3) := by decide +kernel
theorem d_S_performLogical_9 : decode prog_8_method_4_code 9 = .ok (.iconst 0, 1) := by decide +kernel
theorem d_S_performLogical_10 : decode prog_8_method_4_code 10 = .ok (.bipush 8, 2) := by decide +kernel
theorem d_S_performLogical_12 : decode prog_8_method_4_code 12 = .ok (.invokestatic 87, 3) := by decide +kernel
theorem d_S_performLogical_15 : decode prog_8_method_4_code 15 = .ok (.iconst 0, 1) := by decide +kernel
theorem d_S_performLogical_16 : decode prog_8_method_4_code 16 = .ok (.istore_n 2, 1) := by decide +kernel
theorem d_S_performLogical_17 : decode prog_8_method_4_code 17 = .ok (.iconst 0, 1) := by decide +kernel
theorem d_S_performLogical_18 : decode prog_8_method_4_code 18 = .ok (.istore_n 3, 1) := by decide +kernel
theorem d_S_performLogical_19 : decode prog_8_method_4_code 19 = .ok (.iconst 0, 1) := by decide +kernel
theorem d_S_performLogical_20 : decode prog_8_method_4_code 20 = .ok (.istore 4, 2) := by decide +kernel
theorem d_S_performLogical_22 : decode prog_8_method_4_code 22 = .ok (.iload 4, 2) := by decide +kernel
theorem d_S_performLogical_24 : decode prog_8_method_4_code 24 = .ok (.iconst 4, 1) := by decide +kernel
theorem d_S_performLogical_25 : decode prog_8_method_4_code 25 = .ok (.if_icmp .ge 203, 3) := by decide +kernel
theorem d_S_performLogical_28 : decode prog_8_method_4_code 28 = .ok (.aload_n 0, 1) := by decide +kernel
theorem d_S_performLogical_29 : decode prog_8_method_4_code 29 = .ok (.getfield 28, 3) := by decide +kernel
theorem d_S_performLogical_32 : decode prog_8_method_4_code 32 = .ok (.aload_n 0, 1) := by decide +kernel
theorem d_S_performLogical_33 : decode prog_8_method_4_code 33 = .ok (.getfield 21, 3) := by decide +kernel
theorem d_S_performLogical_36 : decode prog_8_method_4_code 36 = .ok (.getfield 45, 3) := by decide +kernel
theorem d_S_performLogical_39 : decode prog_8_method_4_code 39 = .ok (.iload 4, 2) := by decide +kernel
theorem d_S_performLogical_41 : decode prog_8_method_4_code 41 = .ok (.aload_n 1, 1) := by decide +kernel
theorem d_S_performLogical_42 : decode prog_8_method_4_code 42 = .ok (.invokevirtual 93, 3) := by decide +kernel
theorem d_S_performLogical_45 : decode prog_8_method_4_code 45 = .ok (.ifCond .ne 6, 3) := by decide +kernel
theorem d_S_performLogical_48 : decode prog_8_method_4_code 48 = .ok (.goto 174, 3) := by decide +kernel
theorem d_S_performLogical_51 : decode prog_8_method_4_code 51 = .ok (.aload_n 0, 1) := by decide +kernel
theorem d_S_performLogical_52 : decode prog_8_method_4_code 52 = .ok (.getfield 21, 3) := by decide +kernel
theorem d_S_performLogical_55 : decode prog_8_method_4_code 55 = .ok (.getfield 45, 3) := by decide +kernel
theorem d_S_performLogical_58 : decode prog_8_method_4_code 58 = .ok (.bipush 8, 2) := by decide +kernel
theorem d_S_performLogical_60 : decode prog_8_method_4_code 60 = .ok (.iload 4, 2) := by decide +kernel
theorem d_S_performLogical_62 : decode prog_8_method_4_code 62 = .ok (.bipush 6, 2) := by decide +kernel
theorem d_S_performLogical_64 : decode prog_8_method_4_code 64 = .ok (.imul, 1) := by decide +kernel
theorem d_S_performLogical_65 : decode prog_8_method_4_code 65 = .ok (.iadd, 1) := by decide +kernel
theorem d_S_performLogical_66 : decode prog_8_method_4_code 66 = .ok (.iconst 5, 1) := by decide +kernel
theorem d_S_performLogical_67 : decode prog_8_method_4_code 67 = .ok (.iadd, 1) := by decide +kernel
theorem d_S_performLogical_68 : decode prog_8_method_4_code 68 = .ok (.iaload, 1) := by decide +kernel
theorem d_S_performLogical_69 : decode prog_8_method_4_code 69 = .ok (.istore 5, 2) := by decide +kernel
theorem d_S_performLogical_71 : decode prog_8_method_4_code 71 = .ok (.iload 5, 2) := by decide +kernel
theorem d_S_performLogical_73 : decode prog_8_method_4_code 73 = .ok (.iconst 1, 1) := by decide +kernel
theorem d_S_performLogical_74 : decode prog_8_method_4_code 74 = .ok (.iand, 1) := by decide +kernel
theorem d_S_performLogical_75 : decode prog_8_method_4_code 75 = .ok (.ifCond .eq 16, 3) := by decide +kernel
theorem d_S_performLogical_78 : decode prog_8_method_4_code 78 = .ok (.aload_n 1, 1) := by decide +kernel
theorem d_S_performLogical_79 : decode prog_8_method_4_code 79 = .ok (.getfield 48, 3) := by decide +kernel
theorem d_S_performLogical_82 : decode prog_8_method_4_code 82 = .ok (.bipush 11, 2) := by decide +kernel
theorem d_S_performLogical_84 : decode prog_8_method_4_code 84 = .ok (.if_icmp .eq 7, 3) := by decide +kernel
theorem d_S_performLogical_87 : decode prog_8_method_4_code 87 = .ok (.iconst 1, 1) := by decide +kernel
theorem d_S_performLogical_88 : decode prog_8_method_4_code 88 = .ok (.goto 4, 3) := by decide +kernel
theorem d_S_performLogical_91 : decode prog_8_method_4_code 91 = .ok (.iconst 0, 1) := by decide +kernel
theorem d_S_performLogical_92 : decode prog_8_method_4_code 92 = .ok (.istore 6, 2) := by decide +kernel
theorem d_S_performLogical_94 : decode prog_8_method_4_code 94 = .ok (.iload 5, 2) := by decide +kernel
theorem d_S_performLogical_96 : decode prog_8_method_4_code 96 = .ok (.iconst 2, 1) := by decide +kernel
theorem d_S_performLogical_97 : decode prog_8_method_4_code 97 = .ok (.iand, 1) := by decide +kernel
theorem d_S_performLogical_98 : decode prog_8_method_4_code 98 = .ok (.ifCond .eq 16, 3) := by decide +kernel
theorem d_S_performLogical_101 : decode prog_8_method_4_code 101 = .ok (.aload_n 1, 1) := by decide +kernel
theorem d_S_performLogical_102 : decode prog_8_method_4_code 102 = .ok (.getfield 48, 3) := by decide +kernel
theorem d_S_performLogical_105 : decode prog_8_method_4_code 105 = .ok (.bipush 10, 2) := by decide +kernel
theorem d_S_performLogical_107 : decode prog_8_method_4_code 107 = .ok (.if_icmp .eq 7, 3) := by decide +kernel
theorem d_S_performLogical_110 : decode prog_8_method_4_code 110 = .ok (.iconst 1, 1) := by decide +kernel
theorem d_S_performLogical_111 : decode prog_8_method_4_code 111 = .ok (.goto 4, 3) := by decide +kernel
theorem d_S_performLogical_114 : decode prog_8_method_4_code 114 = .ok (.iconst 0, 1) := by decide +kernel
theorem d_S_performLogical_115 : decode prog_8_method_4_code 115 = .ok (.istore 7, 2) := by decide +kernel
theorem d_S_performLogical_117 : decode prog_8_method_4_code 117 = .ok (.iload 6, 2) := by decide +kernel
theorem d_S_performLogical_119 : decode prog_8_method_4_code 119 = .ok (.ifCond .eq 47, 3) := by decide +kernel
theorem d_S_performLogical_122 : decode prog_8_method_4_code 122 = .ok (.aload_n 0, 1) := by decide +kernel
theorem d_S_performLogical_123 : decode prog_8_method_4_code 123 = .ok (.getfield 21, 3) := by decide +kernel
theorem d_S_performLogical_126 : decode prog_8_method_4_code 126 = .ok (.aload_n 0, 1) := by decide +kernel
theorem d_S_performLogical_127 : decode prog_8_method_4_code 127 = .ok (.getfield 28, 3) := by decide +kernel
theorem d_S_performLogical_130 : decode prog_8_method_4_code 130 = .ok (.invokevirtual 97, 3) := by decide +kernel
theorem d_S_performLogical_133 : decode prog_8_method_4_code 133 = .ok (.aload_n 0, 1) := by decide +kernel
theorem d_S_performLogical_134 : decode prog_8_method_4_code 134 = .ok (.getfield 28, 3) := by decide +kernel
theorem d_S_performLogical_137 : decode prog_8_method_4_code 137 = .ok (.invokevirtual 101, 3) := by decide +kernel
theorem d_S_performLogical_140 : decode prog_8_method_4_code 140 = .ok (.invokevirtual 84, 3) := by decide +kernel
theorem d_S_performLogical_143 : decode prog_8_method_4_code 143 = .ok (.ifCond .eq 23, 3) := by decide +kernel
theorem d_S_performLogical_146 : decode prog_8_method_4_code 146 = .ok (.aload_n 0, 1) := by decide +kernel
theorem d_S_performLogical_147 : decode prog_8_method_4_code 147 = .ok (.getfield 28, 3) := by decide +kernel
theorem d_S_performLogical_150 : decode prog_8_method_4_code 150 = .ok (.aload_n 0, 1) := by decide +kernel
theorem d_S_performLogical_151 : decode prog_8_method_4_code 151 = .ok (.getfield 21, 3) := by decide +kernel
theorem d_S_performLogical_154 : decode prog_8_method_4_code 154 = .ok (.getfield 70, 3) := by decide +kernel
theorem d_S_performLogical_157 : decode prog_8_method_4_code 157 = .ok (.aload_n 1, 1) := by decide +kernel
theorem d_S_performLogical_158 : decode prog_8_method_4_code 158 = .ok (.getfield 73, 3) := by decide +kernel
theorem d_S_performLogical_161 : decode prog_8_method_4_code 161 = .ok (.invokevirtual 104, 3) := by decide +kernel
theorem d_S_performLogical_164 : decode prog_8_method_4_code 164 = .ok (.iconst 1, 1) := by decide +kernel
theorem d_S_performLogical_165 : decode prog_8_method_4_code 165 = .ok (.istore_n 2, 1) := by decide +kernel
theorem d_S_performLogical_166 : decode prog_8_method_4_code 166 = .ok (.iload 7, 2) := by decide +kernel
theorem d_S_performLogical_168 : decode prog_8_method_4_code 168 = .ok (.ifCond .eq 54, 3) := by decide +kernel
theorem d_S_performLogical_171 : decode prog_8_method_4_code 171 = .ok (.aload_n 0, 1) := by decide +kernel
theorem d_S_performLogical_172 : decode prog_8_method_4_code 172 = .ok (.getfield 28, 3) := by decide +kernel
theorem d_S_performLogical_175 : decode prog_8_method_4_code 175 = .ok (.aload_n 0, 1) := by decide +kernel
theorem d_S_performLogical_176 : decode prog_8_method_4_code 176 = .ok (.getfield 32, 3) := by decide +kernel
theorem d_S_performLogical_179 : decode prog_8_method_4_code 179 = .ok (.aload_n 0, 1) := by decide +kernel
theorem d_S_performLogical_180 : decode prog_8_method_4_code 180 = .ok (.getfield 21, 3) := by decide +kernel
theorem d_S_performLogical_183 : decode prog_8_method_4_code 183 = .ok (.getfield 70, 3) := by decide +kernel
theorem d_S_performLogical_186 : decode prog_8_method_4_code 186 = .ok (.aload_n 0, 1) := by decide +kernel
theorem d_S_performLogical_187 : decode prog_8_method_4_code 187 = .ok (.getfield 21, 3) := by decide +kernel
theorem d_S_performLogical_190 : decode prog_8_method_4_code 190 = .ok (.getfield 74, 3) := by decide +kernel
theorem d_S_performLogical_193 : decode prog_8_method_4_code 193 = .ok (.invokevirtual 108, 3) := by decide +kernel
theorem d_S_performLogical_196 : decode prog_8_method_4_code 196 = .ok (.aload_n 0, 1) := by decide +kernel
theorem d_S_performLogical_197 : decode prog_8_method_4_code 197 = .ok (.getfield 21, 3) := by decide +kernel
theorem d_S_performLogical_200 : decode prog_8_method_4_code 200 = .ok (.aload_n 0, 1) := by decide +kernel
theorem d_S_performLogical_201 : decode prog_8_method_4_code 201 = .ok (.getfield 28, 3) := by decide +kernel
theorem d_S_performLogical_204 : decode prog_8_method_4_code 204 = .ok (.invokevirtual 97, 3) := by decide +kernel
theorem d_S_performLogical_207 : decode prog_8_method_4_code 207 = .ok (.aload_n 0, 1) := by decide +kernel
theorem d_S_performLogical_208 : decode prog_8_method_4_code 208 = .ok (.getfield 28, 3) := by decide +kernel
theorem d_S_performLogical_211 : decode prog_8_method_4_code 211 = .ok (.invokevirtual 101, 3) := by decide +kernel
theorem d_S_performLogical_214 : decode prog_8_method_4_code 214 = .ok (.invokevirtual 77, 3) := by decide +kernel
theorem d_S_performLogical_217 : decode prog_8_method_4_code 217 = .ok (.ifCond .eq 5, 3) := by decide +kernel
theorem d_S_performLogical_220 : decode prog_8_method_4_code 220 = .ok (.iconst 1, 1) := by decide +kernel
theorem d_S_performLogical_221 : decode prog_8_method_4_code 221 = .ok (.istore_n 3, 1) := by decide +kernel
theorem d_S_performLogical_222 : decode prog_8_method_4_code 222 = .ok (.iinc 4 1, 3) := by decide +kernel
theorem d_S_performLogical_225 : decode prog_8_method_4_code 225 = .ok (.goto (-203), 3) := by decide +kernel
theorem d_S_performLogical_228 : decode prog_8_method_4_code 228 = .ok (.iload_n 2, 1) := by decide +kernel
theorem d_S_performLogical_229 : decode prog_8_method_4_code 229 = .ok (.ifCond .eq 13, 3) := by decide +kernel
theorem d_S_performLogical_232 : decode prog_8_method_4_code 232 = .ok (.aload_n 1, 1) := by decide +kernel
theorem d_S_performLogical_233 : decode prog_8_method_4_code 233 = .ok (.dup, 1) := by decide +kernel
theorem d_S_performLogical_234 : decode prog_8_method_4_code 234 = .ok (.getfield 81, 3) := by decide +kernel
theorem d_S_performLogical_237 : decode prog_8_method_4_code 237 = .ok (.iconst 1, 1) := by decide +kernel
theorem d_S_performLogical_238 : decode prog_8_method_4_code 238 = .ok (.iadd, 1) := by decide +kernel
theorem d_S_performLogical_239 : decode prog_8_method_4_code 239 = .ok (.putfield 81, 3) := by decide +kernel
theorem d_S_performLogical_242 : decode prog_8_method_4_code 242 = .ok (.iload_n 3, 1) := by decide +kernel
theorem d_S_performLogical_243 : decode prog_8_method_4_code 243 = .ok (.ifCond .eq 26, 3) := by decide +kernel
theorem d_S_performLogical_246 : decode prog_8_method_4_code 246 = .ok (.aload_n 1, 1) := by decide +kernel
theorem d_S_performLogical_247 : decode prog_8_method_4_code 247 = .ok (.dup, 1) := by decide +kernel
theorem d_S_performLogical_248 : decode prog_8_method_4_code 248 = .ok (.getfield 81, 3) := by decide +kernel
theorem d_S_performLogical_251 : decode prog_8_method_4_code 251 = .ok (.aload_n 1, 1) := by decide +kernel
theorem d_S_performLogical_252 : decode prog_8_method_4_code 252 = .ok (.getfield 48, 3) := by decide +kernel
theorem d_S_performLogical_255 : decode prog_8_method_4_code 255 = .ok (.bipush 12, 2) := by decide +kernel
theorem d_S_performLogical_257 : decode prog_8_method_4_code 257 = .ok (.if_icmp .ne 7, 3) := by decide +kernel
theorem d_S_performLogical_260 : decode prog_8_method_4_code 260 = .ok (.iconst 2, 1) := by decide +kernel
theorem d_S_performLogical_261 : decode prog_8_method_4_code 261 = .ok (.goto 4, 3) := by decide +kernel
theorem d_S_performLogical_264 : decode prog_8_method_4_code 264 = .ok (.iconst 1, 1) := by decide +kernel
theorem d_S_performLogical_265 : decode prog_8_method_4_code 265 = .ok (.iadd, 1) := by decide +kernel
theorem d_S_performLogical_266 : decode prog_8_method_4_code 266 = .ok (.putfield 81, 3) := by decide +kernel
theorem d_S_performLogical_269 : decode prog_8_method_4_code 269 = .ok (.return_, 1) := by decide +kernel
theorem d_S_perform_0 : decode prog_8_method_2_code 0 = .ok (.aload_n 1, 1) := by decide +kernel
theorem d_S_perform_1 : decode prog_8_method_2_code 1 = .ok (.getfield 48, 3) := by decide +kernel
theorem d_S_perform_4 : decode prog_8_method_2_code 4 = .ok (.tableswitch 121 1 8 #[48, 48, 121, 76, 76, 121, 100, 100], 48) := by decide +kernel
theorem d_S_perform_52 : decode prog_8_method_2_code 52 = .ok (.aload_n 1, 1) := by decide +kernel
theorem d_S_perform_53 : decode prog_8_method_2_code 53 = .ok (.getfield 53, 3) := by decide +kernel
theorem d_S_perform_56 : decode prog_8_method_2_code 56 = .ok (.ifCond .ne 8, 3) := by decide +kernel
theorem d_S_perform_59 : decode prog_8_method_2_code 59 = .ok (.aload_n 0, 1) := by decide +kernel
theorem d_S_perform_60 : decode prog_8_method_2_code 60 = .ok (.aload_n 1, 1) := by decide +kernel
theorem d_S_perform_61 : decode prog_8_method_2_code 61 = .ok (.invokevirtual 56, 3) := by decide +kernel
theorem d_S_perform_64 : decode prog_8_method_2_code 64 = .ok (.aload_n 1, 1) := by decide +kernel
theorem d_S_perform_65 : decode prog_8_method_2_code 65 = .ok (.aload_n 1, 1) := by decide +kernel
theorem d_S_perform_66 : decode prog_8_method_2_code 66 = .ok (.getfield 53, 3) := by decide +kernel
theorem d_S_perform_69 : decode prog_8_method_2_code 69 = .ok (.iconst 1, 1) := by decide +kernel
theorem d_S_perform_70 : decode prog_8_method_2_code 70 = .ok (.iadd, 1) := by decide +kernel
theorem d_S_perform_71 : decode prog_8_method_2_code 71 = .ok (.ldc 60, 2) := by decide +kernel
theorem d_S_perform_73 : decode prog_8_method_2_code 73 = .ok (.iand, 1) := by decide +kernel
theorem d_S_perform_74 : decode prog_8_method_2_code 74 = .ok (.putfield 53, 3) := by decide +kernel
theorem d_S_perform_77 : decode prog_8_method_2_code 77 = .ok (.goto 53, 3) := by decide +kernel
theorem d_S_perform_80 : decode prog_8_method_2_code 80 = .ok (.aload_n 1, 1) := by decide +kernel
theorem d_S_perform_81 : decode prog_8_method_2_code 81 = .ok (.getfield 53, 3) := by decide +kernel
theorem d_S_perform_84 : decode prog_8_method_2_code 84 = .ok (.aload_n 0, 1) := by decide +kernel
theorem d_S_perform_85 : decode prog_8_method_2_code 85 = .ok (.getfield 21, 3) := by decide +kernel
theorem d_S_perform_88 : decode prog_8_method_2_code 88 = .ok (.getfield 45, 3) := by decide +kernel
theorem d_S_perform_91 : decode prog_8_method_2_code 91 = .ok (.iconst 0, 1) := by decide +kernel
theorem d_S_perform_92 : decode prog_8_method_2_code 92 = .ok (.iaload, 1) := by decide +kernel
theorem d_S_perform_93 : decode prog_8_method_2_code 93 = .ok (.if_icmp .ne 37, 3) := by decide +kernel
theorem d_S_perform_96 : decode prog_8_method_2_code 96 = .ok (.aload_n 0, 1) := by decide +kernel
theorem d_S_perform_97 : decode prog_8_method_2_code 97 = .ok (.aload_n 1, 1) := by decide +kernel
theorem d_S_perform_98 : decode prog_8_method_2_code 98 = .ok (.invokevirtual 56, 3) := by decide +kernel
theorem d_S_perform_101 : decode prog_8_method_2_code 101 = .ok (.goto 29, 3) := by decide +kernel
theorem d_S_perform_104 : decode prog_8_method_2_code 104 = .ok (.aload_n 0, 1) := by decide +kernel
theorem d_S_perform_105 : decode prog_8_method_2_code 105 = .ok (.aload_n 1, 1) := by decide +kernel
theorem d_S_perform_106 : decode prog_8_method_2_code 106 = .ok (.invokevirtual 56, 3) := by decide +kernel
theorem d_S_perform_109 : decode prog_8_method_2_code 109 = .ok (.aload_n 1, 1) := by decide +kernel
theorem d_S_perform_110 : decode prog_8_method_2_code 110 = .ok (.aload_n 1, 1) := by decide +kernel
theorem d_S_perform_111 : decode prog_8_method_2_code 111 = .ok (.getfield 53, 3) := by decide +kernel
theorem d_S_perform_114 : decode prog_8_method_2_code 114 = .ok (.iconst 1, 1) := by decide +kernel
theorem d_S_perform_115 : decode prog_8_method_2_code 115 = .ok (.iadd, 1) := by decide +kernel
theorem d_S_perform_116 : decode prog_8_method_2_code 116 = .ok (.ldc 60, 2) := by decide +kernel
theorem d_S_perform_118 : decode prog_8_method_2_code 118 = .ok (.iand, 1) := by decide +kernel
theorem d_S_perform_119 : decode prog_8_method_2_code 119 = .ok (.putfield 53, 3) := by decide +kernel
theorem d_S_perform_122 : decode prog_8_method_2_code 122 = .ok (.goto 8, 3) := by decide +kernel
theorem d_S_perform_125 : decode prog_8_method_2_code 125 = .ok (.aload_n 0, 1) := by decide +kernel
theorem d_S_perform_126 : decode prog_8_method_2_code 126 = .ok (.aload_n 1, 1) := by decide +kernel
theorem d_S_perform_127 : decode prog_8_method_2_code 127 = .ok (.invokevirtual 61, 3) := by decide +kernel
theorem d_S_perform_130 : decode prog_8_method_2_code 130 = .ok (.return_, 1) := by decide +kernel
theorem d_N_carry_0 : decode prog_5_method_3_code 0 = .ok (.aload_n 0, 1) := by decide +kernel
theorem d_N_carry_1 : decode prog_5_method_3_code 1 = .ok (.invokevirtual 28, 3) := by decide +kernel
theorem d_N_carry_4 : decode prog_5_method_3_code 4 = .ok (.istore_n 2, 1) := by decide +kernel
theorem d_N_carry_5 : decode prog_5_method_3_code 5 = .ok (.aload_n 0, 1) := by decide +kernel
theorem d_N_carry_6 : decode prog_5_method_3_code 6 = .ok (.getfield 21, 3) := by decide +kernel
theorem d_N_carry_9 : decode prog_5_method_3_code 9 = .ok (.istore_n 3, 1) := by decide +kernel
theorem d_N_carry_10 : decode prog_5_method_3_code 10 = .ok (.aload_n 0, 1) := by decide +kernel
theorem d_N_carry_11 : decode prog_5_method_3_code 11 = .ok (.iconst (-1), 1) := by decide +kernel
theorem d_N_carry_12 : decode prog_5_method_3_code 12 = .ok (.putfield 21, 3) := by decide +kernel
theorem d_N_carry_15 : decode prog_5_method_3_code 15 = .ok (.iload_n 3, 1) := by decide +kernel
theorem d_N_carry_16 : decode prog_5_method_3_code 16 = .ok (.ifCond .lt 25, 3) := by decide +kernel
theorem d_N_carry_19 : decode prog_5_method_3_code 19 = .ok (.iload_n 3, 1) := by decide +kernel
theorem d_N_carry_20 : decode prog_5_method_3_code 20 = .ok (.iload_n 2, 1) := by decide +kernel
theorem d_N_carry_21 : decode prog_5_method_3_code 21 = .ok (.if_icmp .lt 16, 3) := by decide +kernel
theorem d_N_carry_24 : decode prog_5_method_3_code 24 = .ok (.iload_n 3, 1) := by decide +kernel
theorem d_N_carry_25 : decode prog_5_method_3_code 25 = .ok (.iload_n 2, 1) := by decide +kernel
theorem d_N_carry_26 : decode prog_5_method_3_code 26 = .ok (.if_icmp .ne 15, 3) := by decide +kernel
theorem d_N_carry_29 : decode prog_5_method_3_code 29 = .ok (.iload_n 2, 1) := by decide +kernel
theorem d_N_carry_30 : decode prog_5_method_3_code 30 = .ok (.aload_n 0, 1) := by decide +kernel
theorem d_N_carry_31 : decode prog_5_method_3_code 31 = .ok (.getfield 25, 3) := by decide +kernel
theorem d_N_carry_34 : decode prog_5_method_3_code 34 = .ok (.if_icmp .ne 7, 3) := by decide +kernel
theorem d_N_carry_37 : decode prog_5_method_3_code 37 = .ok (.iconst 1, 1) := by decide +kernel
theorem d_N_carry_38 : decode prog_5_method_3_code 38 = .ok (.goto 4, 3) := by decide +kernel
theorem d_N_carry_41 : decode prog_5_method_3_code 41 = .ok (.iconst 0, 1) := by decide +kernel
theorem d_N_carry_42 : decode prog_5_method_3_code 42 = .ok (.istore 4, 2) := by decide +kernel
theorem d_N_carry_44 : decode prog_5_method_3_code 44 = .ok (.iload 4, 2) := by decide +kernel
theorem d_N_carry_46 : decode prog_5_method_3_code 46 = .ok (.ifCond .eq 7, 3) := by decide +kernel
theorem d_N_carry_49 : decode prog_5_method_3_code 49 = .ok (.iload_n 3, 1) := by decide +kernel
theorem d_N_carry_50 : decode prog_5_method_3_code 50 = .ok (.goto 4, 3) := by decide +kernel
theorem d_N_carry_53 : decode prog_5_method_3_code 53 = .ok (.iload_n 2, 1) := by decide +kernel
theorem d_N_carry_54 : decode prog_5_method_3_code 54 = .ok (.istore 5, 2) := by decide +kernel
theorem d_N_carry_56 : decode prog_5_method_3_code 56 = .ok (.iconst 0, 1) := by decide +kernel
theorem d_N_carry_57 : decode prog_5_method_3_code 57 = .ok (.istore 6, 2) := by decide +kernel
theorem d_N_carry_59 : decode prog_5_method_3_code 59 = .ok (.iload 6, 2) := by decide +kernel
theorem d_N_carry_61 : decode prog_5_method_3_code 61 = .ok (.iload 5, 2) := by decide +kernel
theorem d_N_carry_63 : decode prog_5_method_3_code 63 = .ok (.if_icmp .ge 44, 3) := by decide +kernel
theorem d_N_carry_66 : decode prog_5_method_3_code 66 = .ok (.iconst 0, 1) := by decide +kernel
theorem d_N_carry_67 : decode prog_5_method_3_code 67 = .ok (.istore 7, 2) := by decide +kernel
theorem d_N_carry_69 : decode prog_5_method_3_code 69 = .ok (.iload 7, 2) := by decide +kernel
theorem d_N_carry_71 : decode prog_5_method_3_code 71 = .ok (.aload_n 1, 1) := by decide +kernel
theorem d_N_carry_72 : decode prog_5_method_3_code 72 = .ok (.getfield 32, 3) := by decide +kernel
theorem d_N_carry_75 : decode prog_5_method_3_code 75 = .ok (.if_icmp .ge 26, 3) := by decide +kernel
theorem d_N_carry_78 : decode prog_5_method_3_code 78 = .ok (.aload_n 0, 1) := by decide +kernel
theorem d_N_carry_79 : decode prog_5_method_3_code 79 = .ok (.getfield 11, 3) := by decide +kernel
theorem d_N_carry_82 : decode prog_5_method_3_code 82 = .ok (.iload 6, 2) := by decide +kernel
theorem d_N_carry_84 : decode prog_5_method_3_code 84 = .ok (.aaload, 1) := by decide +kernel
theorem d_N_carry_85 : decode prog_5_method_3_code 85 = .ok (.aload_n 1, 1) := by decide +kernel
theorem d_N_carry_86 : decode prog_5_method_3_code 86 = .ok (.getfield 37, 3) := by decide +kernel
theorem d_N_carry_89 : decode prog_5_method_3_code 89 = .ok (.iload 7, 2) := by decide +kernel
theorem d_N_carry_91 : decode prog_5_method_3_code 91 = .ok (.aaload, 1) := by decide +kernel
theorem d_N_carry_92 : decode prog_5_method_3_code 92 = .ok (.invokevirtual 41, 3) := by decide +kernel
theorem d_N_carry_95 : decode prog_5_method_3_code 95 = .ok (.iinc 7 1, 3) := by decide +kernel
theorem d_N_carry_98 : decode prog_5_method_3_code 98 = .ok (.goto (-29), 3) := by decide +kernel
theorem d_N_carry_101 : decode prog_5_method_3_code 101 = .ok (.iinc 6 1, 3) := by decide +kernel
theorem d_N_carry_104 : decode prog_5_method_3_code 104 = .ok (.goto (-45), 3) := by decide +kernel
theorem d_N_carry_107 : decode prog_5_method_3_code 107 = .ok (.aload_n 0, 1) := by decide +kernel
theorem d_N_carry_108 : decode prog_5_method_3_code 108 = .ok (.getfield 25, 3) := by decide +kernel
theorem d_N_carry_111 : decode prog_5_method_3_code 111 = .ok (.ifCond .le 16, 3) := by decide +kernel
theorem d_N_carry_114 : decode prog_5_method_3_code 114 = .ok (.aload_n 0, 1) := by decide +kernel
theorem d_N_carry_115 : decode prog_5_method_3_code 115 = .ok (.getfield 17, 3) := by decide +kernel
theorem d_N_carry_118 : decode prog_5_method_3_code 118 = .ok (.iconst 0, 1) := by decide +kernel
theorem d_N_carry_119 : decode prog_5_method_3_code 119 = .ok (.baload, 1) := by decide +kernel
theorem d_N_carry_120 : decode prog_5_method_3_code 120 = .ok (.ifCond .eq 7, 3) := by decide +kernel
theorem d_N_carry_123 : decode prog_5_method_3_code 123 = .ok (.iconst 1, 1) := by decide +kernel
theorem d_N_carry_124 : decode prog_5_method_3_code 124 = .ok (.goto 4, 3) := by decide +kernel
theorem d_N_carry_127 : decode prog_5_method_3_code 127 = .ok (.iconst 0, 1) := by decide +kernel
theorem d_N_carry_128 : decode prog_5_method_3_code 128 = .ok (.istore 6, 2) := by decide +kernel
theorem d_N_carry_130 : decode prog_5_method_3_code 130 = .ok (.iload 4, 2) := by decide +kernel
theorem d_N_carry_132 : decode prog_5_method_3_code 132 = .ok (.ifCond .ne 12, 3) := by decide +kernel
theorem d_N_carry_135 : decode prog_5_method_3_code 135 = .ok (.iload 6, 2) := by decide +kernel
theorem d_N_carry_137 : decode prog_5_method_3_code 137 = .ok (.ifCond .ne 7, 3) := by decide +kernel
theorem d_N_carry_140 : decode prog_5_method_3_code 140 = .ok (.iconst 1, 1) := by decide +kernel
theorem d_N_carry_141 : decode prog_5_method_3_code 141 = .ok (.goto 4, 3) := by decide +kernel
theorem d_N_carry_144 : decode prog_5_method_3_code 144 = .ok (.iconst 0, 1) := by decide +kernel
theorem d_N_carry_145 : decode prog_5_method_3_code 145 = .ok (.ireturn, 1) := by decide +kernel
theorem d_L_send_0 : decode prog_1_method_5_code 0 = .ok (.aload_n 0, 1) := by decide +kernel
theorem d_L_send_1 : decode prog_1_method_5_code 1 = .ok (.getfield 26, 3) := by decide +kernel
theorem d_L_send_4 : decode prog_1_method_5_code 4 = .ok (.getfield 46, 3) := by decide +kernel
theorem d_L_send_7 : decode prog_1_method_5_code 7 = .ok (.ifCond .ne 5, 3) := by decide +kernel
theorem d_L_send_10 : decode prog_1_method_5_code 10 = .ok (.iconst (-1), 1) := by decide +kernel
theorem d_L_send_11 : decode prog_1_method_5_code 11 = .ok (.ireturn, 1) := by decide +kernel
theorem d_L_send_12 : decode prog_1_method_5_code 12 = .ok (.aload_n 0, 1) := by decide +kernel
theorem d_L_send_13 : decode prog_1_method_5_code 13 = .ok (.getfield 26, 3) := by decide +kernel
theorem d_L_send_16 : decode prog_1_method_5_code 16 = .ok (.astore_n 1, 1) := by decide +kernel
theorem d_L_send_17 : decode prog_1_method_5_code 17 = .ok (.aload_n 0, 1) := by decide +kernel
theorem d_L_send_18 : decode prog_1_method_5_code 18 = .ok (.aload_n 0, 1) := by decide +kernel
theorem d_L_send_19 : decode prog_1_method_5_code 19 = .ok (.getfield 30, 3) := by decide +kernel
theorem d_L_send_22 : decode prog_1_method_5_code 22 = .ok (.putfield 26, 3) := by decide +kernel
theorem d_L_send_25 : decode prog_1_method_5_code 25 = .ok (.aload_n 0, 1) := by decide +kernel
theorem d_L_send_26 : decode prog_1_method_5_code 26 = .ok (.aload_n 1, 1) := by decide +kernel
theorem d_L_send_27 : decode prog_1_method_5_code 27 = .ok (.putfield 30, 3) := by decide +kernel
theorem d_L_send_30 : decode prog_1_method_5_code 30 = .ok (.aload_n 0, 1) := by decide +kernel
theorem d_L_send_31 : decode prog_1_method_5_code 31 = .ok (.getfield 26, 3) := by decide +kernel
theorem d_L_send_34 : decode prog_1_method_5_code 34 = .ok (.iconst 0, 1) := by decide +kernel
theorem d_L_send_35 : decode prog_1_method_5_code 35 = .ok (.putfield 46, 3) := by decide +kernel
theorem d_L_send_38 : decode prog_1_method_5_code 38 = .ok (.aload_n 0, 1) := by decide +kernel
theorem d_L_send_39 : decode prog_1_method_5_code 39 = .ok (.aload_n 0, 1) := by decide +kernel
theorem d_L_send_40 : decode prog_1_method_5_code 40 = .ok (.getfield 12, 3) := by decide +kernel
theorem d_L_send_43 : decode prog_1_method_5_code 43 = .ok (.aload_n 0, 1) := by decide +kernel
theorem d_L_send_44 : decode prog_1_method_5_code 44 = .ok (.getfield 30, 3) := by decide +kernel
theorem d_L_send_47 : decode prog_1_method_5_code 47 = .ok (.invokevirtual 72, 3) := by decide +kernel
theorem d_L_send_50 : decode prog_1_method_5_code 50 = .ok (.putfield 76, 3) := by decide +kernel
theorem d_L_send_53 : decode prog_1_method_5_code 53 = .ok (.aload_n 0, 1) := by decide +kernel
theorem d_L_send_54 : decode prog_1_method_5_code 54 = .ok (.getfield 76, 3) := by decide +kernel
theorem d_L_send_57 : decode prog_1_method_5_code 57 = .ok (.ifCond .eq 7, 3) := by decide +kernel
theorem d_L_send_60 : decode prog_1_method_5_code 60 = .ok (.iconst 1, 1) := by decide +kernel
theorem d_L_send_61 : decode prog_1_method_5_code 61 = .ok (.goto 4, 3) := by decide +kernel
theorem d_L_send_64 : decode prog_1_method_5_code 64 = .ok (.iconst 0, 1) := by decide +kernel
theorem d_L_send_65 : decode prog_1_method_5_code 65 = .ok (.ireturn, 1) := by decide +kernel
theorem d_L_returned_0 : decode prog_1_method_6_code 0 = .ok (.aload_n 0, 1) := by decide +kernel
theorem d_L_returned_1 : decode prog_1_method_6_code 1 = .ok (.getfield 76, 3) := by decide +kernel
theorem d_L_returned_4 : decode prog_1_method_6_code 4 = .ok (.ifCond .eq 14, 3) := by decide +kernel
theorem d_L_returned_7 : decode prog_1_method_6_code 7 = .ok (.aload_n 0, 1) := by decide +kernel
theorem d_L_returned_8 : decode prog_1_method_6_code 8 = .ok (.getfield 30, 3) := by decide +kernel
theorem d_L_returned_11 : decode prog_1_method_6_code 11 = .ok (.iload_n 1, 1) := by decide +kernel
theorem d_L_returned_12 : decode prog_1_method_6_code 12 = .ok (.invokevirtual 80, 3) := by decide +kernel
theorem d_L_returned_15 : decode prog_1_method_6_code 15 = .ok (.ifCond .ne 5, 3) := by decide +kernel
theorem d_L_returned_18 : decode prog_1_method_6_code 18 = .ok (.iconst (-1), 1) := by decide +kernel
theorem d_L_returned_19 : decode prog_1_method_6_code 19 = .ok (.ireturn, 1) := by decide +kernel
theorem d_L_returned_20 : decode prog_1_method_6_code 20 = .ok (.iload_n 2, 1) := by decide +kernel
theorem d_L_returned_21 : decode prog_1_method_6_code 21 = .ok (.iconst (-1), 1) := by decide +kernel
theorem d_L_returned_22 : decode prog_1_method_6_code 22 = .ok (.if_icmp .ne 16, 3) := by decide +kernel
theorem d_L_returned_25 : decode prog_1_method_6_code 25 = .ok (.aload_n 0, 1) := by decide +kernel
theorem d_L_returned_26 : decode prog_1_method_6_code 26 = .ok (.getfield 30, 3) := by decide +kernel
theorem d_L_returned_29 : decode prog_1_method_6_code 29 = .ok (.getfield 62, 3) := by decide +kernel
theorem d_L_returned_32 : decode prog_1_method_6_code 32 = .ok (.iload_n 1, 1) := by decide +kernel
theorem d_L_returned_33 : decode prog_1_method_6_code 33 = .ok (.aaload, 1) := by decide +kernel
theorem d_L_returned_34 : decode prog_1_method_6_code 34 = .ok (.getfield 83, 3) := by decide +kernel
theorem d_L_returned_37 : decode prog_1_method_6_code 37 = .ok (.ireturn, 1) := by decide +kernel
theorem d_L_returned_38 : decode prog_1_method_6_code 38 = .ok (.iload_n 2, 1) := by decide +kernel
theorem d_L_returned_39 : decode prog_1_method_6_code 39 = .ok (.bipush (-2), 2) := by decide +kernel
theorem d_L_returned_41 : decode prog_1_method_6_code 41 = .ok (.if_icmp .ne 16, 3) := by decide +kernel
theorem d_L_returned_44 : decode prog_1_method_6_code 44 = .ok (.aload_n 0, 1) := by decide +kernel
theorem d_L_returned_45 : decode prog_1_method_6_code 45 = .ok (.getfield 30, 3) := by decide +kernel
theorem d_L_returned_48 : decode prog_1_method_6_code 48 = .ok (.getfield 62, 3) := by decide +kernel
theorem d_L_returned_51 : decode prog_1_method_6_code 51 = .ok (.iload_n 1, 1) := by decide +kernel
theorem d_L_returned_52 : decode prog_1_method_6_code 52 = .ok (.aaload, 1) := by decide +kernel
theorem d_L_returned_53 : decode prog_1_method_6_code 53 = .ok (.getfield 86, 3) := by decide +kernel
theorem d_L_returned_56 : decode prog_1_method_6_code 56 = .ok (.ireturn, 1) := by decide +kernel
theorem d_L_returned_57 : decode prog_1_method_6_code 57 = .ok (.aload_n 0, 1) := by decide +kernel
theorem d_L_returned_58 : decode prog_1_method_6_code 58 = .ok (.getfield 30, 3) := by decide +kernel
theorem d_L_returned_61 : decode prog_1_method_6_code 61 = .ok (.iload_n 1, 1) := by decide +kernel
theorem d_L_returned_62 : decode prog_1_method_6_code 62 = .ok (.iload_n 2, 1) := by decide +kernel
theorem d_L_returned_63 : decode prog_1_method_6_code 63 = .ok (.invokevirtual 58, 3) := by decide +kernel
theorem d_L_returned_66 : decode prog_1_method_6_code 66 = .ok (.ifCond .eq 20, 3) := by decide +kernel
theorem d_L_returned_69 : decode prog_1_method_6_code 69 = .ok (.aload_n 0, 1) := by decide +kernel
theorem d_L_returned_70 : decode prog_1_method_6_code 70 = .ok (.getfield 30, 3) := by decide +kernel
theorem d_L_returned_73 : decode prog_1_method_6_code 73 = .ok (.getfield 62, 3) := by decide +kernel
theorem d_L_returned_76 : decode prog_1_method_6_code 76 = .ok (.iload_n 1, 1) := by decide +kernel
theorem d_L_returned_77 : decode prog_1_method_6_code 77 = .ok (.aaload, 1) := by decide +kernel
theorem d_L_returned_78 : decode prog_1_method_6_code 78 = .ok (.getfield 66, 3) := by decide +kernel
theorem d_L_returned_81 : decode prog_1_method_6_code 81 = .ok (.iload_n 2, 1) := by decide +kernel
theorem d_L_returned_82 : decode prog_1_method_6_code 82 = .ok (.iaload, 1) := by decide +kernel
theorem d_L_returned_83 : decode prog_1_method_6_code 83 = .ok (.goto 4, 3) := by decide +kernel
theorem d_L_returned_86 : decode prog_1_method_6_code 86 = .ok (.iconst (-1), 1) := by decide +kernel
theorem d_L_returned_87 : decode prog_1_method_6_code 87 = .ok (.ireturn, 1) := by decide +kernel
theorem d_N_hasStation_0 : decode prog_5_method_2_code 0 = .ok (.iload_n 1, 1) := by decide +kernel
theorem d_N_hasStation_1 : decode prog_5_method_2_code 1 = .ok (.ifCond .lt 15, 3) := by decide +kernel
theorem d_N_hasStation_4 : decode prog_5_method_2_code 4 = .ok (.iload_n 1, 1) := by decide +kernel
theorem d_N_hasStation_5 : decode prog_5_method_2_code 5 = .ok (.aload_n 0, 1) := by decide +kernel
theorem d_N_hasStation_6 : decode prog_5_method_2_code 6 = .ok (.getfield 25, 3) := by decide +kernel
theorem d_N_hasStation_9 : decode prog_5_method_2_code 9 = .ok (.if_icmp .ge 7, 3) := by decide +kernel
theorem d_N_hasStation_12 : decode prog_5_method_2_code 12 = .ok (.iconst 1, 1) := by decide +kernel
theorem d_N_hasStation_13 : decode prog_5_method_2_code 13 = .ok (.goto 4, 3) := by decide +kernel
theorem d_N_hasStation_16 : decode prog_5_method_2_code 16 = .ok (.iconst 0, 1) := by decide +kernel
theorem d_N_hasStation_17 : decode prog_5_method_2_code 17 = .ok (.ireturn, 1) := by decide +kernel
theorem d_L_cut_0 : decode prog_1_method_7_code 0 = .ok (.aload_n 0, 1) := by decide +kernel
theorem d_L_cut_1 : decode prog_1_method_7_code 1 = .ok (.getfield 12, 3) := by decide +kernel
theorem d_L_cut_4 : decode prog_1_method_7_code 4 = .ok (.iload_n 1, 1) := by decide +kernel
theorem d_L_cut_5 : decode prog_1_method_7_code 5 = .ok (.invokevirtual 89, 3) := by decide +kernel
theorem d_L_cut_8 : decode prog_1_method_7_code 8 = .ok (.ifCond .ne 5, 3) := by decide +kernel
theorem d_L_cut_11 : decode prog_1_method_7_code 11 = .ok (.iconst 0, 1) := by decide +kernel
theorem d_L_cut_12 : decode prog_1_method_7_code 12 = .ok (.ireturn, 1) := by decide +kernel
theorem d_L_cut_13 : decode prog_1_method_7_code 13 = .ok (.aload_n 0, 1) := by decide +kernel
theorem d_L_cut_14 : decode prog_1_method_7_code 14 = .ok (.getfield 12, 3) := by decide +kernel
theorem d_L_cut_17 : decode prog_1_method_7_code 17 = .ok (.getfield 92, 3) := by decide +kernel
theorem d_L_cut_20 : decode prog_1_method_7_code 20 = .ok (.iload_n 1, 1) := by decide +kernel
theorem d_L_cut_21 : decode prog_1_method_7_code 21 = .ok (.iload_n 2, 1) := by decide +kernel
theorem d_L_cut_22 : decode prog_1_method_7_code 22 = .ok (.bastore, 1) := by decide +kernel
theorem d_L_cut_23 : decode prog_1_method_7_code 23 = .ok (.iconst 1, 1) := by decide +kernel
theorem d_L_cut_24 : decode prog_1_method_7_code 24 = .ok (.ireturn, 1) := by decide +kernel
theorem d_L_spoil_0 : decode prog_1_method_8_code 0 = .ok (.iload_n 1, 1) := by decide +kernel
theorem d_L_spoil_1 : decode prog_1_method_8_code 1 = .ok (.ifCond .lt 14, 3) := by decide +kernel
theorem d_L_spoil_4 : decode prog_1_method_8_code 4 = .ok (.iload_n 1, 1) := by decide +kernel
theorem d_L_spoil_5 : decode prog_1_method_8_code 5 = .ok (.aload_n 0, 1) := by decide +kernel
theorem d_L_spoil_6 : decode prog_1_method_8_code 6 = .ok (.getfield 12, 3) := by decide +kernel
theorem d_L_spoil_9 : decode prog_1_method_8_code 9 = .ok (.getfield 33, 3) := by decide +kernel
theorem d_L_spoil_12 : decode prog_1_method_8_code 12 = .ok (.if_icmp .le 5, 3) := by decide +kernel
theorem d_L_spoil_15 : decode prog_1_method_8_code 15 = .ok (.iconst 0, 1) := by decide +kernel
theorem d_L_spoil_16 : decode prog_1_method_8_code 16 = .ok (.ireturn, 1) := by decide +kernel
theorem d_L_spoil_17 : decode prog_1_method_8_code 17 = .ok (.aload_n 0, 1) := by decide +kernel
theorem d_L_spoil_18 : decode prog_1_method_8_code 18 = .ok (.getfield 12, 3) := by decide +kernel
theorem d_L_spoil_21 : decode prog_1_method_8_code 21 = .ok (.iload_n 1, 1) := by decide +kernel
theorem d_L_spoil_22 : decode prog_1_method_8_code 22 = .ok (.putfield 96, 3) := by decide +kernel
theorem d_L_spoil_25 : decode prog_1_method_8_code 25 = .ok (.iconst 1, 1) := by decide +kernel
theorem d_L_spoil_26 : decode prog_1_method_8_code 26 = .ok (.ireturn, 1) := by decide +kernel
theorem d_E_isOpenAs_0 : decode prog_7_method_3_code 0 = .ok (.aload_n 0, 1) := by decide +kernel
theorem d_E_isOpenAs_1 : decode prog_7_method_3_code 1 = .ok (.iload_n 1, 1) := by decide +kernel
theorem d_E_isOpenAs_2 : decode prog_7_method_3_code 2 = .ok (.invokevirtual 36, 3) := by decide +kernel
theorem d_E_isOpenAs_5 : decode prog_7_method_3_code 5 = .ok (.ifCond .eq 25, 3) := by decide +kernel
theorem d_E_isOpenAs_8 : decode prog_7_method_3_code 8 = .ok (.aload_n 0, 1) := by decide +kernel
theorem d_E_isOpenAs_9 : decode prog_7_method_3_code 9 = .ok (.iload_n 1, 1) := by decide +kernel
theorem d_E_isOpenAs_10 : decode prog_7_method_3_code 10 = .ok (.invokevirtual 40, 3) := by decide +kernel
theorem d_E_isOpenAs_13 : decode prog_7_method_3_code 13 = .ok (.iload_n 2, 1) := by decide +kernel
theorem d_E_isOpenAs_14 : decode prog_7_method_3_code 14 = .ok (.if_icmp .ne 16, 3) := by decide +kernel
theorem d_E_isOpenAs_17 : decode prog_7_method_3_code 17 = .ok (.aload_n 0, 1) := by decide +kernel
theorem d_E_isOpenAs_18 : decode prog_7_method_3_code 18 = .ok (.iload_n 1, 1) := by decide +kernel
theorem d_E_isOpenAs_19 : decode prog_7_method_3_code 19 = .ok (.invokevirtual 44, 3) := by decide +kernel
theorem d_E_isOpenAs_22 : decode prog_7_method_3_code 22 = .ok (.iload_n 3, 1) := by decide +kernel
theorem d_E_isOpenAs_23 : decode prog_7_method_3_code 23 = .ok (.if_icmp .ne 7, 3) := by decide +kernel
theorem d_E_isOpenAs_26 : decode prog_7_method_3_code 26 = .ok (.iconst 1, 1) := by decide +kernel
