theorem d_R_request_12 : decode prog_10_method_51_code 12 = .ok (.aload_n 0, 1) := by decide +kernel
theorem d_R_request_13 : decode prog_10_method_51_code 13 = .ok (.getfield 78, 3) := by decide +kernel
theorem d_R_request_16 : decode prog_10_method_51_code 16 = .ok (.bipush 6, 2) := by decide +kernel
theorem d_R_request_18 : decode prog_10_method_51_code 18 = .ok (.iaload, 1) := by decide +kernel
theorem d_R_request_19 : decode prog_10_method_51_code 19 = .ok (.goto 4, 3) := by decide +kernel
theorem d_R_request_22 : decode prog_10_method_51_code 22 = .ok (.iconst (-1), 1) := by decide +kernel
theorem d_R_request_23 : decode prog_10_method_51_code 23 = .ok (.ireturn, 1) := by decide +kernel
theorem d_R_returned_0 : decode prog_10_method_31_code 0 = .ok (.iload_n 1, 1) := by decide +kernel
theorem d_R_returned_1 : decode prog_10_method_31_code 1 = .ok (.ifCond .lt 30, 3) := by decide +kernel
theorem d_R_returned_4 : decode prog_10_method_31_code 4 = .ok (.iload_n 1, 1) := by decide +kernel
theorem d_R_returned_5 : decode prog_10_method_31_code 5 = .ok (.aload_n 0, 1) := by decide +kernel
theorem d_R_returned_6 : decode prog_10_method_31_code 6 = .ok (.getfield 191, 3) := by decide +kernel
theorem d_R_returned_9 : decode prog_10_method_31_code 9 = .ok (.if_icmp .ge 22, 3) := by decide +kernel
theorem d_R_returned_12 : decode prog_10_method_31_code 12 = .ok (.iload_n 2, 1) := by decide +kernel
theorem d_R_returned_13 : decode prog_10_method_31_code 13 = .ok (.bipush (-2), 2) := by decide +kernel
theorem d_R_returned_15 : decode prog_10_method_31_code 15 = .ok (.if_icmp .lt 16, 3) := by decide +kernel
theorem d_R_returned_18 : decode prog_10_method_31_code 18 = .ok (.iload_n 2, 1) := by decide +kernel
theorem d_R_returned_19 : decode prog_10_method_31_code 19 = .ok (.aload_n 0, 1) := by decide +kernel
theorem d_R_returned_20 : decode prog_10_method_31_code 20 = .ok (.getfield 75, 3) := by decide +kernel
theorem d_R_returned_23 : decode prog_10_method_31_code 23 = .ok (.bipush 6, 2) := by decide +kernel
theorem d_R_returned_25 : decode prog_10_method_31_code 25 = .ok (.iload_n 1, 1) := by decide +kernel
theorem d_R_returned_26 : decode prog_10_method_31_code 26 = .ok (.iadd, 1) := by decide +kernel
theorem d_R_returned_27 : decode prog_10_method_31_code 27 = .ok (.iaload, 1) := by decide +kernel
theorem d_R_returned_28 : decode prog_10_method_31_code 28 = .ok (.if_icmp .lt 5, 3) := by decide +kernel
theorem d_R_returned_31 : decode prog_10_method_31_code 31 = .ok (.iconst (-1), 1) := by decide +kernel
theorem d_R_returned_32 : decode prog_10_method_31_code 32 = .ok (.ireturn, 1) := by decide +kernel
theorem d_R_returned_33 : decode prog_10_method_31_code 33 = .ok (.iload_n 2, 1) := by decide +kernel
theorem d_R_returned_34 : decode prog_10_method_31_code 34 = .ok (.iconst (-1), 1) := by decide +kernel
theorem d_R_returned_35 : decode prog_10_method_31_code 35 = .ok (.if_icmp .ne 15, 3) := by decide +kernel
theorem d_R_returned_38 : decode prog_10_method_31_code 38 = .ok (.aload_n 0, 1) := by decide +kernel
theorem d_R_returned_39 : decode prog_10_method_31_code 39 = .ok (.getfield 78, 3) := by decide +kernel
theorem d_R_returned_42 : decode prog_10_method_31_code 42 = .ok (.bipush 6, 2) := by decide +kernel
theorem d_R_returned_44 : decode prog_10_method_31_code 44 = .ok (.iload_n 1, 1) := by decide +kernel
theorem d_R_returned_45 : decode prog_10_method_31_code 45 = .ok (.iadd, 1) := by decide +kernel
theorem d_R_returned_46 : decode prog_10_method_31_code 46 = .ok (.iaload, 1) := by decide +kernel
theorem d_R_returned_47 : decode prog_10_method_31_code 47 = .ok (.goto 35, 3) := by decide +kernel
theorem d_R_returned_50 : decode prog_10_method_31_code 50 = .ok (.iload_n 2, 1) := by decide +kernel
theorem d_R_returned_51 : decode prog_10_method_31_code 51 = .ok (.bipush (-2), 2) := by decide +kernel
theorem d_R_returned_53 : decode prog_10_method_31_code 53 = .ok (.if_icmp .ne 15, 3) := by decide +kernel
theorem d_R_returned_56 : decode prog_10_method_31_code 56 = .ok (.aload_n 0, 1) := by decide +kernel
theorem d_R_returned_57 : decode prog_10_method_31_code 57 = .ok (.getfield 69, 3) := by decide +kernel
theorem d_R_returned_60 : decode prog_10_method_31_code 60 = .ok (.bipush 6, 2) := by decide +kernel
theorem d_R_returned_62 : decode prog_10_method_31_code 62 = .ok (.iload_n 1, 1) := by decide +kernel
theorem d_R_returned_63 : decode prog_10_method_31_code 63 = .ok (.iadd, 1) := by decide +kernel
theorem d_R_returned_64 : decode prog_10_method_31_code 64 = .ok (.iaload, 1) := by decide +kernel
theorem d_R_returned_65 : decode prog_10_method_31_code 65 = .ok (.goto 17, 3) := by decide +kernel
theorem d_R_returned_68 : decode prog_10_method_31_code 68 = .ok (.aload_n 0, 1) := by decide +kernel
theorem d_R_returned_69 : decode prog_10_method_31_code 69 = .ok (.getfield 81, 3) := by decide +kernel
theorem d_R_returned_72 : decode prog_10_method_31_code 72 = .ok (.bipush 8, 2) := by decide +kernel
theorem d_R_returned_74 : decode prog_10_method_31_code 74 = .ok (.bipush 6, 2) := by decide +kernel
theorem d_R_returned_76 : decode prog_10_method_31_code 76 = .ok (.iload_n 1, 1) := by decide +kernel
theorem d_R_returned_77 : decode prog_10_method_31_code 77 = .ok (.iadd, 1) := by decide +kernel
theorem d_R_returned_78 : decode prog_10_method_31_code 78 = .ok (.imul, 1) := by decide +kernel
theorem d_R_returned_79 : decode prog_10_method_31_code 79 = .ok (.iload_n 2, 1) := by decide +kernel
theorem d_R_returned_80 : decode prog_10_method_31_code 80 = .ok (.iadd, 1) := by decide +kernel
theorem d_R_returned_81 : decode prog_10_method_31_code 81 = .ok (.iaload, 1) := by decide +kernel
theorem d_R_returned_82 : decode prog_10_method_31_code 82 = .ok (.ireturn, 1) := by decide +kernel
theorem d_R_scan_0 : decode prog_10_method_47_code 0 = .ok (.aload_n 0, 1) := by decide +kernel
theorem d_R_scan_1 : decode prog_10_method_47_code 1 = .ok (.iconst 0, 1) := by decide +kernel
theorem d_R_scan_2 : decode prog_10_method_47_code 2 = .ok (.putfield 241, 3) := by decide +kernel
theorem d_R_scan_5 : decode prog_10_method_47_code 5 = .ok (.aload_n 0, 1) := by decide +kernel
theorem d_R_scan_6 : decode prog_10_method_47_code 6 = .ok (.iconst 0, 1) := by decide +kernel
theorem d_R_scan_7 : decode prog_10_method_47_code 7 = .ok (.putfield 244, 3) := by decide +kernel
theorem d_R_scan_10 : decode prog_10_method_47_code 10 = .ok (.aload_n 0, 1) := by decide +kernel
theorem d_R_scan_11 : decode prog_10_method_47_code 11 = .ok (.iconst 0, 1) := by decide +kernel
theorem d_R_scan_12 : decode prog_10_method_47_code 12 = .ok (.putfield 247, 3) := by decide +kernel
theorem d_R_scan_15 : decode prog_10_method_47_code 15 = .ok (.aload_n 0, 1) := by decide +kernel
theorem d_R_scan_16 : decode prog_10_method_47_code 16 = .ok (.bipush 7, 2) := by decide +kernel
theorem d_R_scan_18 : decode prog_10_method_47_code 18 = .ok (.iconst 0, 1) := by decide +kernel
theorem d_R_scan_19 : decode prog_10_method_47_code 19 = .ok (.iconst 0, 1) := by decide +kernel
theorem d_R_scan_20 : decode prog_10_method_47_code 20 = .ok (.iconst 0, 1) := by decide +kernel
theorem d_R_scan_21 : decode prog_10_method_47_code 21 = .ok (.invokevirtual 250, 3) := by decide +kernel
theorem d_R_scan_24 : decode prog_10_method_47_code 24 = .ok (.ifCond .ne 5, 3) := by decide +kernel
theorem d_R_scan_27 : decode prog_10_method_47_code 27 = .ok (.iconst (-1), 1) := by decide +kernel
theorem d_R_scan_28 : decode prog_10_method_47_code 28 = .ok (.ireturn, 1) := by decide +kernel
theorem d_R_scan_29 : decode prog_10_method_47_code 29 = .ok (.aload_n 0, 1) := by decide +kernel
theorem d_R_scan_30 : decode prog_10_method_47_code 30 = .ok (.getfield 78, 3) := by decide +kernel
theorem d_R_scan_33 : decode prog_10_method_47_code 33 = .ok (.bipush 6, 2) := by decide +kernel
theorem d_R_scan_35 : decode prog_10_method_47_code 35 = .ok (.iaload, 1) := by decide +kernel
theorem d_R_scan_36 : decode prog_10_method_47_code 36 = .ok (.istore_n 1, 1) := by decide +kernel
theorem d_R_scan_37 : decode prog_10_method_47_code 37 = .ok (.iconst 0, 1) := by decide +kernel
theorem d_R_scan_38 : decode prog_10_method_47_code 38 = .ok (.istore_n 2, 1) := by decide +kernel
theorem d_R_scan_39 : decode prog_10_method_47_code 39 = .ok (.iload_n 2, 1) := by decide +kernel
theorem d_R_scan_40 : decode prog_10_method_47_code 40 = .ok (.iload_n 1, 1) := by decide +kernel
theorem d_R_scan_41 : decode prog_10_method_47_code 41 = .ok (.if_icmp .ge 26, 3) := by decide +kernel
theorem d_R_scan_44 : decode prog_10_method_47_code 44 = .ok (.aload_n 0, 1) := by decide +kernel
theorem d_R_scan_45 : decode prog_10_method_47_code 45 = .ok (.iconst 2, 1) := by decide +kernel
theorem d_R_scan_46 : decode prog_10_method_47_code 46 = .ok (.ldc 253, 2) := by decide +kernel
theorem d_R_scan_48 : decode prog_10_method_47_code 48 = .ok (.iload_n 2, 1) := by decide +kernel
theorem d_R_scan_49 : decode prog_10_method_47_code 49 = .ok (.isub, 1) := by decide +kernel
theorem d_R_scan_50 : decode prog_10_method_47_code 50 = .ok (.ldc 184, 2) := by decide +kernel
theorem d_R_scan_52 : decode prog_10_method_47_code 52 = .ok (.iand, 1) := by decide +kernel
theorem d_R_scan_53 : decode prog_10_method_47_code 53 = .ok (.iconst 0, 1) := by decide +kernel
theorem d_R_scan_54 : decode prog_10_method_47_code 54 = .ok (.iload_n 2, 1) := by decide +kernel
theorem d_R_scan_55 : decode prog_10_method_47_code 55 = .ok (.iconst 1, 1) := by decide +kernel
theorem d_R_scan_56 : decode prog_10_method_47_code 56 = .ok (.iadd, 1) := by decide +kernel
theorem d_R_scan_57 : decode prog_10_method_47_code 57 = .ok (.invokevirtual 250, 3) := by decide +kernel
theorem d_R_scan_60 : decode prog_10_method_47_code 60 = .ok (.pop, 1) := by decide +kernel
theorem d_R_scan_61 : decode prog_10_method_47_code 61 = .ok (.iinc 2 1, 3) := by decide +kernel
theorem d_R_scan_64 : decode prog_10_method_47_code 64 = .ok (.goto (-25), 3) := by decide +kernel
theorem d_R_scan_67 : decode prog_10_method_47_code 67 = .ok (.aload_n 0, 1) := by decide +kernel
theorem d_R_scan_68 : decode prog_10_method_47_code 68 = .ok (.iload_n 1, 1) := by decide +kernel
theorem d_R_scan_69 : decode prog_10_method_47_code 69 = .ok (.putfield 241, 3) := by decide +kernel
theorem d_R_scan_72 : decode prog_10_method_47_code 72 = .ok (.iload_n 1, 1) := by decide +kernel
theorem d_R_scan_73 : decode prog_10_method_47_code 73 = .ok (.ireturn, 1) := by decide +kernel
theorem d_R_send_0 : decode prog_10_method_30_code 0 = .ok (.aload_n 0, 1) := by decide +kernel
theorem d_R_send_1 : decode prog_10_method_30_code 1 = .ok (.getfield 197, 3) := by decide +kernel
theorem d_R_send_4 : decode prog_10_method_30_code 4 = .ok (.ifCond .ne 5, 3) := by decide +kernel
theorem d_R_send_7 : decode prog_10_method_30_code 7 = .ok (.iconst (-1), 1) := by decide +kernel
theorem d_R_send_8 : decode prog_10_method_30_code 8 = .ok (.ireturn, 1) := by decide +kernel
theorem d_R_send_9 : decode prog_10_method_30_code 9 = .ok (.iconst 0, 1) := by decide +kernel
theorem d_R_send_10 : decode prog_10_method_30_code 10 = .ok (.istore_n 1, 1) := by decide +kernel
theorem d_R_send_11 : decode prog_10_method_30_code 11 = .ok (.iload_n 1, 1) := by decide +kernel
theorem d_R_send_12 : decode prog_10_method_30_code 12 = .ok (.aload_n 0, 1) := by decide +kernel
theorem d_R_send_13 : decode prog_10_method_30_code 13 = .ok (.getfield 197, 3) := by decide +kernel
theorem d_R_send_16 : decode prog_10_method_30_code 16 = .ok (.if_icmp .ge 17, 3) := by decide +kernel
theorem d_R_send_19 : decode prog_10_method_30_code 19 = .ok (.aload_n 0, 1) := by decide +kernel
theorem d_R_send_20 : decode prog_10_method_30_code 20 = .ok (.iload_n 1, 1) := by decide +kernel
theorem d_R_send_21 : decode prog_10_method_30_code 21 = .ok (.iconst 3, 1) := by decide +kernel
theorem d_R_send_22 : decode prog_10_method_30_code 22 = .ok (.iload_n 1, 1) := by decide +kernel
theorem d_R_send_23 : decode prog_10_method_30_code 23 = .ok (.iadd, 1) := by decide +kernel
theorem d_R_send_24 : decode prog_10_method_30_code 24 = .ok (.invokevirtual 194, 3) := by decide +kernel
theorem d_R_send_27 : decode prog_10_method_30_code 27 = .ok (.iinc 1 1, 3) := by decide +kernel
theorem d_R_send_30 : decode prog_10_method_30_code 30 = .ok (.goto (-19), 3) := by decide +kernel
theorem d_R_send_33 : decode prog_10_method_30_code 33 = .ok (.aload_n 0, 1) := by decide +kernel
theorem d_R_send_34 : decode prog_10_method_30_code 34 = .ok (.aload_n 0, 1) := by decide +kernel
theorem d_R_send_35 : decode prog_10_method_30_code 35 = .ok (.getfield 197, 3) := by decide +kernel
theorem d_R_send_38 : decode prog_10_method_30_code 38 = .ok (.putfield 185, 3) := by decide +kernel
theorem d_R_send_41 : decode prog_10_method_30_code 41 = .ok (.aload_n 0, 1) := by decide +kernel
theorem d_R_send_42 : decode prog_10_method_30_code 42 = .ok (.iconst 0, 1) := by decide +kernel
theorem d_R_send_43 : decode prog_10_method_30_code 43 = .ok (.putfield 197, 3) := by decide +kernel
theorem d_R_send_46 : decode prog_10_method_30_code 46 = .ok (.aload_n 0, 1) := by decide +kernel
theorem d_R_send_47 : decode prog_10_method_30_code 47 = .ok (.invokevirtual 204, 3) := by decide +kernel
theorem d_R_send_50 : decode prog_10_method_30_code 50 = .ok (.ifCond .eq 7, 3) := by decide +kernel
theorem d_R_send_53 : decode prog_10_method_30_code 53 = .ok (.iconst 1, 1) := by decide +kernel
theorem d_R_send_54 : decode prog_10_method_30_code 54 = .ok (.goto 4, 3) := by decide +kernel
theorem d_R_send_57 : decode prog_10_method_30_code 57 = .ok (.iconst 0, 1) := by decide +kernel
theorem d_R_send_58 : decode prog_10_method_30_code 58 = .ok (.ireturn, 1) := by decide +kernel
theorem d_R_sense_0 : decode prog_10_method_43_code 0 = .ok (.aload_n 0, 1) := by decide +kernel
theorem d_R_sense_1 : decode prog_10_method_43_code 1 = .ok (.iload_n 1, 1) := by decide +kernel
theorem d_R_sense_2 : decode prog_10_method_43_code 2 = .ok (.invokevirtual 208, 3) := by decide +kernel
theorem d_R_sense_5 : decode prog_10_method_43_code 5 = .ok (.ifCond .eq 17, 3) := by decide +kernel
theorem d_R_sense_8 : decode prog_10_method_43_code 8 = .ok (.iload_n 2, 1) := by decide +kernel
theorem d_R_sense_9 : decode prog_10_method_43_code 9 = .ok (.ifCond .lt 13, 3) := by decide +kernel
theorem d_R_sense_12 : decode prog_10_method_43_code 12 = .ok (.iload_n 2, 1) := by decide +kernel
theorem d_R_sense_13 : decode prog_10_method_43_code 13 = .ok (.aload_n 0, 1) := by decide +kernel
theorem d_R_sense_14 : decode prog_10_method_43_code 14 = .ok (.getfield 13, 3) := by decide +kernel
theorem d_R_sense_17 : decode prog_10_method_43_code 17 = .ok (.iload_n 1, 1) := by decide +kernel
theorem d_R_sense_18 : decode prog_10_method_43_code 18 = .ok (.iaload, 1) := by decide +kernel
theorem d_R_sense_19 : decode prog_10_method_43_code 19 = .ok (.if_icmp .lt 5, 3) := by decide +kernel
theorem d_R_sense_22 : decode prog_10_method_43_code 22 = .ok (.iconst 0, 1) := by decide +kernel
theorem d_R_sense_23 : decode prog_10_method_43_code 23 = .ok (.ireturn, 1) := by decide +kernel
theorem d_R_sense_24 : decode prog_10_method_43_code 24 = .ok (.aload_n 0, 1) := by decide +kernel
theorem d_R_sense_25 : decode prog_10_method_43_code 25 = .ok (.getfield 56, 3) := by decide +kernel
theorem d_R_sense_28 : decode prog_10_method_43_code 28 = .ok (.iconst 2, 1) := by decide +kernel
theorem d_R_sense_29 : decode prog_10_method_43_code 29 = .ok (.iload_n 1, 1) := by decide +kernel
theorem d_R_sense_30 : decode prog_10_method_43_code 30 = .ok (.imul, 1) := by decide +kernel
theorem d_R_sense_31 : decode prog_10_method_43_code 31 = .ok (.iload_n 2, 1) := by decide +kernel
theorem d_R_sense_32 : decode prog_10_method_43_code 32 = .ok (.iadd, 1) := by decide +kernel
theorem d_R_sense_33 : decode prog_10_method_43_code 33 = .ok (.iload_n 3, 1) := by decide +kernel
theorem d_R_sense_34 : decode prog_10_method_43_code 34 = .ok (.sipush 255, 3) := by decide +kernel
theorem d_R_sense_37 : decode prog_10_method_43_code 37 = .ok (.iand, 1) := by decide +kernel
theorem d_R_sense_38 : decode prog_10_method_43_code 38 = .ok (.iastore, 1) := by decide +kernel
theorem d_R_sense_39 : decode prog_10_method_43_code 39 = .ok (.iconst 1, 1) := by decide +kernel
theorem d_R_sense_40 : decode prog_10_method_43_code 40 = .ok (.ireturn, 1) := by decide +kernel
theorem d_R_equip_0 : decode prog_10_method_49_code 0 = .ok (.aload_n 0, 1) := by decide +kernel
theorem d_R_equip_1 : decode prog_10_method_49_code 1 = .ok (.getfield 96, 3) := by decide +kernel
theorem d_R_equip_4 : decode prog_10_method_49_code 4 = .ok (.iload_n 1, 1) := by decide +kernel
theorem d_R_equip_5 : decode prog_10_method_49_code 5 = .ok (.iaload, 1) := by decide +kernel
theorem d_R_equip_6 : decode prog_10_method_49_code 6 = .ok (.istore_n 2, 1) := by decide +kernel
theorem d_R_equip_7 : decode prog_10_method_49_code 7 = .ok (.aload_n 0, 1) := by decide +kernel
theorem d_R_equip_8 : decode prog_10_method_49_code 8 = .ok (.getfield 99, 3) := by decide +kernel
theorem d_R_equip_11 : decode prog_10_method_49_code 11 = .ok (.iload_n 1, 1) := by decide +kernel
theorem d_R_equip_12 : decode prog_10_method_49_code 12 = .ok (.iaload, 1) := by decide +kernel
theorem d_R_equip_13 : decode prog_10_method_49_code 13 = .ok (.istore_n 3, 1) := by decide +kernel
theorem d_R_equip_14 : decode prog_10_method_49_code 14 = .ok (.aload_n 0, 1) := by decide +kernel
theorem d_R_equip_15 : decode prog_10_method_49_code 15 = .ok (.iconst 3, 1) := by decide +kernel
theorem d_R_equip_16 : decode prog_10_method_49_code 16 = .ok (.iconst 5, 1) := by decide +kernel
theorem d_R_equip_17 : decode prog_10_method_49_code 17 = .ok (.iload_n 1, 1) := by decide +kernel
theorem d_R_equip_18 : decode prog_10_method_49_code 18 = .ok (.iconst 1, 1) := by decide +kernel
theorem d_R_equip_19 : decode prog_10_method_49_code 19 = .ok (.iadd, 1) := by decide +kernel
theorem d_R_equip_20 : decode prog_10_method_49_code 20 = .ok (.bipush 32, 2) := by decide +kernel
theorem d_R_equip_22 : decode prog_10_method_49_code 22 = .ok (.bipush 8, 2) := by decide +kernel
theorem d_R_equip_24 : decode prog_10_method_49_code 24 = .ok (.invokevirtual 200, 3) := by decide +kernel
theorem d_R_equip_27 : decode prog_10_method_49_code 27 = .ok (.aload_n 0, 1) := by decide +kernel
theorem d_R_equip_28 : decode prog_10_method_49_code 28 = .ok (.iconst 3, 1) := by decide +kernel
theorem d_R_equip_29 : decode prog_10_method_49_code 29 = .ok (.bipush 64, 2) := by decide +kernel
theorem d_R_equip_31 : decode prog_10_method_49_code 31 = .ok (.bipush 6, 2) := by decide +kernel
theorem d_R_equip_33 : decode prog_10_method_49_code 33 = .ok (.iconst 3, 1) := by decide +kernel
theorem d_R_equip_34 : decode prog_10_method_49_code 34 = .ok (.iconst 1, 1) := by decide +kernel
theorem d_R_equip_35 : decode prog_10_method_49_code 35 = .ok (.bipush 72, 2) := by decide +kernel
theorem d_R_equip_37 : decode prog_10_method_49_code 37 = .ok (.bipush 6, 2) := by decide +kernel
theorem d_R_equip_39 : decode prog_10_method_49_code 39 = .ok (.invokevirtual 254, 3) := by decide +kernel
theorem d_R_equip_42 : decode prog_10_method_49_code 42 = .ok (.aload_n 0, 1) := by decide +kernel
theorem d_R_equip_43 : decode prog_10_method_49_code 43 = .ok (.getfield 81, 3) := by decide +kernel
theorem d_R_equip_46 : decode prog_10_method_49_code 46 = .ok (.bipush 30, 2) := by decide +kernel
theorem d_R_equip_48 : decode prog_10_method_49_code 48 = .ok (.iconst 1, 1) := by decide +kernel
theorem d_R_equip_49 : decode prog_10_method_49_code 49 = .ok (.iastore, 1) := by decide +kernel
theorem d_R_equip_50 : decode prog_10_method_49_code 50 = .ok (.aload_n 0, 1) := by decide +kernel
theorem d_R_equip_51 : decode prog_10_method_49_code 51 = .ok (.getfield 81, 3) := by decide +kernel
theorem d_R_equip_54 : decode prog_10_method_49_code 54 = .ok (.bipush 31, 2) := by decide +kernel
theorem d_R_equip_56 : decode prog_10_method_49_code 56 = .ok (.iconst 1, 1) := by decide +kernel
theorem d_R_equip_57 : decode prog_10_method_49_code 57 = .ok (.iastore, 1) := by decide +kernel
theorem d_R_equip_58 : decode prog_10_method_49_code 58 = .ok (.aload_n 0, 1) := by decide +kernel
theorem d_R_equip_59 : decode prog_10_method_49_code 59 = .ok (.iconst 4, 1) := by decide +kernel
theorem d_R_equip_60 : decode prog_10_method_49_code 60 = .ok (.iconst 5, 1) := by decide +kernel
theorem d_R_equip_61 : decode prog_10_method_49_code 61 = .ok (.iload_n 1, 1) := by decide +kernel
theorem d_R_equip_62 : decode prog_10_method_49_code 62 = .ok (.iconst 1, 1) := by decide +kernel
theorem d_R_equip_63 : decode prog_10_method_49_code 63 = .ok (.iadd, 1) := by decide +kernel
theorem d_R_equip_64 : decode prog_10_method_49_code 64 = .ok (.bipush 40, 2) := by decide +kernel
theorem d_R_equip_66 : decode prog_10_method_49_code 66 = .ok (.bipush 8, 2) := by decide +kernel
theorem d_R_equip_68 : decode prog_10_method_49_code 68 = .ok (.invokevirtual 200, 3) := by decide +kernel
theorem d_R_equip_71 : decode prog_10_method_49_code 71 = .ok (.aload_n 0, 1) := by decide +kernel
theorem d_R_equip_72 : decode prog_10_method_49_code 72 = .ok (.iconst 4, 1) := by decide +kernel
theorem d_R_equip_73 : decode prog_10_method_49_code 73 = .ok (.bipush 80, 2) := by decide +kernel
theorem d_R_equip_75 : decode prog_10_method_49_code 75 = .ok (.iload_n 2, 1) := by decide +kernel
theorem d_R_equip_76 : decode prog_10_method_49_code 76 = .ok (.iconst 2, 1) := by decide +kernel
theorem d_R_equip_77 : decode prog_10_method_49_code 77 = .ok (.iload_n 2, 1) := by decide +kernel
theorem d_R_equip_78 : decode prog_10_method_49_code 78 = .ok (.ifCond .le 7, 3) := by decide +kernel
theorem d_R_equip_81 : decode prog_10_method_49_code 81 = .ok (.iconst 1, 1) := by decide +kernel
theorem d_R_equip_82 : decode prog_10_method_49_code 82 = .ok (.goto 4, 3) := by decide +kernel
theorem d_R_equip_85 : decode prog_10_method_49_code 85 = .ok (.iconst 0, 1) := by decide +kernel
theorem d_R_equip_86 : decode prog_10_method_49_code 86 = .ok (.bipush 96, 2) := by decide +kernel
theorem d_R_equip_88 : decode prog_10_method_49_code 88 = .ok (.iload_n 3, 1) := by decide +kernel
theorem d_R_equip_89 : decode prog_10_method_49_code 89 = .ok (.invokevirtual 254, 3) := by decide +kernel
theorem d_R_equip_92 : decode prog_10_method_49_code 92 = .ok (.aload_n 0, 1) := by decide +kernel
theorem d_R_equip_93 : decode prog_10_method_49_code 93 = .ok (.getfield 81, 3) := by decide +kernel
theorem d_R_equip_96 : decode prog_10_method_49_code 96 = .ok (.bipush 38, 2) := by decide +kernel
theorem d_R_equip_98 : decode prog_10_method_49_code 98 = .ok (.iconst 0, 1) := by decide +kernel
theorem d_R_equip_99 : decode prog_10_method_49_code 99 = .ok (.iastore, 1) := by decide +kernel
theorem d_R_equip_100 : decode prog_10_method_49_code 100 = .ok (.aload_n 0, 1) := by decide +kernel
theorem d_R_equip_101 : decode prog_10_method_49_code 101 = .ok (.getfield 81, 3) := by decide +kernel
theorem d_R_equip_104 : decode prog_10_method_49_code 104 = .ok (.bipush 39, 2) := by decide +kernel
theorem d_R_equip_106 : decode prog_10_method_49_code 106 = .ok (.iload_n 3, 1) := by decide +kernel
theorem d_R_equip_107 : decode prog_10_method_49_code 107 = .ok (.ifCond .le 7, 3) := by decide +kernel
theorem d_R_equip_110 : decode prog_10_method_49_code 110 = .ok (.iconst 1, 1) := by decide +kernel
theorem d_R_equip_111 : decode prog_10_method_49_code 111 = .ok (.goto 4, 3) := by decide +kernel
theorem d_R_equip_114 : decode prog_10_method_49_code 114 = .ok (.iconst 0, 1) := by decide +kernel
theorem d_R_equip_115 : decode prog_10_method_49_code 115 = .ok (.iastore, 1) := by decide +kernel
theorem d_R_equip_116 : decode prog_10_method_49_code 116 = .ok (.aload_n 0, 1) := by decide +kernel
theorem d_R_equip_117 : decode prog_10_method_49_code 117 = .ok (.iconst 5, 1) := by decide +kernel
theorem d_R_equip_118 : decode prog_10_method_49_code 118 = .ok (.iconst 5, 1) := by decide +kernel
theorem d_R_equip_119 : decode prog_10_method_49_code 119 = .ok (.iload_n 1, 1) := by decide +kernel
theorem d_R_equip_120 : decode prog_10_method_49_code 120 = .ok (.iconst 1, 1) := by decide +kernel
theorem d_R_equip_121 : decode prog_10_method_49_code 121 = .ok (.iadd, 1) := by decide +kernel
theorem d_R_equip_122 : decode prog_10_method_49_code 122 = .ok (.bipush 8, 2) := by decide +kernel
theorem d_R_equip_124 : decode prog_10_method_49_code 124 = .ok (.bipush 6, 2) := by decide +kernel
theorem d_R_equip_126 : decode prog_10_method_49_code 126 = .ok (.invokevirtual 200, 3) := by decide +kernel
theorem d_R_equip_129 : decode prog_10_method_49_code 129 = .ok (.aload_n 0, 1) := by decide +kernel
theorem d_R_equip_130 : decode prog_10_method_49_code 130 = .ok (.iconst 5, 1) := by decide +kernel
theorem d_R_equip_131 : decode prog_10_method_49_code 131 = .ok (.aload_n 0, 1) := by decide +kernel
theorem d_R_equip_132 : decode prog_10_method_49_code 132 = .ok (.getfield 90, 3) := by decide +kernel
theorem d_R_equip_135 : decode prog_10_method_49_code 135 = .ok (.iload_n 1, 1) := by decide +kernel
theorem d_R_equip_136 : decode prog_10_method_49_code 136 = .ok (.iaload, 1) := by decide +kernel
theorem d_R_equip_137 : decode prog_10_method_49_code 137 = .ok (.iconst 0, 1) := by decide +kernel
theorem d_R_equip_138 : decode prog_10_method_49_code 138 = .ok (.bipush 8, 2) := by decide +kernel
theorem d_R_equip_140 : decode prog_10_method_49_code 140 = .ok (.iload_n 2, 1) := by decide +kernel
theorem d_R_equip_141 : decode prog_10_method_49_code 141 = .ok (.imul, 1) := by decide +kernel
theorem d_R_equip_142 : decode prog_10_method_49_code 142 = .ok (.bipush 80, 2) := by decide +kernel
theorem d_R_equip_144 : decode prog_10_method_49_code 144 = .ok (.iconst 0, 1) := by decide +kernel
theorem d_R_equip_145 : decode prog_10_method_49_code 145 = .ok (.iconst 2, 1) := by decide +kernel
theorem d_R_equip_146 : decode prog_10_method_49_code 146 = .ok (.invokevirtual 254, 3) := by decide +kernel
theorem d_R_equip_149 : decode prog_10_method_49_code 149 = .ok (.aload_n 0, 1) := by decide +kernel
theorem d_R_equip_150 : decode prog_10_method_49_code 150 = .ok (.iconst 3, 1) := by decide +kernel
theorem d_R_equip_151 : decode prog_10_method_49_code 151 = .ok (.putfield 185, 3) := by decide +kernel
theorem d_R_equip_154 : decode prog_10_method_49_code 154 = .ok (.aload_n 0, 1) := by decide +kernel
theorem d_R_equip_155 : decode prog_10_method_49_code 155 = .ok (.invokevirtual 204, 3) := by decide +kernel
theorem d_R_equip_158 : decode prog_10_method_49_code 158 = .ok (.ifCond .eq 40, 3) := by decide +kernel
theorem d_R_equip_161 : decode prog_10_method_49_code 161 = .ok (.aload_n 0, 1) := by decide +kernel
theorem d_R_equip_162 : decode prog_10_method_49_code 162 = .ok (.getfield 78, 3) := by decide +kernel
theorem d_R_equip_165 : decode prog_10_method_49_code 165 = .ok (.bipush 6, 2) := by decide +kernel
theorem d_R_equip_167 : decode prog_10_method_49_code 167 = .ok (.iaload, 1) := by decide +kernel
theorem d_R_equip_168 : decode prog_10_method_49_code 168 = .ok (.iconst 1, 1) := by decide +kernel
theorem d_R_equip_169 : decode prog_10_method_49_code 169 = .ok (.if_icmp .ne 29, 3) := by decide +kernel
theorem d_R_equip_172 : decode prog_10_method_49_code 172 = .ok (.aload_n 0, 1) := by decide +kernel
theorem d_R_equip_173 : decode prog_10_method_49_code 173 = .ok (.getfield 78, 3) := by decide +kernel
theorem d_R_equip_176 : decode prog_10_method_49_code 176 = .ok (.bipush 7, 2) := by decide +kernel
theorem d_R_equip_178 : decode prog_10_method_49_code 178 = .ok (.iaload, 1) := by decide +kernel
theorem d_R_equip_179 : decode prog_10_method_49_code 179 = .ok (.iconst 1, 1) := by decide +kernel
theorem d_R_equip_180 : decode prog_10_method_49_code 180 = .ok (.if_icmp .ne 18, 3) := by decide +kernel
theorem d_R_equip_183 : decode prog_10_method_49_code 183 = .ok (.aload_n 0, 1) := by decide +kernel
theorem d_R_equip_184 : decode prog_10_method_49_code 184 = .ok (.getfield 78, 3) := by decide +kernel
theorem d_R_equip_187 : decode prog_10_method_49_code 187 = .ok (.bipush 8, 2) := by decide +kernel
theorem d_R_equip_189 : decode prog_10_method_49_code 189 = .ok (.iaload, 1) := by decide +kernel
theorem d_R_equip_190 : decode prog_10_method_49_code 190 = .ok (.iconst 1, 1) := by decide +kernel
theorem d_R_equip_191 : decode prog_10_method_49_code 191 = .ok (.if_icmp .ne 7, 3) := by decide +kernel
theorem d_R_equip_194 : decode prog_10_method_49_code 194 = .ok (.iconst 1, 1) := by decide +kernel
theorem d_R_equip_195 : decode prog_10_method_49_code 195 = .ok (.goto 4, 3) := by decide +kernel
theorem d_R_equip_198 : decode prog_10_method_49_code 198 = .ok (.iconst 0, 1) := by decide +kernel
theorem d_R_equip_199 : decode prog_10_method_49_code 199 = .ok (.istore 4, 2) := by decide +kernel
theorem d_R_equip_201 : decode prog_10_method_49_code 201 = .ok (.aload_n 0, 1) := by decide +kernel
theorem d_R_equip_202 : decode prog_10_method_49_code 202 = .ok (.iconst 3, 1) := by decide +kernel
theorem d_R_equip_203 : decode prog_10_method_49_code 203 = .ok (.iconst 5, 1) := by decide +kernel
theorem d_R_equip_204 : decode prog_10_method_49_code 204 = .ok (.iload_n 1, 1) := by decide +kernel
theorem d_R_equip_205 : decode prog_10_method_49_code 205 = .ok (.iconst 1, 1) := by decide +kernel
theorem d_R_equip_206 : decode prog_10_method_49_code 206 = .ok (.iadd, 1) := by decide +kernel
theorem d_R_equip_207 : decode prog_10_method_49_code 207 = .ok (.bipush 14, 2) := by decide +kernel
theorem d_R_equip_209 : decode prog_10_method_49_code 209 = .ok (.bipush 6, 2) := by decide +kernel
theorem d_R_equip_211 : decode prog_10_method_49_code 211 = .ok (.invokevirtual 200, 3) := by decide +kernel
theorem d_R_equip_214 : decode prog_10_method_49_code 214 = .ok (.aload_n 0, 1) := by decide +kernel
theorem d_R_equip_215 : decode prog_10_method_49_code 215 = .ok (.iconst 3, 1) := by decide +kernel
theorem d_R_equip_216 : decode prog_10_method_49_code 216 = .ok (.aload_n 0, 1) := by decide +kernel
theorem d_R_equip_217 : decode prog_10_method_49_code 217 = .ok (.getfield 93, 3) := by decide +kernel
theorem d_R_equip_220 : decode prog_10_method_49_code 220 = .ok (.iload_n 1, 1) := by decide +kernel
theorem d_R_equip_221 : decode prog_10_method_49_code 221 = .ok (.iaload, 1) := by decide +kernel
theorem d_R_equip_222 : decode prog_10_method_49_code 222 = .ok (.iconst 0, 1) := by decide +kernel
theorem d_R_equip_223 : decode prog_10_method_49_code 223 = .ok (.bipush 8, 2) := by decide +kernel
theorem d_R_equip_225 : decode prog_10_method_49_code 225 = .ok (.iload_n 3, 1) := by decide +kernel
theorem d_R_equip_226 : decode prog_10_method_49_code 226 = .ok (.imul, 1) := by decide +kernel
theorem d_R_equip_227 : decode prog_10_method_49_code 227 = .ok (.bipush 96, 2) := by decide +kernel
theorem d_R_equip_229 : decode prog_10_method_49_code 229 = .ok (.iconst 0, 1) := by decide +kernel
theorem d_R_equip_230 : decode prog_10_method_49_code 230 = .ok (.iconst 1, 1) := by decide +kernel
theorem d_R_equip_231 : decode prog_10_method_49_code 231 = .ok (.invokevirtual 254, 3) := by decide +kernel
theorem d_R_equip_234 : decode prog_10_method_49_code 234 = .ok (.aload_n 0, 1) := by decide +kernel
theorem d_R_equip_235 : decode prog_10_method_49_code 235 = .ok (.iconst 1, 1) := by decide +kernel
theorem d_R_equip_236 : decode prog_10_method_49_code 236 = .ok (.putfield 185, 3) := by decide +kernel
theorem d_R_equip_239 : decode prog_10_method_49_code 239 = .ok (.aload_n 0, 1) := by decide +kernel
theorem d_R_equip_240 : decode prog_10_method_49_code 240 = .ok (.invokevirtual 204, 3) := by decide +kernel
theorem d_R_equip_243 : decode prog_10_method_49_code 243 = .ok (.ifCond .eq 18, 3) := by decide +kernel
theorem d_R_equip_246 : decode prog_10_method_49_code 246 = .ok (.aload_n 0, 1) := by decide +kernel
theorem d_R_equip_247 : decode prog_10_method_49_code 247 = .ok (.getfield 78, 3) := by decide +kernel
theorem d_R_equip_250 : decode prog_10_method_49_code 250 = .ok (.bipush 6, 2) := by decide +kernel
theorem d_R_equip_252 : decode prog_10_method_49_code 252 = .ok (.iaload, 1) := by decide +kernel
theorem d_R_equip_253 : decode prog_10_method_49_code 253 = .ok (.iconst 1, 1) := by decide +kernel
theorem d_R_equip_254 : decode prog_10_method_49_code 254 = .ok (.if_icmp .ne 7, 3) := by decide +kernel
theorem d_R_equip_257 : decode prog_10_method_49_code 257 = .ok (.iconst 1, 1) := by decide +kernel
theorem d_R_equip_258 : decode prog_10_method_49_code 258 = .ok (.goto 4, 3) := by decide +kernel
theorem d_R_equip_261 : decode prog_10_method_49_code 261 = .ok (.iconst 0, 1) := by decide +kernel
theorem d_R_equip_262 : decode prog_10_method_49_code 262 = .ok (.istore 5, 2) := by decide +kernel
theorem d_R_equip_264 : decode prog_10_method_49_code 264 = .ok (.iload 4, 2) := by decide +kernel
theorem d_R_equip_266 : decode prog_10_method_49_code 266 = .ok (.ifCond .eq 12, 3) := by decide +kernel
theorem d_R_equip_269 : decode prog_10_method_49_code 269 = .ok (.iload 5, 2) := by decide +kernel
theorem d_R_equip_271 : decode prog_10_method_49_code 271 = .ok (.ifCond .eq 7, 3) := by decide +kernel
theorem d_R_equip_274 : decode prog_10_method_49_code 274 = .ok (.iconst 1, 1) := by decide +kernel
theorem d_R_equip_275 : decode prog_10_method_49_code 275 = .ok (.goto 4, 3) := by decide +kernel
theorem d_R_equip_278 : decode prog_10_method_49_code 278 = .ok (.iconst 0, 1) := by decide +kernel
theorem d_R_equip_279 : decode prog_10_method_49_code 279 = .ok (.ireturn, 1) := by decide +kernel
theorem d_R_setup_0 : decode prog_10_method_50_code 0 = .ok (.aload_n 0, 1) := by decide +kernel
theorem d_R_setup_1 : decode prog_10_method_50_code 1 = .ok (.iconst 0, 1) := by decide +kernel
theorem d_R_setup_2 : decode prog_10_method_50_code 2 = .ok (.putfield 247, 3) := by decide +kernel
theorem d_R_setup_5 : decode prog_10_method_50_code 5 = .ok (.iconst 0, 1) := by decide +kernel
theorem d_R_setup_6 : decode prog_10_method_50_code 6 = .ok (.istore_n 1, 1) := by decide +kernel
theorem d_R_setup_7 : decode prog_10_method_50_code 7 = .ok (.iload_n 1, 1) := by decide +kernel
theorem d_R_setup_8 : decode prog_10_method_50_code 8 = .ok (.aload_n 0, 1) := by decide +kernel
theorem d_R_setup_9 : decode prog_10_method_50_code 9 = .ok (.getfield 241, 3) := by decide +kernel
theorem d_R_setup_12 : decode prog_10_method_50_code 12 = .ok (.if_icmp .ge 82, 3) := by decide +kernel
theorem d_R_setup_15 : decode prog_10_method_50_code 15 = .ok (.aload_n 0, 1) := by decide +kernel
theorem d_R_setup_16 : decode prog_10_method_50_code 16 = .ok (.getfield 96, 3) := by decide +kernel
theorem d_R_setup_19 : decode prog_10_method_50_code 19 = .ok (.iload_n 1, 1) := by decide +kernel
theorem d_R_setup_20 : decode prog_10_method_50_code 20 = .ok (.aload_n 0, 1) := by decide +kernel
theorem d_R_setup_21 : decode prog_10_method_50_code 21 = .ok (.getfield 7, 3) := by decide +kernel
theorem d_R_setup_24 : decode prog_10_method_50_code 24 = .ok (.iload_n 1, 1) := by decide +kernel
theorem d_R_setup_25 : decode prog_10_method_50_code 25 = .ok (.iaload, 1) := by decide +kernel
theorem d_R_setup_26 : decode prog_10_method_50_code 26 = .ok (.iastore, 1) := by decide +kernel
theorem d_R_setup_27 : decode prog_10_method_50_code 27 = .ok (.aload_n 0, 1) := by decide +kernel
theorem d_R_setup_28 : decode prog_10_method_50_code 28 = .ok (.getfield 99, 3) := by decide +kernel
theorem d_R_setup_31 : decode prog_10_method_50_code 31 = .ok (.iload_n 1, 1) := by decide +kernel
theorem d_R_setup_32 : decode prog_10_method_50_code 32 = .ok (.aload_n 0, 1) := by decide +kernel
theorem d_R_setup_33 : decode prog_10_method_50_code 33 = .ok (.getfield 13, 3) := by decide +kernel
theorem d_R_setup_36 : decode prog_10_method_50_code 36 = .ok (.iload_n 1, 1) := by decide +kernel
theorem d_R_setup_37 : decode prog_10_method_50_code 37 = .ok (.iaload, 1) := by decide +kernel
theorem d_R_setup_38 : decode prog_10_method_50_code 38 = .ok (.iastore, 1) := by decide +kernel
theorem d_R_setup_39 : decode prog_10_method_50_code 39 = .ok (.aload_n 0, 1) := by decide +kernel
theorem d_R_setup_40 : decode prog_10_method_50_code 40 = .ok (.getfield 90, 3) := by decide +kernel
theorem d_R_setup_43 : decode prog_10_method_50_code 43 = .ok (.iload_n 1, 1) := by decide +kernel
theorem d_R_setup_44 : decode prog_10_method_50_code 44 = .ok (.aload_n 0, 1) := by decide +kernel
theorem d_R_setup_45 : decode prog_10_method_50_code 45 = .ok (.getfield 247, 3) := by decide +kernel
theorem d_R_setup_48 : decode prog_10_method_50_code 48 = .ok (.iastore, 1) := by decide +kernel
theorem d_R_setup_49 : decode prog_10_method_50_code 49 = .ok (.aload_n 0, 1) := by decide +kernel
theorem d_R_setup_50 : decode prog_10_method_50_code 50 = .ok (.getfield 93, 3) := by decide +kernel
theorem d_R_setup_53 : decode prog_10_method_50_code 53 = .ok (.iload_n 1, 1) := by decide +kernel
theorem d_R_setup_54 : decode prog_10_method_50_code 54 = .ok (.aload_n 0, 1) := by decide +kernel
theorem d_R_setup_55 : decode prog_10_method_50_code 55 = .ok (.getfield 247, 3) := by decide +kernel
theorem d_R_setup_58 : decode prog_10_method_50_code 58 = .ok (.aload_n 0, 1) := by decide +kernel
theorem d_R_setup_59 : decode prog_10_method_50_code 59 = .ok (.getfield 7, 3) := by decide +kernel
theorem d_R_setup_62 : decode prog_10_method_50_code 62 = .ok (.iload_n 1, 1) := by decide +kernel
theorem d_R_setup_63 : decode prog_10_method_50_code 63 = .ok (.iaload, 1) := by decide +kernel
theorem d_R_setup_64 : decode prog_10_method_50_code 64 = .ok (.iadd, 1) := by decide +kernel
theorem d_R_setup_65 : decode prog_10_method_50_code 65 = .ok (.iastore, 1) := by decide +kernel
theorem d_R_setup_66 : decode prog_10_method_50_code 66 = .ok (.aload_n 0, 1) := by decide +kernel
theorem d_R_setup_67 : decode prog_10_method_50_code 67 = .ok (.dup, 1) := by decide +kernel
theorem d_R_setup_68 : decode prog_10_method_50_code 68 = .ok (.getfield 247, 3) := by decide +kernel
theorem d_R_setup_71 : decode prog_10_method_50_code 71 = .ok (.aload_n 0, 1) := by decide +kernel
theorem d_R_setup_72 : decode prog_10_method_50_code 72 = .ok (.getfield 7, 3) := by decide +kernel
theorem d_R_setup_75 : decode prog_10_method_50_code 75 = .ok (.iload_n 1, 1) := by decide +kernel
theorem d_R_setup_76 : decode prog_10_method_50_code 76 = .ok (.iaload, 1) := by decide +kernel
theorem d_R_setup_77 : decode prog_10_method_50_code 77 = .ok (.aload_n 0, 1) := by decide +kernel
theorem d_R_setup_78 : decode prog_10_method_50_code 78 = .ok (.getfield 13, 3) := by decide +kernel
theorem d_R_setup_81 : decode prog_10_method_50_code 81 = .ok (.iload_n 1, 1) := by decide +kernel
theorem d_R_setup_82 : decode prog_10_method_50_code 82 = .ok (.iaload, 1) := by decide +kernel
theorem d_R_setup_83 : decode prog_10_method_50_code 83 = .ok (.iadd, 1) := by decide +kernel
theorem d_R_setup_84 : decode prog_10_method_50_code 84 = .ok (.iadd, 1) := by decide +kernel
theorem d_R_setup_85 : decode prog_10_method_50_code 85 = .ok (.putfield 247, 3) := by decide +kernel
theorem d_R_setup_88 : decode prog_10_method_50_code 88 = .ok (.iinc 1 1, 3) := by decide +kernel
theorem d_R_setup_91 : decode prog_10_method_50_code 91 = .ok (.goto (-84), 3) := by decide +kernel
theorem d_R_setup_94 : decode prog_10_method_50_code 94 = .ok (.iconst 0, 1) := by decide +kernel
theorem d_R_setup_95 : decode prog_10_method_50_code 95 = .ok (.istore_n 1, 1) := by decide +kernel
theorem d_R_setup_96 : decode prog_10_method_50_code 96 = .ok (.iconst 0, 1) := by decide +kernel
theorem d_R_setup_97 : decode prog_10_method_50_code 97 = .ok (.istore_n 2, 1) := by decide +kernel
theorem d_R_setup_98 : decode prog_10_method_50_code 98 = .ok (.iload_n 2, 1) := by decide +kernel
theorem d_R_setup_99 : decode prog_10_method_50_code 99 = .ok (.aload_n 0, 1) := by decide +kernel
theorem d_R_setup_100 : decode prog_10_method_50_code 100 = .ok (.getfield 241, 3) := by decide +kernel
theorem d_R_setup_103 : decode prog_10_method_50_code 103 = .ok (.if_icmp .ge 27, 3) := by decide +kernel
theorem d_R_setup_106 : decode prog_10_method_50_code 106 = .ok (.aload_n 0, 1) := by decide +kernel
theorem d_R_setup_107 : decode prog_10_method_50_code 107 = .ok (.iload_n 2, 1) := by decide +kernel
theorem d_R_setup_108 : decode prog_10_method_50_code 108 = .ok (.invokevirtual 258, 3) := by decide +kernel
theorem d_R_setup_111 : decode prog_10_method_50_code 111 = .ok (.istore_n 3, 1) := by decide +kernel
theorem d_R_setup_112 : decode prog_10_method_50_code 112 = .ok (.iload_n 1, 1) := by decide +kernel
theorem d_R_setup_113 : decode prog_10_method_50_code 113 = .ok (.iload_n 3, 1) := by decide +kernel
theorem d_R_setup_114 : decode prog_10_method_50_code 114 = .ok (.ifCond .eq 7, 3) := by decide +kernel
theorem d_R_setup_117 : decode prog_10_method_50_code 117 = .ok (.iconst 1, 1) := by decide +kernel
theorem d_R_setup_118 : decode prog_10_method_50_code 118 = .ok (.goto 4, 3) := by decide +kernel
theorem d_R_setup_121 : decode prog_10_method_50_code 121 = .ok (.iconst 0, 1) := by decide +kernel
theorem d_R_setup_122 : decode prog_10_method_50_code 122 = .ok (.iadd, 1) := by decide +kernel
theorem d_R_setup_123 : decode prog_10_method_50_code 123 = .ok (.istore_n 1, 1) := by decide +kernel
theorem d_R_setup_124 : decode prog_10_method_50_code 124 = .ok (.iinc 2 1, 3) := by decide +kernel
theorem d_R_setup_127 : decode prog_10_method_50_code 127 = .ok (.goto (-29), 3) := by decide +kernel
theorem d_R_setup_130 : decode prog_10_method_50_code 130 = .ok (.aload_n 0, 1) := by decide +kernel
theorem d_R_setup_131 : decode prog_10_method_50_code 131 = .ok (.aload_n 0, 1) := by decide +kernel
theorem d_R_setup_132 : decode prog_10_method_50_code 132 = .ok (.getfield 241, 3) := by decide +kernel
theorem d_R_setup_135 : decode prog_10_method_50_code 135 = .ok (.putfield 244, 3) := by decide +kernel
theorem d_R_setup_138 : decode prog_10_method_50_code 138 = .ok (.iconst 0, 1) := by decide +kernel
theorem d_R_setup_139 : decode prog_10_method_50_code 139 = .ok (.istore_n 2, 1) := by decide +kernel
theorem d_R_setup_140 : decode prog_10_method_50_code 140 = .ok (.iload_n 2, 1) := by decide +kernel
theorem d_R_setup_141 : decode prog_10_method_50_code 141 = .ok (.bipush 24, 2) := by decide +kernel
theorem d_R_setup_143 : decode prog_10_method_50_code 143 = .ok (.if_icmp .ge 23, 3) := by decide +kernel
theorem d_R_setup_146 : decode prog_10_method_50_code 146 = .ok (.aload_n 0, 1) := by decide +kernel
theorem d_R_setup_147 : decode prog_10_method_50_code 147 = .ok (.getfield 102, 3) := by decide +kernel
theorem d_R_setup_150 : decode prog_10_method_50_code 150 = .ok (.iload_n 2, 1) := by decide +kernel
theorem d_R_setup_151 : decode prog_10_method_50_code 151 = .ok (.iconst 0, 1) := by decide +kernel
theorem d_R_setup_152 : decode prog_10_method_50_code 152 = .ok (.iastore, 1) := by decide +kernel
theorem d_R_setup_153 : decode prog_10_method_50_code 153 = .ok (.aload_n 0, 1) := by decide +kernel
theorem d_R_setup_154 : decode prog_10_method_50_code 154 = .ok (.getfield 105, 3) := by decide +kernel
theorem d_R_setup_157 : decode prog_10_method_50_code 157 = .ok (.iload_n 2, 1) := by decide +kernel
theorem d_R_setup_158 : decode prog_10_method_50_code 158 = .ok (.iconst 0, 1) := by decide +kernel
theorem d_R_setup_159 : decode prog_10_method_50_code 159 = .ok (.iastore, 1) := by decide +kernel
theorem d_R_setup_160 : decode prog_10_method_50_code 160 = .ok (.iinc 2 1, 3) := by decide +kernel
theorem d_R_setup_163 : decode prog_10_method_50_code 163 = .ok (.goto (-23), 3) := by decide +kernel
theorem d_R_setup_166 : decode prog_10_method_50_code 166 = .ok (.iload_n 1, 1) := by decide +kernel
theorem d_R_setup_167 : decode prog_10_method_50_code 167 = .ok (.ireturn, 1) := by decide +kernel
theorem d_R_spoil_0 : decode prog_10_method_33_code 0 = .ok (.iload_n 1, 1) := by decide +kernel
theorem d_R_spoil_1 : decode prog_10_method_33_code 1 = .ok (.ifCond .lt 11, 3) := by decide +kernel
theorem d_R_spoil_4 : decode prog_10_method_33_code 4 = .ok (.iload_n 1, 1) := by decide +kernel
theorem d_R_spoil_5 : decode prog_10_method_33_code 5 = .ok (.aload_n 0, 1) := by decide +kernel
theorem d_R_spoil_6 : decode prog_10_method_33_code 6 = .ok (.getfield 108, 3) := by decide +kernel
theorem d_R_spoil_9 : decode prog_10_method_33_code 9 = .ok (.if_icmp .le 5, 3) := by decide +kernel
theorem d_R_spoil_12 : decode prog_10_method_33_code 12 = .ok (.iconst 0, 1) := by decide +kernel
theorem d_R_spoil_13 : decode prog_10_method_33_code 13 = .ok (.ireturn, 1) := by decide +kernel
theorem d_R_spoil_14 : decode prog_10_method_33_code 14 = .ok (.aload_n 0, 1) := by decide +kernel
theorem d_R_spoil_15 : decode prog_10_method_33_code 15 = .ok (.iload_n 1, 1) := by decide +kernel
theorem d_R_spoil_16 : decode prog_10_method_33_code 16 = .ok (.putfield 62, 3) := by decide +kernel
theorem d_R_spoil_19 : decode prog_10_method_33_code 19 = .ok (.iconst 1, 1) := by decide +kernel
theorem d_R_spoil_20 : decode prog_10_method_33_code 20 = .ok (.ireturn, 1) := by decide +kernel
theorem d_R_state_0 : decode prog_10_method_45_code 0 = .ok (.aload_n 0, 1) := by decide +kernel
theorem d_R_state_1 : decode prog_10_method_45_code 1 = .ok (.iload_n 1, 1) := by decide +kernel
theorem d_R_state_2 : decode prog_10_method_45_code 2 = .ok (.invokevirtual 208, 3) := by decide +kernel
theorem d_R_state_5 : decode prog_10_method_45_code 5 = .ok (.ifCond .eq 23, 3) := by decide +kernel
theorem d_R_state_8 : decode prog_10_method_45_code 8 = .ok (.aload_n 0, 1) := by decide +kernel
theorem d_R_state_9 : decode prog_10_method_45_code 9 = .ok (.iload_n 1, 1) := by decide +kernel
theorem d_R_state_10 : decode prog_10_method_45_code 10 = .ok (.iconst 2, 1) := by decide +kernel
theorem d_R_state_11 : decode prog_10_method_45_code 11 = .ok (.invokevirtual 111, 3) := by decide +kernel
theorem d_R_state_14 : decode prog_10_method_45_code 14 = .ok (.sipush 256, 3) := by decide +kernel
theorem d_R_state_17 : decode prog_10_method_45_code 17 = .ok (.aload_n 0, 1) := by decide +kernel
theorem d_R_state_18 : decode prog_10_method_45_code 18 = .ok (.iload_n 1, 1) := by decide +kernel
theorem d_R_state_19 : decode prog_10_method_45_code 19 = .ok (.iconst 3, 1) := by decide +kernel
theorem d_R_state_20 : decode prog_10_method_45_code 20 = .ok (.invokevirtual 111, 3) := by decide +kernel
theorem d_R_state_23 : decode prog_10_method_45_code 23 = .ok (.imul, 1) := by decide +kernel
theorem d_R_state_24 : decode prog_10_method_45_code 24 = .ok (.iadd, 1) := by decide +kernel
theorem d_R_state_25 : decode prog_10_method_45_code 25 = .ok (.goto 4, 3) := by decide +kernel
theorem d_R_state_28 : decode prog_10_method_45_code 28 = .ok (.iconst (-1), 1) := by decide +kernel
theorem d_R_state_29 : decode prog_10_method_45_code 29 = .ok (.ireturn, 1) := by decide +kernel
theorem d_R_station_0 : decode prog_10_method_3_code 0 = .ok (.aload_n 0, 1) := by decide +kernel
theorem d_R_station_1 : decode prog_10_method_3_code 1 = .ok (.getfield 108, 3) := by decide +kernel
theorem d_R_station_4 : decode prog_10_method_3_code 4 = .ok (.bipush 6, 2) := by decide +kernel
theorem d_R_station_6 : decode prog_10_method_3_code 6 = .ok (.if_icmp .eq 21, 3) := by decide +kernel
theorem d_R_station_9 : decode prog_10_method_3_code 9 = .ok (.iload_n 1, 1) := by decide +kernel
theorem d_R_station_10 : decode prog_10_method_3_code 10 = .ok (.ifCond .lt 17, 3) := by decide +kernel
theorem d_R_station_13 : decode prog_10_method_3_code 13 = .ok (.iload_n 1, 1) := by decide +kernel
theorem d_R_station_14 : decode prog_10_method_3_code 14 = .ok (.iconst 2, 1) := by decide +kernel
theorem d_R_station_15 : decode prog_10_method_3_code 15 = .ok (.if_icmp .gt 12, 3) := by decide +kernel
theorem d_R_station_18 : decode prog_10_method_3_code 18 = .ok (.iload_n 2, 1) := by decide +kernel
theorem d_R_station_19 : decode prog_10_method_3_code 19 = .ok (.ifCond .lt 8, 3) := by decide +kernel
theorem d_R_station_22 : decode prog_10_method_3_code 22 = .ok (.iload_n 2, 1) := by decide +kernel
theorem d_R_station_23 : decode prog_10_method_3_code 23 = .ok (.iconst 2, 1) := by decide +kernel
theorem d_R_station_24 : decode prog_10_method_3_code 24 = .ok (.if_icmp .le 5, 3) := by decide +kernel
theorem d_R_station_27 : decode prog_10_method_3_code 27 = .ok (.iconst (-1), 1) := by decide +kernel
theorem d_R_station_28 : decode prog_10_method_3_code 28 = .ok (.ireturn, 1) := by decide +kernel
theorem d_R_station_29 : decode prog_10_method_3_code 29 = .ok (.aload_n 0, 1) := by decide +kernel
theorem d_R_station_30 : decode prog_10_method_3_code 30 = .ok (.getfield 7, 3) := by decide +kernel
theorem d_R_station_33 : decode prog_10_method_3_code 33 = .ok (.aload_n 0, 1) := by decide +kernel
theorem d_R_station_34 : decode prog_10_method_3_code 34 = .ok (.getfield 108, 3) := by decide +kernel
theorem d_R_station_37 : decode prog_10_method_3_code 37 = .ok (.iload_n 1, 1) := by decide +kernel
theorem d_R_station_38 : decode prog_10_method_3_code 38 = .ok (.iastore, 1) := by decide +kernel
theorem d_R_station_39 : decode prog_10_method_3_code 39 = .ok (.aload_n 0, 1) := by decide +kernel
theorem d_R_station_40 : decode prog_10_method_3_code 40 = .ok (.getfield 13, 3) := by decide +kernel
theorem d_R_station_43 : decode prog_10_method_3_code 43 = .ok (.aload_n 0, 1) := by decide +kernel
theorem d_R_station_44 : decode prog_10_method_3_code 44 = .ok (.getfield 108, 3) := by decide +kernel
theorem d_R_station_47 : decode prog_10_method_3_code 47 = .ok (.iload_n 2, 1) := by decide +kernel
theorem d_R_station_48 : decode prog_10_method_3_code 48 = .ok (.iastore, 1) := by decide +kernel
theorem d_R_station_49 : decode prog_10_method_3_code 49 = .ok (.aload_n 0, 1) := by decide +kernel
theorem d_R_station_50 : decode prog_10_method_3_code 50 = .ok (.getfield 32, 3) := by decide +kernel
theorem d_R_station_53 : decode prog_10_method_3_code 53 = .ok (.aload_n 0, 1) := by decide +kernel
theorem d_R_station_54 : decode prog_10_method_3_code 54 = .ok (.getfield 108, 3) := by decide +kernel
theorem d_R_station_57 : decode prog_10_method_3_code 57 = .ok (.iconst 1, 1) := by decide +kernel
theorem d_R_station_58 : decode prog_10_method_3_code 58 = .ok (.iastore, 1) := by decide +kernel
theorem d_R_station_59 : decode prog_10_method_3_code 59 = .ok (.aload_n 0, 1) := by decide +kernel
theorem d_R_station_60 : decode prog_10_method_3_code 60 = .ok (.getfield 20, 3) := by decide +kernel
theorem d_R_station_63 : decode prog_10_method_3_code 63 = .ok (.sipush 128, 3) := by decide +kernel
theorem d_R_station_66 : decode prog_10_method_3_code 66 = .ok (.aload_n 0, 1) := by decide +kernel
theorem d_R_station_67 : decode prog_10_method_3_code 67 = .ok (.getfield 108, 3) := by decide +kernel
theorem d_R_station_70 : decode prog_10_method_3_code 70 = .ok (.imul, 1) := by decide +kernel
theorem d_R_station_71 : decode prog_10_method_3_code 71 = .ok (.iconst 2, 1) := by decide +kernel
theorem d_R_station_72 : decode prog_10_method_3_code 72 = .ok (.iadd, 1) := by decide +kernel
theorem d_R_station_73 : decode prog_10_method_3_code 73 = .ok (.iconst 1, 1) := by decide +kernel
theorem d_R_station_74 : decode prog_10_method_3_code 74 = .ok (.iastore, 1) := by decide +kernel
theorem d_R_station_75 : decode prog_10_method_3_code 75 = .ok (.aload_n 0, 1) := by decide +kernel
theorem d_R_station_76 : decode prog_10_method_3_code 76 = .ok (.dup, 1) := by decide +kernel
theorem d_R_station_77 : decode prog_10_method_3_code 77 = .ok (.getfield 108, 3) := by decide +kernel
theorem d_R_station_80 : decode prog_10_method_3_code 80 = .ok (.iconst 1, 1) := by decide +kernel
theorem d_R_station_81 : decode prog_10_method_3_code 81 = .ok (.iadd, 1) := by decide +kernel
theorem d_R_station_82 : decode prog_10_method_3_code 82 = .ok (.putfield 108, 3) := by decide +kernel
theorem d_R_station_85 : decode prog_10_method_3_code 85 = .ok (.aload_n 0, 1) := by decide +kernel
theorem d_R_station_86 : decode prog_10_method_3_code 86 = .ok (.getfield 108, 3) := by decide +kernel
theorem d_R_station_89 : decode prog_10_method_3_code 89 = .ok (.iconst 1, 1) := by decide +kernel
theorem d_R_station_90 : decode prog_10_method_3_code 90 = .ok (.isub, 1) := by decide +kernel
theorem d_R_station_91 : decode prog_10_method_3_code 91 = .ok (.ireturn, 1) := by decide +kernel
theorem d_R_fail_0 : decode prog_10_method_34_code 0 = .ok (.aload_n 0, 1) := by decide +kernel
theorem d_R_fail_1 : decode prog_10_method_34_code 1 = .ok (.getfield 35, 3) := by decide +kernel
theorem d_R_fail_4 : decode prog_10_method_34_code 4 = .ok (.iload_n 1, 1) := by decide +kernel
theorem d_R_fail_5 : decode prog_10_method_34_code 5 = .ok (.iconst 1, 1) := by decide +kernel
theorem d_R_fail_6 : decode prog_10_method_34_code 6 = .ok (.bastore, 1) := by decide +kernel
theorem d_R_fail_7 : decode prog_10_method_34_code 7 = .ok (.aload_n 0, 1) := by decide +kernel
theorem d_R_fail_8 : decode prog_10_method_34_code 8 = .ok (.getfield 38, 3) := by decide +kernel
theorem d_R_fail_11 : decode prog_10_method_34_code 11 = .ok (.iload_n 1, 1) := by decide +kernel
theorem d_R_fail_12 : decode prog_10_method_34_code 12 = .ok (.iload_n 2, 1) := by decide +kernel
theorem d_R_fail_13 : decode prog_10_method_34_code 13 = .ok (.iastore, 1) := by decide +kernel
theorem d_R_fail_14 : decode prog_10_method_34_code 14 = .ok (.return_, 1) := by decide +kernel
theorem d_R_like_0 : decode prog_10_method_9_code 0 = .ok (.aload_n 0, 1) := by decide +kernel
theorem d_R_like_1 : decode prog_10_method_9_code 1 = .ok (.iload_n 1, 1) := by decide +kernel
theorem d_R_like_2 : decode prog_10_method_9_code 2 = .ok (.iload_n 2, 1) := by decide +kernel
theorem d_R_like_3 : decode prog_10_method_9_code 3 = .ok (.invokevirtual 121, 3) := by decide +kernel
theorem d_R_like_6 : decode prog_10_method_9_code 6 = .ok (.ifCond .eq 28, 3) := by decide +kernel
theorem d_R_like_9 : decode prog_10_method_9_code 9 = .ok (.aload_n 0, 1) := by decide +kernel
theorem d_R_like_10 : decode prog_10_method_9_code 10 = .ok (.iload_n 1, 1) := by decide +kernel
theorem d_R_like_11 : decode prog_10_method_9_code 11 = .ok (.iload_n 2, 1) := by decide +kernel
theorem d_R_like_12 : decode prog_10_method_9_code 12 = .ok (.invokevirtual 125, 3) := by decide +kernel
theorem d_R_like_15 : decode prog_10_method_9_code 15 = .ok (.iload_n 3, 1) := by decide +kernel
theorem d_R_like_16 : decode prog_10_method_9_code 16 = .ok (.if_icmp .ne 18, 3) := by decide +kernel
theorem d_R_like_19 : decode prog_10_method_9_code 19 = .ok (.aload_n 0, 1) := by decide +kernel
theorem d_R_like_20 : decode prog_10_method_9_code 20 = .ok (.iload_n 1, 1) := by decide +kernel
theorem d_R_like_21 : decode prog_10_method_9_code 21 = .ok (.iload_n 2, 1) := by decide +kernel
theorem d_R_like_22 : decode prog_10_method_9_code 22 = .ok (.invokevirtual 115, 3) := by decide +kernel
theorem d_R_like_25 : decode prog_10_method_9_code 25 = .ok (.iload 4, 2) := by decide +kernel
theorem d_R_like_27 : decode prog_10_method_9_code 27 = .ok (.if_icmp .ne 7, 3) := by decide +kernel
theorem d_R_like_30 : decode prog_10_method_9_code 30 = .ok (.iconst 1, 1) := by decide +kernel
theorem d_R_like_31 : decode prog_10_method_9_code 31 = .ok (.goto 4, 3) := by decide +kernel
theorem d_R_like_34 : decode prog_10_method_9_code 34 = .ok (.iconst 0, 1) := by decide +kernel
theorem d_R_like_35 : decode prog_10_method_9_code 35 = .ok (.ireturn, 1) := by decide +kernel
theorem d_R_fit_0 : decode prog_10_method_36_code 0 = .ok (.iload 4, 2) := by decide +kernel
theorem d_R_fit_2 : decode prog_10_method_36_code 2 = .ok (.ifCond .ne 25, 3) := by decide +kernel
theorem d_R_fit_5 : decode prog_10_method_36_code 5 = .ok (.aload_n 0, 1) := by decide +kernel
theorem d_R_fit_6 : decode prog_10_method_36_code 6 = .ok (.iload_n 1, 1) := by decide +kernel
theorem d_R_fit_7 : decode prog_10_method_36_code 7 = .ok (.bipush 35, 2) := by decide +kernel
theorem d_R_fit_9 : decode prog_10_method_36_code 9 = .ok (.iconst 4, 1) := by decide +kernel
theorem d_R_fit_10 : decode prog_10_method_36_code 10 = .ok (.iload_n 2, 1) := by decide +kernel
theorem d_R_fit_11 : decode prog_10_method_36_code 11 = .ok (.imul, 1) := by decide +kernel
theorem d_R_fit_12 : decode prog_10_method_36_code 12 = .ok (.iadd, 1) := by decide +kernel
theorem d_R_fit_13 : decode prog_10_method_36_code 13 = .ok (.invokevirtual 111, 3) := by decide +kernel
theorem d_R_fit_16 : decode prog_10_method_36_code 16 = .ok (.ifCond .ne 7, 3) := by decide +kernel
theorem d_R_fit_19 : decode prog_10_method_36_code 19 = .ok (.iconst 1, 1) := by decide +kernel
theorem d_R_fit_20 : decode prog_10_method_36_code 20 = .ok (.goto 16, 3) := by decide +kernel
theorem d_R_fit_23 : decode prog_10_method_36_code 23 = .ok (.iconst 0, 1) := by decide +kernel
theorem d_R_fit_24 : decode prog_10_method_36_code 24 = .ok (.goto 12, 3) := by decide +kernel
theorem d_R_fit_27 : decode prog_10_method_36_code 27 = .ok (.aload_n 0, 1) := by decide +kernel
theorem d_R_fit_28 : decode prog_10_method_36_code 28 = .ok (.iload_n 1, 1) := by decide +kernel
theorem d_R_fit_29 : decode prog_10_method_36_code 29 = .ok (.iload_n 2, 1) := by decide +kernel
theorem d_R_fit_30 : decode prog_10_method_36_code 30 = .ok (.iload_n 3, 1) := by decide +kernel
theorem d_R_fit_31 : decode prog_10_method_36_code 31 = .ok (.iload 4, 2) := by decide +kernel
theorem d_R_fit_33 : decode prog_10_method_36_code 33 = .ok (.invokevirtual 212, 3) := by decide +kernel
theorem d_R_fit_36 : decode prog_10_method_36_code 36 = .ok (.ireturn, 1) := by decide +kernel
theorem d_R_mailed_0 : decode prog_10_method_35_code 0 = .ok (.aload_n 0, 1) := by decide +kernel
theorem d_R_mailed_1 : decode prog_10_method_35_code 1 = .ok (.iload_n 1, 1) := by decide +kernel
theorem d_R_mailed_2 : decode prog_10_method_35_code 2 = .ok (.iconst 0, 1) := by decide +kernel
theorem d_R_mailed_3 : decode prog_10_method_35_code 3 = .ok (.iconst 3, 1) := by decide +kernel
theorem d_R_mailed_4 : decode prog_10_method_35_code 4 = .ok (.bipush 6, 2) := by decide +kernel
theorem d_R_mailed_6 : decode prog_10_method_35_code 6 = .ok (.invokevirtual 212, 3) := by decide +kernel
theorem d_R_mailed_9 : decode prog_10_method_35_code 9 = .ok (.ifCond .eq 19, 3) := by decide +kernel
theorem d_R_mailed_12 : decode prog_10_method_35_code 12 = .ok (.aload_n 0, 1) := by decide +kernel
theorem d_R_mailed_13 : decode prog_10_method_35_code 13 = .ok (.iload_n 1, 1) := by decide +kernel
theorem d_R_mailed_14 : decode prog_10_method_35_code 14 = .ok (.iconst 1, 1) := by decide +kernel
theorem d_R_mailed_15 : decode prog_10_method_35_code 15 = .ok (.iconst 1, 1) := by decide +kernel
theorem d_R_mailed_16 : decode prog_10_method_35_code 16 = .ok (.bipush 6, 2) := by decide +kernel
theorem d_R_mailed_18 : decode prog_10_method_35_code 18 = .ok (.invokevirtual 212, 3) := by decide +kernel
theorem d_R_mailed_21 : decode prog_10_method_35_code 21 = .ok (.ifCond .eq 7, 3) := by decide +kernel
theorem d_R_mailed_24 : decode prog_10_method_35_code 24 = .ok (.iconst 1, 1) := by decide +kernel
theorem d_R_mailed_25 : decode prog_10_method_35_code 25 = .ok (.goto 4, 3) := by decide +kernel
theorem d_R_mailed_28 : decode prog_10_method_35_code 28 = .ok (.iconst 0, 1) := by decide +kernel
theorem d_R_mailed_29 : decode prog_10_method_35_code 29 = .ok (.ireturn, 1) := by decide +kernel
theorem d_R_hindrance_0 : decode prog_10_method_37_code 0 = .ok (.iload_n 2, 1) := by decide +kernel
theorem d_R_hindrance_1 : decode prog_10_method_37_code 1 = .ok (.iconst 2, 1) := by decide +kernel
theorem d_R_hindrance_2 : decode prog_10_method_37_code 2 = .ok (.if_icmp .ne 18, 3) := by decide +kernel
theorem d_R_hindrance_5 : decode prog_10_method_37_code 5 = .ok (.aload_n 0, 1) := by decide +kernel
theorem d_R_hindrance_6 : decode prog_10_method_37_code 6 = .ok (.iload_n 1, 1) := by decide +kernel
theorem d_R_hindrance_7 : decode prog_10_method_37_code 7 = .ok (.invokevirtual 216, 3) := by decide +kernel
theorem d_R_hindrance_10 : decode prog_10_method_37_code 10 = .ok (.ifCond .eq 7, 3) := by decide +kernel
theorem d_R_hindrance_13 : decode prog_10_method_37_code 13 = .ok (.iconst 0, 1) := by decide +kernel
theorem d_R_hindrance_14 : decode prog_10_method_37_code 14 = .ok (.goto 5, 3) := by decide +kernel
theorem d_R_hindrance_17 : decode prog_10_method_37_code 17 = .ok (.bipush 22, 2) := by decide +kernel
theorem d_R_hindrance_19 : decode prog_10_method_37_code 19 = .ok (.ireturn, 1) := by decide +kernel
theorem d_R_hindrance_20 : decode prog_10_method_37_code 20 = .ok (.iload_n 2, 1) := by decide +kernel
theorem d_R_hindrance_21 : decode prog_10_method_37_code 21 = .ok (.iconst 4, 1) := by decide +kernel
theorem d_R_hindrance_22 : decode prog_10_method_37_code 22 = .ok (.if_icmp .ne 47, 3) := by decide +kernel
theorem d_R_hindrance_25 : decode prog_10_method_37_code 25 = .ok (.aload_n 0, 1) := by decide +kernel
theorem d_R_hindrance_26 : decode prog_10_method_37_code 26 = .ok (.iload_n 1, 1) := by decide +kernel
theorem d_R_hindrance_27 : decode prog_10_method_37_code 27 = .ok (.iconst 2, 1) := by decide +kernel
theorem d_R_hindrance_28 : decode prog_10_method_37_code 28 = .ok (.iconst 2, 1) := by decide +kernel
theorem d_R_hindrance_29 : decode prog_10_method_37_code 29 = .ok (.aload_n 0, 1) := by decide +kernel
theorem d_R_hindrance_30 : decode prog_10_method_37_code 30 = .ok (.getfield 7, 3) := by decide +kernel
theorem d_R_hindrance_33 : decode prog_10_method_37_code 33 = .ok (.iload_n 1, 1) := by decide +kernel
theorem d_R_hindrance_34 : decode prog_10_method_37_code 34 = .ok (.iaload, 1) := by decide +kernel
theorem d_R_hindrance_35 : decode prog_10_method_37_code 35 = .ok (.invokevirtual 219, 3) := by decide +kernel
theorem d_R_hindrance_38 : decode prog_10_method_37_code 38 = .ok (.ifCond .ne 8, 3) := by decide +kernel
theorem d_R_hindrance_41 : decode prog_10_method_37_code 41 = .ok (.bipush 29, 2) := by decide +kernel
theorem d_R_hindrance_43 : decode prog_10_method_37_code 43 = .ok (.goto 25, 3) := by decide +kernel
theorem d_R_hindrance_46 : decode prog_10_method_37_code 46 = .ok (.aload_n 0, 1) := by decide +kernel
theorem d_R_hindrance_47 : decode prog_10_method_37_code 47 = .ok (.iload_n 1, 1) := by decide +kernel
theorem d_R_hindrance_48 : decode prog_10_method_37_code 48 = .ok (.iconst 3, 1) := by decide +kernel
theorem d_R_hindrance_49 : decode prog_10_method_37_code 49 = .ok (.iconst 0, 1) := by decide +kernel
theorem d_R_hindrance_50 : decode prog_10_method_37_code 50 = .ok (.aload_n 0, 1) := by decide +kernel
theorem d_R_hindrance_51 : decode prog_10_method_37_code 51 = .ok (.getfield 13, 3) := by decide +kernel
theorem d_R_hindrance_54 : decode prog_10_method_37_code 54 = .ok (.iload_n 1, 1) := by decide +kernel
theorem d_R_hindrance_55 : decode prog_10_method_37_code 55 = .ok (.iaload, 1) := by decide +kernel
theorem d_R_hindrance_56 : decode prog_10_method_37_code 56 = .ok (.invokevirtual 219, 3) := by decide +kernel
theorem d_R_hindrance_59 : decode prog_10_method_37_code 59 = .ok (.ifCond .ne 8, 3) := by decide +kernel
theorem d_R_hindrance_62 : decode prog_10_method_37_code 62 = .ok (.bipush 30, 2) := by decide +kernel
theorem d_R_hindrance_64 : decode prog_10_method_37_code 64 = .ok (.goto 4, 3) := by decide +kernel
theorem d_R_hindrance_67 : decode prog_10_method_37_code 67 = .ok (.iconst 0, 1) := by decide +kernel
theorem d_R_hindrance_68 : decode prog_10_method_37_code 68 = .ok (.ireturn, 1) := by decide +kernel
theorem d_R_hindrance_69 : decode prog_10_method_37_code 69 = .ok (.aload_n 0, 1) := by decide +kernel
theorem d_R_hindrance_70 : decode prog_10_method_37_code 70 = .ok (.getfield 7, 3) := by decide +kernel
theorem d_R_hindrance_73 : decode prog_10_method_37_code 73 = .ok (.iload_n 1, 1) := by decide +kernel
theorem d_R_hindrance_74 : decode prog_10_method_37_code 74 = .ok (.iaload, 1) := by decide +kernel
theorem d_R_hindrance_75 : decode prog_10_method_37_code 75 = .ok (.ifCond .le 30, 3) := by decide +kernel
theorem d_R_hindrance_78 : decode prog_10_method_37_code 78 = .ok (.aload_n 0, 1) := by decide +kernel
theorem d_R_hindrance_79 : decode prog_10_method_37_code 79 = .ok (.getfield 29, 3) := by decide +kernel
theorem d_R_hindrance_82 : decode prog_10_method_37_code 82 = .ok (.iconst 4, 1) := by decide +kernel
theorem d_R_hindrance_83 : decode prog_10_method_37_code 83 = .ok (.iload_n 1, 1) := by decide +kernel
theorem d_R_hindrance_84 : decode prog_10_method_37_code 84 = .ok (.imul, 1) := by decide +kernel
theorem d_R_hindrance_85 : decode prog_10_method_37_code 85 = .ok (.iconst 2, 1) := by decide +kernel
theorem d_R_hindrance_86 : decode prog_10_method_37_code 86 = .ok (.iadd, 1) := by decide +kernel
theorem d_R_hindrance_87 : decode prog_10_method_37_code 87 = .ok (.baload, 1) := by decide +kernel
theorem d_R_hindrance_88 : decode prog_10_method_37_code 88 = .ok (.ifCond .eq 12, 3) := by decide +kernel
theorem d_R_hindrance_91 : decode prog_10_method_37_code 91 = .ok (.aload_n 0, 1) := by decide +kernel
theorem d_R_hindrance_92 : decode prog_10_method_37_code 92 = .ok (.getfield 44, 3) := by decide +kernel
theorem d_R_hindrance_95 : decode prog_10_method_37_code 95 = .ok (.iload_n 1, 1) := by decide +kernel
theorem d_R_hindrance_96 : decode prog_10_method_37_code 96 = .ok (.baload, 1) := by decide +kernel
theorem d_R_hindrance_97 : decode prog_10_method_37_code 97 = .ok (.ifCond .ne 8, 3) := by decide +kernel
theorem d_R_hindrance_100 : decode prog_10_method_37_code 100 = .ok (.bipush 27, 2) := by decide +kernel
theorem d_R_hindrance_102 : decode prog_10_method_37_code 102 = .ok (.goto 4, 3) := by decide +kernel
theorem d_R_hindrance_105 : decode prog_10_method_37_code 105 = .ok (.iconst 0, 1) := by decide +kernel
theorem d_R_hindrance_106 : decode prog_10_method_37_code 106 = .ok (.ireturn, 1) := by decide +kernel
theorem d_R_control_0 : decode prog_10_method_38_code 0 = .ok (.aload_n 0, 1) := by decide +kernel
theorem d_R_control_1 : decode prog_10_method_38_code 1 = .ok (.iload_n 1, 1) := by decide +kernel
theorem d_R_control_2 : decode prog_10_method_38_code 2 = .ok (.iconst 1, 1) := by decide +kernel
theorem d_R_control_3 : decode prog_10_method_38_code 3 = .ok (.invokevirtual 111, 3) := by decide +kernel
theorem d_R_control_6 : decode prog_10_method_38_code 6 = .ok (.istore_n 2, 1) := by decide +kernel
theorem d_R_control_7 : decode prog_10_method_38_code 7 = .ok (.aload_n 0, 1) := by decide +kernel
theorem d_R_control_8 : decode prog_10_method_38_code 8 = .ok (.getfield 35, 3) := by decide +kernel
theorem d_R_control_11 : decode prog_10_method_38_code 11 = .ok (.iload_n 1, 1) := by decide +kernel
theorem d_R_control_12 : decode prog_10_method_38_code 12 = .ok (.baload, 1) := by decide +kernel
theorem d_R_control_13 : decode prog_10_method_38_code 13 = .ok (.ifCond .eq 12, 3) := by decide +kernel
theorem d_R_control_16 : decode prog_10_method_38_code 16 = .ok (.iload_n 2, 1) := by decide +kernel
theorem d_R_control_17 : decode prog_10_method_38_code 17 = .ok (.iconst 4, 1) := by decide +kernel
theorem d_R_control_18 : decode prog_10_method_38_code 18 = .ok (.ishr, 1) := by decide +kernel
theorem d_R_control_19 : decode prog_10_method_38_code 19 = .ok (.iconst 1, 1) := by decide +kernel
theorem d_R_control_20 : decode prog_10_method_38_code 20 = .ok (.iand, 1) := by decide +kernel
theorem d_R_control_21 : decode prog_10_method_38_code 21 = .ok (.ifCond .ne 4, 3) := by decide +kernel
theorem d_R_control_24 : decode prog_10_method_38_code 24 = .ok (.return_, 1) := by decide +kernel
theorem d_R_control_25 : decode prog_10_method_38_code 25 = .ok (.aload_n 0, 1) := by decide +kernel
theorem d_R_control_26 : decode prog_10_method_38_code 26 = .ok (.getfield 35, 3) := by decide +kernel
theorem d_R_control_29 : decode prog_10_method_38_code 29 = .ok (.iload_n 1, 1) := by decide +kernel
theorem d_R_control_30 : decode prog_10_method_38_code 30 = .ok (.iconst 0, 1) := by decide +kernel
theorem d_R_control_31 : decode prog_10_method_38_code 31 = .ok (.bastore, 1) := by decide +kernel
theorem d_R_control_32 : decode prog_10_method_38_code 32 = .ok (.aload_n 0, 1) := by decide +kernel
theorem d_R_control_33 : decode prog_10_method_38_code 33 = .ok (.getfield 38, 3) := by decide +kernel
theorem d_R_control_36 : decode prog_10_method_38_code 36 = .ok (.iload_n 1, 1) := by decide +kernel
theorem d_R_control_37 : decode prog_10_method_38_code 37 = .ok (.iconst 0, 1) := by decide +kernel
theorem d_R_control_38 : decode prog_10_method_38_code 38 = .ok (.iastore, 1) := by decide +kernel
theorem d_R_control_39 : decode prog_10_method_38_code 39 = .ok (.iload_n 2, 1) := by decide +kernel
theorem d_R_control_40 : decode prog_10_method_38_code 40 = .ok (.bipush 15, 2) := by decide +kernel
theorem d_R_control_42 : decode prog_10_method_38_code 42 = .ok (.iand, 1) := by decide +kernel
theorem d_R_control_43 : decode prog_10_method_38_code 43 = .ok (.istore_n 3, 1) := by decide +kernel
theorem d_R_control_44 : decode prog_10_method_38_code 44 = .ok (.iload_n 3, 1) := by decide +kernel
theorem d_R_control_45 : decode prog_10_method_38_code 45 = .ok (.iconst 1, 1) := by decide +kernel
theorem d_R_control_46 : decode prog_10_method_38_code 46 = .ok (.if_icmp .eq 29, 3) := by decide +kernel
theorem d_R_control_49 : decode prog_10_method_38_code 49 = .ok (.iload_n 3, 1) := by decide +kernel
theorem d_R_control_50 : decode prog_10_method_38_code 50 = .ok (.iconst 2, 1) := by decide +kernel
theorem d_R_control_51 : decode prog_10_method_38_code 51 = .ok (.if_icmp .eq 24, 3) := by decide +kernel
theorem d_R_control_54 : decode prog_10_method_38_code 54 = .ok (.iload_n 3, 1) := by decide +kernel
theorem d_R_control_55 : decode prog_10_method_38_code 55 = .ok (.iconst 4, 1) := by decide +kernel
theorem d_R_control_56 : decode prog_10_method_38_code 56 = .ok (.if_icmp .eq 19, 3) := by decide +kernel
theorem d_R_control_59 : decode prog_10_method_38_code 59 = .ok (.iload_n 3, 1) := by decide +kernel
theorem d_R_control_60 : decode prog_10_method_38_code 60 = .ok (.bipush 8, 2) := by decide +kernel
theorem d_R_control_62 : decode prog_10_method_38_code 62 = .ok (.if_icmp .eq 13, 3) := by decide +kernel
theorem d_R_control_65 : decode prog_10_method_38_code 65 = .ok (.aload_n 0, 1) := by decide +kernel
theorem d_R_control_66 : decode prog_10_method_38_code 66 = .ok (.iload_n 1, 1) := by decide +kernel
theorem d_R_control_67 : decode prog_10_method_38_code 67 = .ok (.bipush 18, 2) := by decide +kernel
theorem d_R_control_69 : decode prog_10_method_38_code 69 = .ok (.invokevirtual 222, 3) := by decide +kernel
theorem d_R_control_72 : decode prog_10_method_38_code 72 = .ok (.goto 98, 3) := by decide +kernel
theorem d_R_control_75 : decode prog_10_method_38_code 75 = .ok (.iload_n 3, 1) := by decide +kernel
theorem d_R_control_76 : decode prog_10_method_38_code 76 = .ok (.aload_n 0, 1) := by decide +kernel
theorem d_R_control_77 : decode prog_10_method_38_code 77 = .ok (.getfield 32, 3) := by decide +kernel
theorem d_R_control_80 : decode prog_10_method_38_code 80 = .ok (.iload_n 1, 1) := by decide +kernel
theorem d_R_control_81 : decode prog_10_method_38_code 81 = .ok (.iaload, 1) := by decide +kernel
theorem d_R_control_82 : decode prog_10_method_38_code 82 = .ok (.if_icmp .gt 13, 3) := by decide +kernel
theorem d_R_control_85 : decode prog_10_method_38_code 85 = .ok (.aload_n 0, 1) := by decide +kernel
theorem d_R_control_86 : decode prog_10_method_38_code 86 = .ok (.getfield 32, 3) := by decide +kernel
theorem d_R_control_89 : decode prog_10_method_38_code 89 = .ok (.iload_n 1, 1) := by decide +kernel
theorem d_R_control_90 : decode prog_10_method_38_code 90 = .ok (.iload_n 3, 1) := by decide +kernel
theorem d_R_control_91 : decode prog_10_method_38_code 91 = .ok (.iastore, 1) := by decide +kernel
theorem d_R_control_92 : decode prog_10_method_38_code 92 = .ok (.goto 78, 3) := by decide +kernel
theorem d_R_control_95 : decode prog_10_method_38_code 95 = .ok (.iload_n 3, 1) := by decide +kernel
theorem d_R_control_96 : decode prog_10_method_38_code 96 = .ok (.iconst 2, 1) := by decide +kernel
theorem d_R_control_97 : decode prog_10_method_38_code 97 = .ok (.aload_n 0, 1) := by decide +kernel
theorem d_R_control_98 : decode prog_10_method_38_code 98 = .ok (.getfield 32, 3) := by decide +kernel
theorem d_R_control_101 : decode prog_10_method_38_code 101 = .ok (.iload_n 1, 1) := by decide +kernel
theorem d_R_control_102 : decode prog_10_method_38_code 102 = .ok (.iaload, 1) := by decide +kernel
theorem d_R_control_103 : decode prog_10_method_38_code 103 = .ok (.imul, 1) := by decide +kernel
theorem d_R_control_104 : decode prog_10_method_38_code 104 = .ok (.if_icmp .le 13, 3) := by decide +kernel
theorem d_R_control_107 : decode prog_10_method_38_code 107 = .ok (.aload_n 0, 1) := by decide +kernel
theorem d_R_control_108 : decode prog_10_method_38_code 108 = .ok (.iload_n 1, 1) := by decide +kernel
theorem d_R_control_109 : decode prog_10_method_38_code 109 = .ok (.bipush 17, 2) := by decide +kernel
theorem d_R_control_111 : decode prog_10_method_38_code 111 = .ok (.invokevirtual 222, 3) := by decide +kernel
theorem d_R_control_114 : decode prog_10_method_38_code 114 = .ok (.goto 56, 3) := by decide +kernel
theorem d_R_control_117 : decode prog_10_method_38_code 117 = .ok (.aload_n 0, 1) := by decide +kernel
theorem d_R_control_118 : decode prog_10_method_38_code 118 = .ok (.iload_n 1, 1) := by decide +kernel
theorem d_R_control_119 : decode prog_10_method_38_code 119 = .ok (.iload_n 3, 1) := by decide +kernel
theorem d_R_control_120 : decode prog_10_method_38_code 120 = .ok (.invokevirtual 225, 3) := by decide +kernel
theorem d_R_control_123 : decode prog_10_method_38_code 123 = .ok (.istore 4, 2) := by decide +kernel
theorem d_R_control_125 : decode prog_10_method_38_code 125 = .ok (.iload 4, 2) := by decide +kernel
theorem d_R_control_127 : decode prog_10_method_38_code 127 = .ok (.ifCond .eq 11, 3) := by decide +kernel
theorem d_R_control_130 : decode prog_10_method_38_code 130 = .ok (.aload_n 0, 1) := by decide +kernel
theorem d_R_control_131 : decode prog_10_method_38_code 131 = .ok (.iload_n 1, 1) := by decide +kernel
theorem d_R_control_132 : decode prog_10_method_38_code 132 = .ok (.iload 4, 2) := by decide +kernel
theorem d_R_control_134 : decode prog_10_method_38_code 134 = .ok (.invokevirtual 222, 3) := by decide +kernel
theorem d_R_control_137 : decode prog_10_method_38_code 137 = .ok (.return_, 1) := by decide +kernel
theorem d_R_control_138 : decode prog_10_method_38_code 138 = .ok (.aload_n 0, 1) := by decide +kernel
theorem d_R_control_139 : decode prog_10_method_38_code 139 = .ok (.getfield 32, 3) := by decide +kernel
theorem d_R_control_142 : decode prog_10_method_38_code 142 = .ok (.iload_n 1, 1) := by decide +kernel
theorem d_R_control_143 : decode prog_10_method_38_code 143 = .ok (.iload_n 3, 1) := by decide +kernel
theorem d_R_control_144 : decode prog_10_method_38_code 144 = .ok (.iastore, 1) := by decide +kernel
theorem d_R_control_145 : decode prog_10_method_38_code 145 = .ok (.iload_n 3, 1) := by decide +kernel
theorem d_R_control_146 : decode prog_10_method_38_code 146 = .ok (.iconst 4, 1) := by decide +kernel
theorem d_R_control_147 : decode prog_10_method_38_code 147 = .ok (.if_icmp .ne 10, 3) := by decide +kernel
theorem d_R_control_150 : decode prog_10_method_38_code 150 = .ok (.aload_n 0, 1) := by decide +kernel
theorem d_R_control_151 : decode prog_10_method_38_code 151 = .ok (.getfield 44, 3) := by decide +kernel
theorem d_R_control_154 : decode prog_10_method_38_code 154 = .ok (.iload_n 1, 1) := by decide +kernel
theorem d_R_control_155 : decode prog_10_method_38_code 155 = .ok (.iconst 0, 1) := by decide +kernel
theorem d_R_control_156 : decode prog_10_method_38_code 156 = .ok (.bastore, 1) := by decide +kernel
theorem d_R_control_157 : decode prog_10_method_38_code 157 = .ok (.iload_n 3, 1) := by decide +kernel
theorem d_R_control_158 : decode prog_10_method_38_code 158 = .ok (.bipush 8, 2) := by decide +kernel
theorem d_R_control_160 : decode prog_10_method_38_code 160 = .ok (.if_icmp .ne 10, 3) := by decide +kernel
theorem d_R_control_163 : decode prog_10_method_38_code 163 = .ok (.aload_n 0, 1) := by decide +kernel
theorem d_R_control_164 : decode prog_10_method_38_code 164 = .ok (.getfield 47, 3) := by decide +kernel
theorem d_R_control_167 : decode prog_10_method_38_code 167 = .ok (.iload_n 1, 1) := by decide +kernel
theorem d_R_control_168 : decode prog_10_method_38_code 168 = .ok (.iconst 0, 1) := by decide +kernel
theorem d_R_control_169 : decode prog_10_method_38_code 169 = .ok (.iastore, 1) := by decide +kernel
theorem d_R_control_170 : decode prog_10_method_38_code 170 = .ok (.return_, 1) := by decide +kernel
theorem d_R_message_0 : decode prog_10_method_39_code 0 = .ok (.bipush 32, 2) := by decide +kernel
theorem d_R_message_2 : decode prog_10_method_39_code 2 = .ok (.iload_n 1, 1) := by decide +kernel
theorem d_R_message_3 : decode prog_10_method_39_code 3 = .ok (.imul, 1) := by decide +kernel
theorem d_R_message_4 : decode prog_10_method_39_code 4 = .ok (.istore_n 2, 1) := by decide +kernel
theorem d_R_message_5 : decode prog_10_method_39_code 5 = .ok (.iload_n 2, 1) := by decide +kernel
theorem d_R_message_6 : decode prog_10_method_39_code 6 = .ok (.bipush 8, 2) := by decide +kernel
theorem d_R_message_8 : decode prog_10_method_39_code 8 = .ok (.iadd, 1) := by decide +kernel
theorem d_R_message_9 : decode prog_10_method_39_code 9 = .ok (.istore_n 3, 1) := by decide +kernel
theorem d_R_message_10 : decode prog_10_method_39_code 10 = .ok (.aload_n 0, 1) := by decide +kernel
theorem d_R_message_11 : decode prog_10_method_39_code 11 = .ok (.getfield 26, 3) := by decide +kernel
theorem d_R_message_14 : decode prog_10_method_39_code 14 = .ok (.iload_n 2, 1) := by decide +kernel
theorem d_R_message_15 : decode prog_10_method_39_code 15 = .ok (.iaload, 1) := by decide +kernel
theorem d_R_message_16 : decode prog_10_method_39_code 16 = .ok (.istore 4, 2) := by decide +kernel
theorem d_R_message_18 : decode prog_10_method_39_code 18 = .ok (.aload_n 0, 1) := by decide +kernel
theorem d_R_message_19 : decode prog_10_method_39_code 19 = .ok (.getfield 26, 3) := by decide +kernel
theorem d_R_message_22 : decode prog_10_method_39_code 22 = .ok (.iload_n 2, 1) := by decide +kernel
theorem d_R_message_23 : decode prog_10_method_39_code 23 = .ok (.iconst 1, 1) := by decide +kernel
theorem d_R_message_24 : decode prog_10_method_39_code 24 = .ok (.iadd, 1) := by decide +kernel
theorem d_R_message_25 : decode prog_10_method_39_code 25 = .ok (.iaload, 1) := by decide +kernel
theorem d_R_message_26 : decode prog_10_method_39_code 26 = .ok (.istore 5, 2) := by decide +kernel
theorem d_R_message_28 : decode prog_10_method_39_code 28 = .ok (.aload_n 0, 1) := by decide +kernel
theorem d_R_message_29 : decode prog_10_method_39_code 29 = .ok (.getfield 26, 3) := by decide +kernel
theorem d_R_message_32 : decode prog_10_method_39_code 32 = .ok (.iload_n 2, 1) := by decide +kernel
theorem d_R_message_33 : decode prog_10_method_39_code 33 = .ok (.iconst 2, 1) := by decide +kernel
theorem d_R_message_34 : decode prog_10_method_39_code 34 = .ok (.iadd, 1) := by decide +kernel
theorem d_R_message_35 : decode prog_10_method_39_code 35 = .ok (.iaload, 1) := by decide +kernel
theorem d_R_message_36 : decode prog_10_method_39_code 36 = .ok (.aload_n 0, 1) := by decide +kernel
theorem d_R_message_37 : decode prog_10_method_39_code 37 = .ok (.getfield 26, 3) := by decide +kernel
theorem d_R_message_40 : decode prog_10_method_39_code 40 = .ok (.iload_n 2, 1) := by decide +kernel
theorem d_R_message_41 : decode prog_10_method_39_code 41 = .ok (.iconst 3, 1) := by decide +kernel
theorem d_R_message_42 : decode prog_10_method_39_code 42 = .ok (.iadd, 1) := by decide +kernel
theorem d_R_message_43 : decode prog_10_method_39_code 43 = .ok (.iaload, 1) := by decide +kernel
theorem d_R_message_44 : decode prog_10_method_39_code 44 = .ok (.bipush 8, 2) := by decide +kernel
theorem d_R_message_46 : decode prog_10_method_39_code 46 = .ok (.ishl, 1) := by decide +kernel
theorem d_R_message_47 : decode prog_10_method_39_code 47 = .ok (.ior, 1) := by decide +kernel
theorem d_R_message_48 : decode prog_10_method_39_code 48 = .ok (.aload_n 0, 1) := by decide +kernel
theorem d_R_message_49 : decode prog_10_method_39_code 49 = .ok (.getfield 26, 3) := by decide +kernel
theorem d_R_message_52 : decode prog_10_method_39_code 52 = .ok (.iload_n 2, 1) := by decide +kernel
theorem d_R_message_53 : decode prog_10_method_39_code 53 = .ok (.iconst 4, 1) := by decide +kernel
theorem d_R_message_54 : decode prog_10_method_39_code 54 = .ok (.iadd, 1) := by decide +kernel
theorem d_R_message_55 : decode prog_10_method_39_code 55 = .ok (.iaload, 1) := by decide +kernel
theorem d_R_message_56 : decode prog_10_method_39_code 56 = .ok (.bipush 16, 2) := by decide +kernel
theorem d_R_message_58 : decode prog_10_method_39_code 58 = .ok (.ishl, 1) := by decide +kernel
theorem d_R_message_59 : decode prog_10_method_39_code 59 = .ok (.ior, 1) := by decide +kernel
theorem d_R_message_60 : decode prog_10_method_39_code 60 = .ok (.aload_n 0, 1) := by decide +kernel
theorem d_R_message_61 : decode prog_10_method_39_code 61 = .ok (.getfield 26, 3) := by decide +kernel
theorem d_R_message_64 : decode prog_10_method_39_code 64 = .ok (.iload_n 2, 1) := by decide +kernel
theorem d_R_message_65 : decode prog_10_method_39_code 65 = .ok (.iconst 5, 1) := by decide +kernel
theorem d_R_message_66 : decode prog_10_method_39_code 66 = .ok (.iadd, 1) := by decide +kernel
theorem d_R_message_67 : decode prog_10_method_39_code 67 = .ok (.iaload, 1) := by decide +kernel
theorem d_R_message_68 : decode prog_10_method_39_code 68 = .ok (.bipush 24, 2) := by decide +kernel
theorem d_R_message_70 : decode prog_10_method_39_code 70 = .ok (.ishl, 1) := by decide +kernel
theorem d_R_message_71 : decode prog_10_method_39_code 71 = .ok (.ior, 1) := by decide +kernel
theorem d_R_message_72 : decode prog_10_method_39_code 72 = .ok (.istore 6, 2) := by decide +kernel
theorem d_R_message_74 : decode prog_10_method_39_code 74 = .ok (.iconst 3, 1) := by decide +kernel
theorem d_R_message_75 : decode prog_10_method_39_code 75 = .ok (.istore 7, 2) := by decide +kernel
theorem d_R_message_77 : decode prog_10_method_39_code 77 = .ok (.iload 4, 2) := by decide +kernel
theorem d_R_message_79 : decode prog_10_method_39_code 79 = .ok (.iconst 1, 1) := by decide +kernel
theorem d_R_message_80 : decode prog_10_method_39_code 80 = .ok (.if_icmp .eq 13, 3) := by decide +kernel
theorem d_R_message_83 : decode prog_10_method_39_code 83 = .ok (.iload 4, 2) := by decide +kernel
theorem d_R_message_85 : decode prog_10_method_39_code 85 = .ok (.iconst 2, 1) := by decide +kernel
theorem d_R_message_86 : decode prog_10_method_39_code 86 = .ok (.if_icmp .eq 7, 3) := by decide +kernel
theorem d_R_message_89 : decode prog_10_method_39_code 89 = .ok (.iconst 1, 1) := by decide +kernel
theorem d_R_message_90 : decode prog_10_method_39_code 90 = .ok (.goto 14, 3) := by decide +kernel
theorem d_R_message_93 : decode prog_10_method_39_code 93 = .ok (.iload 5, 2) := by decide +kernel
theorem d_R_message_95 : decode prog_10_method_39_code 95 = .ok (.iconst 3, 1) := by decide +kernel
theorem d_R_message_96 : decode prog_10_method_39_code 96 = .ok (.if_icmp .le 7, 3) := by decide +kernel
theorem d_R_message_99 : decode prog_10_method_39_code 99 = .ok (.iconst 2, 1) := by decide +kernel
theorem d_R_message_100 : decode prog_10_method_39_code 100 = .ok (.goto 4, 3) := by decide +kernel
theorem d_R_message_103 : decode prog_10_method_39_code 103 = .ok (.iconst 3, 1) := by decide +kernel
theorem d_R_message_104 : decode prog_10_method_39_code 104 = .ok (.istore 8, 2) := by decide +kernel
theorem d_R_message_106 : decode prog_10_method_39_code 106 = .ok (.iload 4, 2) := by decide +kernel
theorem d_R_message_108 : decode prog_10_method_39_code 108 = .ok (.iconst 1, 1) := by decide +kernel
theorem d_R_message_109 : decode prog_10_method_39_code 109 = .ok (.if_icmp .ne 39, 3) := by decide +kernel
theorem d_R_message_112 : decode prog_10_method_39_code 112 = .ok (.iload 5, 2) := by decide +kernel
theorem d_R_message_114 : decode prog_10_method_39_code 114 = .ok (.iconst 1, 1) := by decide +kernel
theorem d_R_message_115 : decode prog_10_method_39_code 115 = .ok (.if_icmp .eq 9, 3) := by decide +kernel
theorem d_R_message_118 : decode prog_10_method_39_code 118 = .ok (.iload 5, 2) := by decide +kernel
theorem d_R_message_120 : decode prog_10_method_39_code 120 = .ok (.iconst 2, 1) := by decide +kernel
theorem d_R_message_121 : decode prog_10_method_39_code 121 = .ok (.if_icmp .ne 27, 3) := by decide +kernel
theorem d_R_message_124 : decode prog_10_method_39_code 124 = .ok (.aload_n 0, 1) := by decide +kernel
theorem d_R_message_125 : decode prog_10_method_39_code 125 = .ok (.getfield 53, 3) := by decide +kernel
theorem d_R_message_128 : decode prog_10_method_39_code 128 = .ok (.iconst 2, 1) := by decide +kernel
theorem d_R_message_129 : decode prog_10_method_39_code 129 = .ok (.iload_n 1, 1) := by decide +kernel
theorem d_R_message_130 : decode prog_10_method_39_code 130 = .ok (.imul, 1) := by decide +kernel
theorem d_R_message_131 : decode prog_10_method_39_code 131 = .ok (.iload 5, 2) := by decide +kernel
theorem d_R_message_133 : decode prog_10_method_39_code 133 = .ok (.iadd, 1) := by decide +kernel
theorem d_R_message_134 : decode prog_10_method_39_code 134 = .ok (.iconst 1, 1) := by decide +kernel
theorem d_R_message_135 : decode prog_10_method_39_code 135 = .ok (.isub, 1) := by decide +kernel
theorem d_R_message_136 : decode prog_10_method_39_code 136 = .ok (.iload 6, 2) := by decide +kernel
theorem d_R_message_138 : decode prog_10_method_39_code 138 = .ok (.iastore, 1) := by decide +kernel
theorem d_R_message_139 : decode prog_10_method_39_code 139 = .ok (.iconst 1, 1) := by decide +kernel
theorem d_R_message_140 : decode prog_10_method_39_code 140 = .ok (.istore 7, 2) := by decide +kernel
theorem d_R_message_142 : decode prog_10_method_39_code 142 = .ok (.iconst 0, 1) := by decide +kernel
theorem d_R_message_143 : decode prog_10_method_39_code 143 = .ok (.istore 8, 2) := by decide +kernel
theorem d_R_message_145 : decode prog_10_method_39_code 145 = .ok (.goto 76, 3) := by decide +kernel
theorem d_R_message_148 : decode prog_10_method_39_code 148 = .ok (.iload 4, 2) := by decide +kernel
theorem d_R_message_150 : decode prog_10_method_39_code 150 = .ok (.iconst 2, 1) := by decide +kernel
theorem d_R_message_151 : decode prog_10_method_39_code 151 = .ok (.if_icmp .ne 70, 3) := by decide +kernel
theorem d_R_message_154 : decode prog_10_method_39_code 154 = .ok (.iload 5, 2) := by decide +kernel
theorem d_R_message_156 : decode prog_10_method_39_code 156 = .ok (.iconst 3, 1) := by decide +kernel
theorem d_R_message_157 : decode prog_10_method_39_code 157 = .ok (.if_icmp .gt 64, 3) := by decide +kernel
theorem d_R_message_160 : decode prog_10_method_39_code 160 = .ok (.iconst 2, 1) := by decide +kernel
theorem d_R_message_161 : decode prog_10_method_39_code 161 = .ok (.istore 7, 2) := by decide +kernel
theorem d_R_message_163 : decode prog_10_method_39_code 163 = .ok (.iload 5, 2) := by decide +kernel
theorem d_R_message_165 : decode prog_10_method_39_code 165 = .ok (.ifCond .ne 26, 3) := by decide +kernel
theorem d_R_message_168 : decode prog_10_method_39_code 168 = .ok (.sipush 1000, 3) := by decide +kernel
theorem d_R_message_171 : decode prog_10_method_39_code 171 = .ok (.bipush 16, 2) := by decide +kernel
theorem d_R_message_173 : decode prog_10_method_39_code 173 = .ok (.aload_n 0, 1) := by decide +kernel
theorem d_R_message_174 : decode prog_10_method_39_code 174 = .ok (.getfield 7, 3) := by decide +kernel
theorem d_R_message_177 : decode prog_10_method_39_code 177 = .ok (.iload_n 1, 1) := by decide +kernel
theorem d_R_message_178 : decode prog_10_method_39_code 178 = .ok (.iaload, 1) := by decide +kernel
theorem d_R_message_179 : decode prog_10_method_39_code 179 = .ok (.imul, 1) := by decide +kernel
theorem d_R_message_180 : decode prog_10_method_39_code 180 = .ok (.iadd, 1) := by decide +kernel
theorem d_R_message_181 : decode prog_10_method_39_code 181 = .ok (.aload_n 0, 1) := by decide +kernel
theorem d_R_message_182 : decode prog_10_method_39_code 182 = .ok (.getfield 13, 3) := by decide +kernel
theorem d_R_message_185 : decode prog_10_method_39_code 185 = .ok (.iload_n 1, 1) := by decide +kernel
theorem d_R_message_186 : decode prog_10_method_39_code 186 = .ok (.iaload, 1) := by decide +kernel
theorem d_R_message_187 : decode prog_10_method_39_code 187 = .ok (.iadd, 1) := by decide +kernel
theorem d_R_message_188 : decode prog_10_method_39_code 188 = .ok (.goto 31, 3) := by decide +kernel
theorem d_R_message_191 : decode prog_10_method_39_code 191 = .ok (.iload 5, 2) := by decide +kernel
theorem d_R_message_193 : decode prog_10_method_39_code 193 = .ok (.iconst 3, 1) := by decide +kernel
theorem d_R_message_194 : decode prog_10_method_39_code 194 = .ok (.if_icmp .ne 12, 3) := by decide +kernel
theorem d_R_message_197 : decode prog_10_method_39_code 197 = .ok (.aload_n 0, 1) := by decide +kernel
theorem d_R_message_198 : decode prog_10_method_39_code 198 = .ok (.getfield 50, 3) := by decide +kernel
theorem d_R_message_201 : decode prog_10_method_39_code 201 = .ok (.iload_n 1, 1) := by decide +kernel
theorem d_R_message_202 : decode prog_10_method_39_code 202 = .ok (.iaload, 1) := by decide +kernel
theorem d_R_message_203 : decode prog_10_method_39_code 203 = .ok (.goto 16, 3) := by decide +kernel
theorem d_R_message_206 : decode prog_10_method_39_code 206 = .ok (.aload_n 0, 1) := by decide +kernel
theorem d_R_message_207 : decode prog_10_method_39_code 207 = .ok (.getfield 53, 3) := by decide +kernel
theorem d_R_message_210 : decode prog_10_method_39_code 210 = .ok (.iconst 2, 1) := by decide +kernel
theorem d_R_message_211 : decode prog_10_method_39_code 211 = .ok (.iload_n 1, 1) := by decide +kernel
theorem d_R_message_212 : decode prog_10_method_39_code 212 = .ok (.imul, 1) := by decide +kernel
theorem d_R_message_213 : decode prog_10_method_39_code 213 = .ok (.iload 5, 2) := by decide +kernel
theorem d_R_message_215 : decode prog_10_method_39_code 215 = .ok (.iadd, 1) := by decide +kernel
theorem d_R_message_216 : decode prog_10_method_39_code 216 = .ok (.iconst 1, 1) := by decide +kernel
theorem d_R_message_217 : decode prog_10_method_39_code 217 = .ok (.isub, 1) := by decide +kernel
theorem d_R_message_218 : decode prog_10_method_39_code 218 = .ok (.iaload, 1) := by decide +kernel
theorem d_R_message_219 : decode prog_10_method_39_code 219 = .ok (.istore 8, 2) := by decide +kernel
theorem d_R_message_221 : decode prog_10_method_39_code 221 = .ok (.aload_n 0, 1) := by decide +kernel
theorem d_R_message_222 : decode prog_10_method_39_code 222 = .ok (.getfield 26, 3) := by decide +kernel
theorem d_R_message_225 : decode prog_10_method_39_code 225 = .ok (.iload_n 3, 1) := by decide +kernel
theorem d_R_message_226 : decode prog_10_method_39_code 226 = .ok (.iload 7, 2) := by decide +kernel
theorem d_R_message_228 : decode prog_10_method_39_code 228 = .ok (.iastore, 1) := by decide +kernel
theorem d_R_message_229 : decode prog_10_method_39_code 229 = .ok (.aload_n 0, 1) := by decide +kernel
theorem d_R_message_230 : decode prog_10_method_39_code 230 = .ok (.getfield 26, 3) := by decide +kernel
theorem d_R_message_233 : decode prog_10_method_39_code 233 = .ok (.iload_n 3, 1) := by decide +kernel
theorem d_R_message_234 : decode prog_10_method_39_code 234 = .ok (.iconst 1, 1) := by decide +kernel
theorem d_R_message_235 : decode prog_10_method_39_code 235 = .ok (.iadd, 1) := by decide +kernel
theorem d_R_message_236 : decode prog_10_method_39_code 236 = .ok (.iload 5, 2) := by decide +kernel
theorem d_R_message_238 : decode prog_10_method_39_code 238 = .ok (.iastore, 1) := by decide +kernel
theorem d_R_message_239 : decode prog_10_method_39_code 239 = .ok (.iconst 0, 1) := by decide +kernel
theorem d_R_message_240 : decode prog_10_method_39_code 240 = .ok (.istore 9, 2) := by decide +kernel
theorem d_R_message_242 : decode prog_10_method_39_code 242 = .ok (.iload 9, 2) := by decide +kernel
theorem d_R_message_244 : decode prog_10_method_39_code 244 = .ok (.iconst 4, 1) := by decide +kernel
theorem d_R_message_245 : decode prog_10_method_39_code 245 = .ok (.if_icmp .ge 32, 3) := by decide +kernel
theorem d_R_message_248 : decode prog_10_method_39_code 248 = .ok (.aload_n 0, 1) := by decide +kernel
theorem d_R_message_249 : decode prog_10_method_39_code 249 = .ok (.getfield 26, 3) := by decide +kernel
theorem d_R_message_252 : decode prog_10_method_39_code 252 = .ok (.iload_n 3, 1) := by decide +kernel
theorem d_R_message_253 : decode prog_10_method_39_code 253 = .ok (.iconst 2, 1) := by decide +kernel
theorem d_R_message_254 : decode prog_10_method_39_code 254 = .ok (.iadd, 1) := by decide +kernel
theorem d_R_message_255 : decode prog_10_method_39_code 255 = .ok (.iload 9, 2) := by decide +kernel
theorem d_R_message_257 : decode prog_10_method_39_code 257 = .ok (.iadd, 1) := by decide +kernel
theorem d_R_message_258 : decode prog_10_method_39_code 258 = .ok (.iload 8, 2) := by decide +kernel
theorem d_R_message_260 : decode prog_10_method_39_code 260 = .ok (.bipush 8, 2) := by decide +kernel
theorem d_R_message_262 : decode prog_10_method_39_code 262 = .ok (.iload 9, 2) := by decide +kernel
theorem d_R_message_264 : decode prog_10_method_39_code 264 = .ok (.imul, 1) := by decide +kernel
theorem d_R_message_265 : decode prog_10_method_39_code 265 = .ok (.ishr, 1) := by decide +kernel
theorem d_R_message_266 : decode prog_10_method_39_code 266 = .ok (.sipush 255, 3) := by decide +kernel
theorem d_R_message_269 : decode prog_10_method_39_code 269 = .ok (.iand, 1) := by decide +kernel
theorem d_R_message_270 : decode prog_10_method_39_code 270 = .ok (.iastore, 1) := by decide +kernel
theorem d_R_message_271 : decode prog_10_method_39_code 271 = .ok (.iinc 9 1, 3) := by decide +kernel
theorem d_R_message_274 : decode prog_10_method_39_code 274 = .ok (.goto (-32), 3) := by decide +kernel
theorem d_R_message_277 : decode prog_10_method_39_code 277 = .ok (.aload_n 0, 1) := by decide +kernel
theorem d_R_message_278 : decode prog_10_method_39_code 278 = .ok (.getfield 50, 3) := by decide +kernel
theorem d_R_message_281 : decode prog_10_method_39_code 281 = .ok (.iload_n 1, 1) := by decide +kernel
theorem d_R_message_282 : decode prog_10_method_39_code 282 = .ok (.dup2, 1) := by decide +kernel
theorem d_R_message_283 : decode prog_10_method_39_code 283 = .ok (.iaload, 1) := by decide +kernel
theorem d_R_message_284 : decode prog_10_method_39_code 284 = .ok (.iconst 1, 1) := by decide +kernel
theorem d_R_message_285 : decode prog_10_method_39_code 285 = .ok (.iadd, 1) := by decide +kernel
theorem d_R_message_286 : decode prog_10_method_39_code 286 = .ok (.iastore, 1) := by decide +kernel
theorem d_R_message_287 : decode prog_10_method_39_code 287 = .ok (.aload_n 0, 1) := by decide +kernel
theorem d_R_message_288 : decode prog_10_method_39_code 288 = .ok (.iload_n 1, 1) := by decide +kernel
theorem d_R_message_289 : decode prog_10_method_39_code 289 = .ok (.iconst 0, 1) := by decide +kernel
theorem d_R_message_290 : decode prog_10_method_39_code 290 = .ok (.iconst 0, 1) := by decide +kernel
theorem d_R_message_291 : decode prog_10_method_39_code 291 = .ok (.invokevirtual 150, 3) := by decide +kernel
theorem d_R_message_294 : decode prog_10_method_39_code 294 = .ok (.aload_n 0, 1) := by decide +kernel
theorem d_R_message_295 : decode prog_10_method_39_code 295 = .ok (.iload_n 1, 1) := by decide +kernel
theorem d_R_message_296 : decode prog_10_method_39_code 296 = .ok (.iconst 1, 1) := by decide +kernel
theorem d_R_message_297 : decode prog_10_method_39_code 297 = .ok (.iconst 1, 1) := by decide +kernel
theorem d_R_message_298 : decode prog_10_method_39_code 298 = .ok (.invokevirtual 150, 3) := by decide +kernel
theorem d_R_message_301 : decode prog_10_method_39_code 301 = .ok (.return_, 1) := by decide +kernel
theorem d_R_rest_0 : decode prog_10_method_40_code 0 = .ok (.iconst 0, 1) := by decide +kernel
theorem d_R_rest_1 : decode prog_10_method_40_code 1 = .ok (.istore_n 2, 1) := by decide +kernel
theorem d_R_rest_2 : decode prog_10_method_40_code 2 = .ok (.iload_n 2, 1) := by decide +kernel
theorem d_R_rest_3 : decode prog_10_method_40_code 3 = .ok (.iconst 2, 1) := by decide +kernel
theorem d_R_rest_4 : decode prog_10_method_40_code 4 = .ok (.if_icmp .ge 20, 3) := by decide +kernel
theorem d_R_rest_7 : decode prog_10_method_40_code 7 = .ok (.aload_n 0, 1) := by decide +kernel
theorem d_R_rest_8 : decode prog_10_method_40_code 8 = .ok (.getfield 59, 3) := by decide +kernel
theorem d_R_rest_11 : decode prog_10_method_40_code 11 = .ok (.iconst 2, 1) := by decide +kernel
theorem d_R_rest_12 : decode prog_10_method_40_code 12 = .ok (.iload_n 1, 1) := by decide +kernel
theorem d_R_rest_13 : decode prog_10_method_40_code 13 = .ok (.imul, 1) := by decide +kernel
theorem d_R_rest_14 : decode prog_10_method_40_code 14 = .ok (.iload_n 2, 1) := by decide +kernel
theorem d_R_rest_15 : decode prog_10_method_40_code 15 = .ok (.iadd, 1) := by decide +kernel
theorem d_R_rest_16 : decode prog_10_method_40_code 16 = .ok (.iconst 0, 1) := by decide +kernel
theorem d_R_rest_17 : decode prog_10_method_40_code 17 = .ok (.iastore, 1) := by decide +kernel
theorem d_R_rest_18 : decode prog_10_method_40_code 18 = .ok (.iinc 2 1, 3) := by decide +kernel
theorem d_R_rest_21 : decode prog_10_method_40_code 21 = .ok (.goto (-19), 3) := by decide +kernel
theorem d_R_rest_24 : decode prog_10_method_40_code 24 = .ok (.return_, 1) := by decide +kernel
theorem d_R_turn_0 : decode prog_10_method_41_code 0 = .ok (.aload_n 0, 1) := by decide +kernel
theorem d_R_turn_1 : decode prog_10_method_41_code 1 = .ok (.getfield 41, 3) := by decide +kernel
theorem d_R_turn_4 : decode prog_10_method_41_code 4 = .ok (.iload_n 1, 1) := by decide +kernel
theorem d_R_turn_5 : decode prog_10_method_41_code 5 = .ok (.baload, 1) := by decide +kernel
theorem d_R_turn_6 : decode prog_10_method_41_code 6 = .ok (.ifCond .eq 8, 3) := by decide +kernel
theorem d_R_turn_9 : decode prog_10_method_41_code 9 = .ok (.aload_n 0, 1) := by decide +kernel
theorem d_R_turn_10 : decode prog_10_method_41_code 10 = .ok (.iload_n 1, 1) := by decide +kernel
theorem d_R_turn_11 : decode prog_10_method_41_code 11 = .ok (.invokevirtual 228, 3) := by decide +kernel
theorem d_R_turn_14 : decode prog_10_method_41_code 14 = .ok (.aload_n 0, 1) := by decide +kernel
theorem d_R_turn_15 : decode prog_10_method_41_code 15 = .ok (.getfield 41, 3) := by decide +kernel
theorem d_R_turn_18 : decode prog_10_method_41_code 18 = .ok (.iload_n 1, 1) := by decide +kernel
theorem d_R_turn_19 : decode prog_10_method_41_code 19 = .ok (.iconst 0, 1) := by decide +kernel
theorem d_R_turn_20 : decode prog_10_method_41_code 20 = .ok (.bastore, 1) := by decide +kernel
theorem d_R_turn_21 : decode prog_10_method_41_code 21 = .ok (.aload_n 0, 1) := by decide +kernel
theorem d_R_turn_22 : decode prog_10_method_41_code 22 = .ok (.getfield 32, 3) := by decide +kernel
theorem d_R_turn_25 : decode prog_10_method_41_code 25 = .ok (.iload_n 1, 1) := by decide +kernel
theorem d_R_turn_26 : decode prog_10_method_41_code 26 = .ok (.iaload, 1) := by decide +kernel
theorem d_R_turn_27 : decode prog_10_method_41_code 27 = .ok (.iconst 1, 1) := by decide +kernel
theorem d_R_turn_28 : decode prog_10_method_41_code 28 = .ok (.if_icmp .le 34, 3) := by decide +kernel
theorem d_R_turn_31 : decode prog_10_method_41_code 31 = .ok (.aload_n 0, 1) := by decide +kernel
theorem d_R_turn_32 : decode prog_10_method_41_code 32 = .ok (.iload_n 1, 1) := by decide +kernel
theorem d_R_turn_33 : decode prog_10_method_41_code 33 = .ok (.invokevirtual 216, 3) := by decide +kernel
theorem d_R_turn_36 : decode prog_10_method_41_code 36 = .ok (.ifCond .eq 26, 3) := by decide +kernel
theorem d_R_turn_39 : decode prog_10_method_41_code 39 = .ok (.aload_n 0, 1) := by decide +kernel
theorem d_R_turn_40 : decode prog_10_method_41_code 40 = .ok (.iload_n 1, 1) := by decide +kernel
theorem d_R_turn_41 : decode prog_10_method_41_code 41 = .ok (.iconst 0, 1) := by decide +kernel
theorem d_R_turn_42 : decode prog_10_method_41_code 42 = .ok (.invokevirtual 128, 3) := by decide +kernel
theorem d_R_turn_45 : decode prog_10_method_41_code 45 = .ok (.ifCond .eq 17, 3) := by decide +kernel
theorem d_R_turn_48 : decode prog_10_method_41_code 48 = .ok (.aload_n 0, 1) := by decide +kernel
theorem d_R_turn_49 : decode prog_10_method_41_code 49 = .ok (.iload_n 1, 1) := by decide +kernel
theorem d_R_turn_50 : decode prog_10_method_41_code 50 = .ok (.iconst 1, 1) := by decide +kernel
theorem d_R_turn_51 : decode prog_10_method_41_code 51 = .ok (.invokevirtual 128, 3) := by decide +kernel
theorem d_R_turn_54 : decode prog_10_method_41_code 54 = .ok (.ifCond .ne 8, 3) := by decide +kernel
theorem d_R_turn_57 : decode prog_10_method_41_code 57 = .ok (.aload_n 0, 1) := by decide +kernel
theorem d_R_turn_58 : decode prog_10_method_41_code 58 = .ok (.iload_n 1, 1) := by decide +kernel
theorem d_R_turn_59 : decode prog_10_method_41_code 59 = .ok (.invokevirtual 232, 3) := by decide +kernel
theorem d_R_turn_62 : decode prog_10_method_41_code 62 = .ok (.aload_n 0, 1) := by decide +kernel
theorem d_R_turn_63 : decode prog_10_method_41_code 63 = .ok (.getfield 32, 3) := by decide +kernel
theorem d_R_turn_66 : decode prog_10_method_41_code 66 = .ok (.iload_n 1, 1) := by decide +kernel
theorem d_R_turn_67 : decode prog_10_method_41_code 67 = .ok (.iaload, 1) := by decide +kernel
theorem d_R_turn_68 : decode prog_10_method_41_code 68 = .ok (.iconst 4, 1) := by decide +kernel
theorem d_R_turn_69 : decode prog_10_method_41_code 69 = .ok (.if_icmp .lt 82, 3) := by decide +kernel
theorem d_R_turn_72 : decode prog_10_method_41_code 72 = .ok (.aload_n 0, 1) := by decide +kernel
theorem d_R_turn_73 : decode prog_10_method_41_code 73 = .ok (.getfield 13, 3) := by decide +kernel
theorem d_R_turn_76 : decode prog_10_method_41_code 76 = .ok (.iload_n 1, 1) := by decide +kernel
theorem d_R_turn_77 : decode prog_10_method_41_code 77 = .ok (.iaload, 1) := by decide +kernel
theorem d_R_turn_78 : decode prog_10_method_41_code 78 = .ok (.ifCond .le 73, 3) := by decide +kernel
theorem d_R_turn_81 : decode prog_10_method_41_code 81 = .ok (.aload_n 0, 1) := by decide +kernel
theorem d_R_turn_82 : decode prog_10_method_41_code 82 = .ok (.iload_n 1, 1) := by decide +kernel
theorem d_R_turn_83 : decode prog_10_method_41_code 83 = .ok (.iconst 3, 1) := by decide +kernel
theorem d_R_turn_84 : decode prog_10_method_41_code 84 = .ok (.iconst 0, 1) := by decide +kernel
theorem d_R_turn_85 : decode prog_10_method_41_code 85 = .ok (.aload_n 0, 1) := by decide +kernel
theorem d_R_turn_86 : decode prog_10_method_41_code 86 = .ok (.getfield 13, 3) := by decide +kernel
theorem d_R_turn_89 : decode prog_10_method_41_code 89 = .ok (.iload_n 1, 1) := by decide +kernel
theorem d_R_turn_90 : decode prog_10_method_41_code 90 = .ok (.iaload, 1) := by decide +kernel
theorem d_R_turn_91 : decode prog_10_method_41_code 91 = .ok (.invokevirtual 212, 3) := by decide +kernel
theorem d_R_turn_94 : decode prog_10_method_41_code 94 = .ok (.ifCond .eq 57, 3) := by decide +kernel
theorem d_R_turn_97 : decode prog_10_method_41_code 97 = .ok (.iconst 0, 1) := by decide +kernel
theorem d_R_turn_98 : decode prog_10_method_41_code 98 = .ok (.istore_n 2, 1) := by decide +kernel
theorem d_R_turn_99 : decode prog_10_method_41_code 99 = .ok (.iload_n 2, 1) := by decide +kernel
theorem d_R_turn_100 : decode prog_10_method_41_code 100 = .ok (.aload_n 0, 1) := by decide +kernel
theorem d_R_turn_101 : decode prog_10_method_41_code 101 = .ok (.getfield 13, 3) := by decide +kernel
theorem d_R_turn_104 : decode prog_10_method_41_code 104 = .ok (.iload_n 1, 1) := by decide +kernel
theorem d_R_turn_105 : decode prog_10_method_41_code 105 = .ok (.iaload, 1) := by decide +kernel
theorem d_R_turn_106 : decode prog_10_method_41_code 106 = .ok (.if_icmp .ge 34, 3) := by decide +kernel
theorem d_R_turn_109 : decode prog_10_method_41_code 109 = .ok (.aload_n 0, 1) := by decide +kernel
theorem d_R_turn_110 : decode prog_10_method_41_code 110 = .ok (.getfield 26, 3) := by decide +kernel
theorem d_R_turn_113 : decode prog_10_method_41_code 113 = .ok (.bipush 8, 2) := by decide +kernel
theorem d_R_turn_115 : decode prog_10_method_41_code 115 = .ok (.iconst 4, 1) := by decide +kernel
theorem d_R_turn_116 : decode prog_10_method_41_code 116 = .ok (.iload_n 1, 1) := by decide +kernel
theorem d_R_turn_117 : decode prog_10_method_41_code 117 = .ok (.imul, 1) := by decide +kernel
theorem d_R_turn_118 : decode prog_10_method_41_code 118 = .ok (.iconst 3, 1) := by decide +kernel
theorem d_R_turn_119 : decode prog_10_method_41_code 119 = .ok (.iadd, 1) := by decide +kernel
theorem d_R_turn_120 : decode prog_10_method_41_code 120 = .ok (.imul, 1) := by decide +kernel
theorem d_R_turn_121 : decode prog_10_method_41_code 121 = .ok (.iload_n 2, 1) := by decide +kernel
theorem d_R_turn_122 : decode prog_10_method_41_code 122 = .ok (.iadd, 1) := by decide +kernel
theorem d_R_turn_123 : decode prog_10_method_41_code 123 = .ok (.aload_n 0, 1) := by decide +kernel
theorem d_R_turn_124 : decode prog_10_method_41_code 124 = .ok (.getfield 56, 3) := by decide +kernel
theorem d_R_turn_127 : decode prog_10_method_41_code 127 = .ok (.iconst 2, 1) := by decide +kernel
theorem d_R_turn_128 : decode prog_10_method_41_code 128 = .ok (.iload_n 1, 1) := by decide +kernel
theorem d_R_turn_129 : decode prog_10_method_41_code 129 = .ok (.imul, 1) := by decide +kernel
theorem d_R_turn_130 : decode prog_10_method_41_code 130 = .ok (.iload_n 2, 1) := by decide +kernel
theorem d_R_turn_131 : decode prog_10_method_41_code 131 = .ok (.iadd, 1) := by decide +kernel
theorem d_R_turn_132 : decode prog_10_method_41_code 132 = .ok (.iaload, 1) := by decide +kernel
theorem d_R_turn_133 : decode prog_10_method_41_code 133 = .ok (.iastore, 1) := by decide +kernel
theorem d_R_turn_134 : decode prog_10_method_41_code 134 = .ok (.iinc 2 1, 3) := by decide +kernel
theorem d_R_turn_137 : decode prog_10_method_41_code 137 = .ok (.goto (-38), 3) := by decide +kernel
theorem d_R_turn_140 : decode prog_10_method_41_code 140 = .ok (.aload_n 0, 1) := by decide +kernel
theorem d_R_turn_141 : decode prog_10_method_41_code 141 = .ok (.getfield 29, 3) := by decide +kernel
theorem d_R_turn_144 : decode prog_10_method_41_code 144 = .ok (.iconst 4, 1) := by decide +kernel
theorem d_R_turn_145 : decode prog_10_method_41_code 145 = .ok (.iload_n 1, 1) := by decide +kernel
theorem d_R_turn_146 : decode prog_10_method_41_code 146 = .ok (.imul, 1) := by decide +kernel
theorem d_R_turn_147 : decode prog_10_method_41_code 147 = .ok (.iconst 3, 1) := by decide +kernel
theorem d_R_turn_148 : decode prog_10_method_41_code 148 = .ok (.iadd, 1) := by decide +kernel
theorem d_R_turn_149 : decode prog_10_method_41_code 149 = .ok (.iconst 1, 1) := by decide +kernel
theorem d_R_turn_150 : decode prog_10_method_41_code 150 = .ok (.bastore, 1) := by decide +kernel
theorem d_R_turn_151 : decode prog_10_method_41_code 151 = .ok (.aload_n 0, 1) := by decide +kernel
theorem d_R_turn_152 : decode prog_10_method_41_code 152 = .ok (.getfield 32, 3) := by decide +kernel
theorem d_R_turn_155 : decode prog_10_method_41_code 155 = .ok (.iload_n 1, 1) := by decide +kernel
theorem d_R_turn_156 : decode prog_10_method_41_code 156 = .ok (.iaload, 1) := by decide +kernel
theorem d_R_turn_157 : decode prog_10_method_41_code 157 = .ok (.bipush 8, 2) := by decide +kernel
theorem d_R_turn_159 : decode prog_10_method_41_code 159 = .ok (.if_icmp .ne 84, 3) := by decide +kernel
theorem d_R_turn_162 : decode prog_10_method_41_code 162 = .ok (.aload_n 0, 1) := by decide +kernel
theorem d_R_turn_163 : decode prog_10_method_41_code 163 = .ok (.getfield 7, 3) := by decide +kernel
theorem d_R_turn_166 : decode prog_10_method_41_code 166 = .ok (.iload_n 1, 1) := by decide +kernel
theorem d_R_turn_167 : decode prog_10_method_41_code 167 = .ok (.iaload, 1) := by decide +kernel
theorem d_R_turn_168 : decode prog_10_method_41_code 168 = .ok (.ifCond .le 75, 3) := by decide +kernel
theorem d_R_turn_171 : decode prog_10_method_41_code 171 = .ok (.aload_n 0, 1) := by decide +kernel
theorem d_R_turn_172 : decode prog_10_method_41_code 172 = .ok (.iload_n 1, 1) := by decide +kernel
theorem d_R_turn_173 : decode prog_10_method_41_code 173 = .ok (.iconst 2, 1) := by decide +kernel
theorem d_R_turn_174 : decode prog_10_method_41_code 174 = .ok (.iconst 2, 1) := by decide +kernel
theorem d_R_turn_175 : decode prog_10_method_41_code 175 = .ok (.aload_n 0, 1) := by decide +kernel
theorem d_R_turn_176 : decode prog_10_method_41_code 176 = .ok (.getfield 7, 3) := by decide +kernel
theorem d_R_turn_179 : decode prog_10_method_41_code 179 = .ok (.iload_n 1, 1) := by decide +kernel
theorem d_R_turn_180 : decode prog_10_method_41_code 180 = .ok (.iaload, 1) := by decide +kernel
theorem d_R_turn_181 : decode prog_10_method_41_code 181 = .ok (.invokevirtual 212, 3) := by decide +kernel
theorem d_R_turn_184 : decode prog_10_method_41_code 184 = .ok (.ifCond .eq 59, 3) := by decide +kernel
theorem d_R_turn_187 : decode prog_10_method_41_code 187 = .ok (.aload_n 0, 1) := by decide +kernel
theorem d_R_turn_188 : decode prog_10_method_41_code 188 = .ok (.getfield 29, 3) := by decide +kernel
theorem d_R_turn_191 : decode prog_10_method_41_code 191 = .ok (.iconst 4, 1) := by decide +kernel
theorem d_R_turn_192 : decode prog_10_method_41_code 192 = .ok (.iload_n 1, 1) := by decide +kernel
theorem d_R_turn_193 : decode prog_10_method_41_code 193 = .ok (.imul, 1) := by decide +kernel
theorem d_R_turn_194 : decode prog_10_method_41_code 194 = .ok (.iconst 2, 1) := by decide +kernel
theorem d_R_turn_195 : decode prog_10_method_41_code 195 = .ok (.iadd, 1) := by decide +kernel
theorem d_R_turn_196 : decode prog_10_method_41_code 196 = .ok (.baload, 1) := by decide +kernel
theorem d_R_turn_197 : decode prog_10_method_41_code 197 = .ok (.ifCond .eq 46, 3) := by decide +kernel
theorem d_R_turn_200 : decode prog_10_method_41_code 200 = .ok (.iconst 0, 1) := by decide +kernel
theorem d_R_turn_201 : decode prog_10_method_41_code 201 = .ok (.istore_n 2, 1) := by decide +kernel
theorem d_R_turn_202 : decode prog_10_method_41_code 202 = .ok (.iload_n 2, 1) := by decide +kernel
theorem d_R_turn_203 : decode prog_10_method_41_code 203 = .ok (.aload_n 0, 1) := by decide +kernel
theorem d_R_turn_204 : decode prog_10_method_41_code 204 = .ok (.getfield 7, 3) := by decide +kernel
theorem d_R_turn_207 : decode prog_10_method_41_code 207 = .ok (.iload_n 1, 1) := by decide +kernel
theorem d_R_turn_208 : decode prog_10_method_41_code 208 = .ok (.iaload, 1) := by decide +kernel
theorem d_R_turn_209 : decode prog_10_method_41_code 209 = .ok (.if_icmp .ge 34, 3) := by decide +kernel
theorem d_R_turn_212 : decode prog_10_method_41_code 212 = .ok (.aload_n 0, 1) := by decide +kernel
theorem d_R_turn_213 : decode prog_10_method_41_code 213 = .ok (.getfield 59, 3) := by decide +kernel
theorem d_R_turn_216 : decode prog_10_method_41_code 216 = .ok (.iconst 2, 1) := by decide +kernel
theorem d_R_turn_217 : decode prog_10_method_41_code 217 = .ok (.iload_n 1, 1) := by decide +kernel
theorem d_R_turn_218 : decode prog_10_method_41_code 218 = .ok (.imul, 1) := by decide +kernel
theorem d_R_turn_219 : decode prog_10_method_41_code 219 = .ok (.iload_n 2, 1) := by decide +kernel
theorem d_R_turn_220 : decode prog_10_method_41_code 220 = .ok (.iadd, 1) := by decide +kernel
theorem d_R_turn_221 : decode prog_10_method_41_code 221 = .ok (.aload_n 0, 1) := by decide +kernel
theorem d_R_turn_222 : decode prog_10_method_41_code 222 = .ok (.getfield 26, 3) := by decide +kernel
theorem d_R_turn_225 : decode prog_10_method_41_code 225 = .ok (.bipush 8, 2) := by decide +kernel
theorem d_R_turn_227 : decode prog_10_method_41_code 227 = .ok (.iconst 4, 1) := by decide +kernel
theorem d_R_turn_228 : decode prog_10_method_41_code 228 = .ok (.iload_n 1, 1) := by decide +kernel
theorem d_R_turn_229 : decode prog_10_method_41_code 229 = .ok (.imul, 1) := by decide +kernel
theorem d_R_turn_230 : decode prog_10_method_41_code 230 = .ok (.iconst 2, 1) := by decide +kernel
theorem d_R_turn_231 : decode prog_10_method_41_code 231 = .ok (.iadd, 1) := by decide +kernel
theorem d_R_turn_232 : decode prog_10_method_41_code 232 = .ok (.imul, 1) := by decide +kernel
theorem d_R_turn_233 : decode prog_10_method_41_code 233 = .ok (.iload_n 2, 1) := by decide +kernel
theorem d_R_turn_234 : decode prog_10_method_41_code 234 = .ok (.iadd, 1) := by decide +kernel
theorem d_R_turn_235 : decode prog_10_method_41_code 235 = .ok (.iaload, 1) := by decide +kernel
theorem d_R_turn_236 : decode prog_10_method_41_code 236 = .ok (.iastore, 1) := by decide +kernel
theorem d_R_turn_237 : decode prog_10_method_41_code 237 = .ok (.iinc 2 1, 3) := by decide +kernel
theorem d_R_turn_240 : decode prog_10_method_41_code 240 = .ok (.goto (-38), 3) := by decide +kernel
theorem d_R_turn_243 : decode prog_10_method_41_code 243 = .ok (.aload_n 0, 1) := by decide +kernel
theorem d_R_turn_244 : decode prog_10_method_41_code 244 = .ok (.getfield 32, 3) := by decide +kernel
theorem d_R_turn_247 : decode prog_10_method_41_code 247 = .ok (.iload_n 1, 1) := by decide +kernel
theorem d_R_turn_248 : decode prog_10_method_41_code 248 = .ok (.iaload, 1) := by decide +kernel
theorem d_R_turn_249 : decode prog_10_method_41_code 249 = .ok (.bipush 8, 2) := by decide +kernel
theorem d_R_turn_251 : decode prog_10_method_41_code 251 = .ok (.if_icmp .eq 8, 3) := by decide +kernel
theorem d_R_turn_254 : decode prog_10_method_41_code 254 = .ok (.aload_n 0, 1) := by decide +kernel
theorem d_R_turn_255 : decode prog_10_method_41_code 255 = .ok (.iload_n 1, 1) := by decide +kernel
theorem d_R_turn_256 : decode prog_10_method_41_code 256 = .ok (.invokevirtual 235, 3) := by decide +kernel
theorem d_R_turn_259 : decode prog_10_method_41_code 259 = .ok (.aload_n 0, 1) := by decide +kernel
theorem d_R_turn_260 : decode prog_10_method_41_code 260 = .ok (.getfield 47, 3) := by decide +kernel
theorem d_R_turn_263 : decode prog_10_method_41_code 263 = .ok (.iload_n 1, 1) := by decide +kernel
theorem d_R_turn_264 : decode prog_10_method_41_code 264 = .ok (.dup2, 1) := by decide +kernel
theorem d_R_turn_265 : decode prog_10_method_41_code 265 = .ok (.iaload, 1) := by decide +kernel
theorem d_R_turn_266 : decode prog_10_method_41_code 266 = .ok (.iconst 1, 1) := by decide +kernel
theorem d_R_turn_267 : decode prog_10_method_41_code 267 = .ok (.iadd, 1) := by decide +kernel
theorem d_R_turn_268 : decode prog_10_method_41_code 268 = .ok (.iastore, 1) := by decide +kernel
theorem d_R_turn_269 : decode prog_10_method_41_code 269 = .ok (.aload_n 0, 1) := by decide +kernel
theorem d_R_turn_270 : decode prog_10_method_41_code 270 = .ok (.getfield 32, 3) := by decide +kernel
theorem d_R_turn_273 : decode prog_10_method_41_code 273 = .ok (.iload_n 1, 1) := by decide +kernel
theorem d_R_turn_274 : decode prog_10_method_41_code 274 = .ok (.iaload, 1) := by decide +kernel
theorem d_R_turn_275 : decode prog_10_method_41_code 275 = .ok (.bipush 8, 2) := by decide +kernel
theorem d_R_turn_277 : decode prog_10_method_41_code 277 = .ok (.if_icmp .ne 62, 3) := by decide +kernel
theorem d_R_turn_280 : decode prog_10_method_41_code 280 = .ok (.aload_n 0, 1) := by decide +kernel
theorem d_R_turn_281 : decode prog_10_method_41_code 281 = .ok (.getfield 7, 3) := by decide +kernel
theorem d_R_turn_284 : decode prog_10_method_41_code 284 = .ok (.iload_n 1, 1) := by decide +kernel
theorem d_R_turn_285 : decode prog_10_method_41_code 285 = .ok (.iaload, 1) := by decide +kernel
theorem d_R_turn_286 : decode prog_10_method_41_code 286 = .ok (.ifCond .le 53, 3) := by decide +kernel
theorem d_R_turn_289 : decode prog_10_method_41_code 289 = .ok (.aload_n 0, 1) := by decide +kernel
theorem d_R_turn_290 : decode prog_10_method_41_code 290 = .ok (.iload_n 1, 1) := by decide +kernel
theorem d_R_turn_291 : decode prog_10_method_41_code 291 = .ok (.iconst 4, 1) := by decide +kernel
theorem d_R_turn_292 : decode prog_10_method_41_code 292 = .ok (.invokevirtual 111, 3) := by decide +kernel
theorem d_R_turn_295 : decode prog_10_method_41_code 295 = .ok (.ifCond .eq 44, 3) := by decide +kernel
theorem d_R_turn_298 : decode prog_10_method_41_code 298 = .ok (.aload_n 0, 1) := by decide +kernel
theorem d_R_turn_299 : decode prog_10_method_41_code 299 = .ok (.getfield 47, 3) := by decide +kernel
theorem d_R_turn_302 : decode prog_10_method_41_code 302 = .ok (.iload_n 1, 1) := by decide +kernel
theorem d_R_turn_303 : decode prog_10_method_41_code 303 = .ok (.iaload, 1) := by decide +kernel
theorem d_R_turn_304 : decode prog_10_method_41_code 304 = .ok (.aload_n 0, 1) := by decide +kernel
theorem d_R_turn_305 : decode prog_10_method_41_code 305 = .ok (.iload_n 1, 1) := by decide +kernel
theorem d_R_turn_306 : decode prog_10_method_41_code 306 = .ok (.iconst 4, 1) := by decide +kernel
theorem d_R_turn_307 : decode prog_10_method_41_code 307 = .ok (.invokevirtual 111, 3) := by decide +kernel
theorem d_R_turn_310 : decode prog_10_method_41_code 310 = .ok (.if_icmp .le 29, 3) := by decide +kernel
theorem d_R_turn_313 : decode prog_10_method_41_code 313 = .ok (.aload_n 0, 1) := by decide +kernel
theorem d_R_turn_314 : decode prog_10_method_41_code 314 = .ok (.getfield 32, 3) := by decide +kernel
theorem d_R_turn_317 : decode prog_10_method_41_code 317 = .ok (.iload_n 1, 1) := by decide +kernel
theorem d_R_turn_318 : decode prog_10_method_41_code 318 = .ok (.iconst 4, 1) := by decide +kernel
theorem d_R_turn_319 : decode prog_10_method_41_code 319 = .ok (.iastore, 1) := by decide +kernel
theorem d_R_turn_320 : decode prog_10_method_41_code 320 = .ok (.aload_n 0, 1) := by decide +kernel
theorem d_R_turn_321 : decode prog_10_method_41_code 321 = .ok (.iload_n 1, 1) := by decide +kernel
theorem d_R_turn_322 : decode prog_10_method_41_code 322 = .ok (.bipush 27, 2) := by decide +kernel
theorem d_R_turn_324 : decode prog_10_method_41_code 324 = .ok (.invokevirtual 222, 3) := by decide +kernel
theorem d_R_turn_327 : decode prog_10_method_41_code 327 = .ok (.aload_n 0, 1) := by decide +kernel
theorem d_R_turn_328 : decode prog_10_method_41_code 328 = .ok (.getfield 44, 3) := by decide +kernel
theorem d_R_turn_331 : decode prog_10_method_41_code 331 = .ok (.iload_n 1, 1) := by decide +kernel
theorem d_R_turn_332 : decode prog_10_method_41_code 332 = .ok (.iconst 0, 1) := by decide +kernel
theorem d_R_turn_333 : decode prog_10_method_41_code 333 = .ok (.bastore, 1) := by decide +kernel
theorem d_R_turn_334 : decode prog_10_method_41_code 334 = .ok (.aload_n 0, 1) := by decide +kernel
theorem d_R_turn_335 : decode prog_10_method_41_code 335 = .ok (.iload_n 1, 1) := by decide +kernel
theorem d_R_turn_336 : decode prog_10_method_41_code 336 = .ok (.invokevirtual 235, 3) := by decide +kernel
theorem d_R_turn_339 : decode prog_10_method_41_code 339 = .ok (.aload_n 0, 1) := by decide +kernel
theorem d_R_turn_340 : decode prog_10_method_41_code 340 = .ok (.getfield 20, 3) := by decide +kernel
theorem d_R_turn_343 : decode prog_10_method_41_code 343 = .ok (.sipush 128, 3) := by decide +kernel
theorem d_R_turn_346 : decode prog_10_method_41_code 346 = .ok (.iload_n 1, 1) := by decide +kernel
theorem d_R_turn_347 : decode prog_10_method_41_code 347 = .ok (.imul, 1) := by decide +kernel
theorem d_R_turn_348 : decode prog_10_method_41_code 348 = .ok (.iconst 2, 1) := by decide +kernel
theorem d_R_turn_349 : decode prog_10_method_41_code 349 = .ok (.iadd, 1) := by decide +kernel
theorem d_R_turn_350 : decode prog_10_method_41_code 350 = .ok (.aload_n 0, 1) := by decide +kernel
theorem d_R_turn_351 : decode prog_10_method_41_code 351 = .ok (.getfield 32, 3) := by decide +kernel
theorem d_R_turn_354 : decode prog_10_method_41_code 354 = .ok (.iload_n 1, 1) := by decide +kernel
theorem d_R_turn_355 : decode prog_10_method_41_code 355 = .ok (.iaload, 1) := by decide +kernel
theorem d_R_turn_356 : decode prog_10_method_41_code 356 = .ok (.aload_n 0, 1) := by decide +kernel
theorem d_R_turn_357 : decode prog_10_method_41_code 357 = .ok (.getfield 35, 3) := by decide +kernel
theorem d_R_turn_360 : decode prog_10_method_41_code 360 = .ok (.iload_n 1, 1) := by decide +kernel
theorem d_R_turn_361 : decode prog_10_method_41_code 361 = .ok (.baload, 1) := by decide +kernel
theorem d_R_turn_362 : decode prog_10_method_41_code 362 = .ok (.ifCond .eq 8, 3) := by decide +kernel
theorem d_R_turn_365 : decode prog_10_method_41_code 365 = .ok (.bipush 16, 2) := by decide +kernel
theorem d_R_turn_367 : decode prog_10_method_41_code 367 = .ok (.goto 4, 3) := by decide +kernel
theorem d_R_turn_370 : decode prog_10_method_41_code 370 = .ok (.iconst 0, 1) := by decide +kernel
theorem d_R_turn_371 : decode prog_10_method_41_code 371 = .ok (.iadd, 1) := by decide +kernel
theorem d_R_turn_372 : decode prog_10_method_41_code 372 = .ok (.iastore, 1) := by decide +kernel
theorem d_R_turn_373 : decode prog_10_method_41_code 373 = .ok (.aload_n 0, 1) := by decide +kernel
theorem d_R_turn_374 : decode prog_10_method_41_code 374 = .ok (.getfield 20, 3) := by decide +kernel
theorem d_R_turn_377 : decode prog_10_method_41_code 377 = .ok (.sipush 128, 3) := by decide +kernel
theorem d_R_turn_380 : decode prog_10_method_41_code 380 = .ok (.iload_n 1, 1) := by decide +kernel
theorem d_R_turn_381 : decode prog_10_method_41_code 381 = .ok (.imul, 1) := by decide +kernel
theorem d_R_turn_382 : decode prog_10_method_41_code 382 = .ok (.iconst 3, 1) := by decide +kernel
theorem d_R_turn_383 : decode prog_10_method_41_code 383 = .ok (.iadd, 1) := by decide +kernel
theorem d_R_turn_384 : decode prog_10_method_41_code 384 = .ok (.aload_n 0, 1) := by decide +kernel
theorem d_R_turn_385 : decode prog_10_method_41_code 385 = .ok (.getfield 38, 3) := by decide +kernel
theorem d_R_turn_388 : decode prog_10_method_41_code 388 = .ok (.iload_n 1, 1) := by decide +kernel
theorem d_R_turn_389 : decode prog_10_method_41_code 389 = .ok (.iaload, 1) := by decide +kernel
theorem d_R_turn_390 : decode prog_10_method_41_code 390 = .ok (.iastore, 1) := by decide +kernel
theorem d_R_turn_391 : decode prog_10_method_41_code 391 = .ok (.return_, 1) := by decide +kernel
theorem d_R_tick_0 : decode prog_10_method_42_code 0 = .ok (.iconst 0, 1) := by decide +kernel
theorem d_R_tick_1 : decode prog_10_method_42_code 1 = .ok (.istore_n 1, 1) := by decide +kernel
theorem d_R_tick_2 : decode prog_10_method_42_code 2 = .ok (.iload_n 1, 1) := by decide +kernel
theorem d_R_tick_3 : decode prog_10_method_42_code 3 = .ok (.aload_n 0, 1) := by decide +kernel
theorem d_R_tick_4 : decode prog_10_method_42_code 4 = .ok (.getfield 108, 3) := by decide +kernel
theorem d_R_tick_7 : decode prog_10_method_42_code 7 = .ok (.if_icmp .ge 14, 3) := by decide +kernel
theorem d_R_tick_10 : decode prog_10_method_42_code 10 = .ok (.aload_n 0, 1) := by decide +kernel
theorem d_R_tick_11 : decode prog_10_method_42_code 11 = .ok (.iload_n 1, 1) := by decide +kernel
theorem d_R_tick_12 : decode prog_10_method_42_code 12 = .ok (.invokevirtual 238, 3) := by decide +kernel
theorem d_R_tick_15 : decode prog_10_method_42_code 15 = .ok (.iinc 1 1, 3) := by decide +kernel
theorem d_R_tick_18 : decode prog_10_method_42_code 18 = .ok (.goto (-16), 3) := by decide +kernel
theorem d_R_tick_21 : decode prog_10_method_42_code 21 = .ok (.return_, 1) := by decide +kernel
theorem d_W_law_0 : decode code 0 = .ok (.new 7, 3) := by decide +kernel
theorem d_W_law_3 : decode code 3 = .ok (.dup, 1) := by decide +kernel
theorem d_W_law_4 : decode code 4 = .ok (.invokespecial 9, 3) := by decide +kernel
theorem d_W_law_7 : decode code 7 = .ok (.astore_n 1, 1) := by decide +kernel
theorem d_W_law_8 : decode code 8 = .ok (.new 10, 3) := by decide +kernel
theorem d_W_law_11 : decode code 11 = .ok (.dup, 1) := by decide +kernel
theorem d_W_law_12 : decode code 12 = .ok (.invokespecial 12, 3) := by decide +kernel
theorem d_W_law_15 : decode code 15 = .ok (.astore_n 2, 1) := by decide +kernel
theorem d_W_law_16 : decode code 16 = .ok (.iconst 0, 1) := by decide +kernel
theorem d_W_law_17 : decode code 17 = .ok (.istore_n 3, 1) := by decide +kernel
theorem d_W_law_18 : decode code 18 = .ok (.iload_n 3, 1) := by decide +kernel
theorem d_W_law_19 : decode code 19 = .ok (.aload_n 0, 1) := by decide +kernel
theorem d_W_law_20 : decode code 20 = .ok (.arraylength, 1) := by decide +kernel
theorem d_W_law_21 : decode code 21 = .ok (.iconst 5, 1) := by decide +kernel
theorem d_W_law_22 : decode code 22 = .ok (.isub, 1) := by decide +kernel
theorem d_W_law_23 : decode code 23 = .ok (.if_icmp .gt 658, 3) := by decide +kernel
theorem d_W_law_26 : decode code 26 = .ok (.aload_n 0, 1) := by decide +kernel
theorem d_W_law_27 : decode code 27 = .ok (.iload_n 3, 1) := by decide +kernel
theorem d_W_law_28 : decode code 28 = .ok (.iaload, 1) := by decide +kernel
theorem d_W_law_29 : decode code 29 = .ok (.bipush 31, 2) := by decide +kernel
theorem d_W_law_31 : decode code 31 = .ok (.iand, 1) := by decide +kernel
theorem d_W_law_32 : decode code 32 = .ok (.tableswitch 643 0 18 #[92, 125, 178, 221, 234, 267, 316, 339, 350, 393, 426, 449, 462, 475, 498, 531, 544, 567, 620], 92) := by decide +kernel
theorem d_W_law_124 : decode code 124 = .ok (.aload_n 1, 1) := by decide +kernel
theorem d_W_law_125 : decode code 125 = .ok (.aload_n 0, 1) := by decide +kernel
theorem d_W_law_126 : decode code 126 = .ok (.iload_n 3, 1) := by decide +kernel
theorem d_W_law_127 : decode code 127 = .ok (.iconst 1, 1) := by decide +kernel
theorem d_W_law_128 : decode code 128 = .ok (.iadd, 1) := by decide +kernel
theorem d_W_law_129 : decode code 129 = .ok (.iaload, 1) := by decide +kernel
theorem d_W_law_130 : decode code 130 = .ok (.aload_n 0, 1) := by decide +kernel
theorem d_W_law_131 : decode code 131 = .ok (.iload_n 3, 1) := by decide +kernel
theorem d_W_law_132 : decode code 132 = .ok (.iconst 2, 1) := by decide +kernel
theorem d_W_law_133 : decode code 133 = .ok (.iadd, 1) := by decide +kernel
theorem d_W_law_134 : decode code 134 = .ok (.iaload, 1) := by decide +kernel
theorem d_W_law_135 : decode code 135 = .ok (.invokevirtual 13, 3) := by decide +kernel
theorem d_W_law_138 : decode code 138 = .ok (.aload_n 2, 1) := by decide +kernel
theorem d_W_law_139 : decode code 139 = .ok (.aload_n 0, 1) := by decide +kernel
theorem d_W_law_140 : decode code 140 = .ok (.iload_n 3, 1) := by decide +kernel
theorem d_W_law_141 : decode code 141 = .ok (.iconst 1, 1) := by decide +kernel
theorem d_W_law_142 : decode code 142 = .ok (.iadd, 1) := by decide +kernel
theorem d_W_law_143 : decode code 143 = .ok (.iaload, 1) := by decide +kernel
theorem d_W_law_144 : decode code 144 = .ok (.aload_n 0, 1) := by decide +kernel
theorem d_W_law_145 : decode code 145 = .ok (.iload_n 3, 1) := by decide +kernel
theorem d_W_law_146 : decode code 146 = .ok (.iconst 2, 1) := by decide +kernel
theorem d_W_law_147 : decode code 147 = .ok (.iadd, 1) := by decide +kernel
theorem d_W_law_148 : decode code 148 = .ok (.iaload, 1) := by decide +kernel
theorem d_W_law_149 : decode code 149 = .ok (.invokevirtual 17, 3) := by decide +kernel
theorem d_W_law_152 : decode code 152 = .ok (.if_icmp .eq 523, 3) := by decide +kernel
theorem d_W_law_155 : decode code 155 = .ok (.iconst 0, 1) := by decide +kernel
theorem d_W_law_156 : decode code 156 = .ok (.ireturn, 1) := by decide +kernel
theorem d_W_law_157 : decode code 157 = .ok (.aload_n 1, 1) := by decide +kernel
theorem d_W_law_158 : decode code 158 = .ok (.aload_n 0, 1) := by decide +kernel
theorem d_W_law_159 : decode code 159 = .ok (.iload_n 3, 1) := by decide +kernel
theorem d_W_law_160 : decode code 160 = .ok (.iconst 1, 1) := by decide +kernel
theorem d_W_law_161 : decode code 161 = .ok (.iadd, 1) := by decide +kernel
theorem d_W_law_162 : decode code 162 = .ok (.iaload, 1) := by decide +kernel
theorem d_W_law_163 : decode code 163 = .ok (.aload_n 0, 1) := by decide +kernel
theorem d_W_law_164 : decode code 164 = .ok (.iload_n 3, 1) := by decide +kernel
theorem d_W_law_165 : decode code 165 = .ok (.iconst 2, 1) := by decide +kernel
theorem d_W_law_166 : decode code 166 = .ok (.iadd, 1) := by decide +kernel
theorem d_W_law_167 : decode code 167 = .ok (.iaload, 1) := by decide +kernel
theorem d_W_law_168 : decode code 168 = .ok (.aload_n 0, 1) := by decide +kernel
theorem d_W_law_169 : decode code 169 = .ok (.iload_n 3, 1) := by decide +kernel
theorem d_W_law_170 : decode code 170 = .ok (.iconst 3, 1) := by decide +kernel
theorem d_W_law_171 : decode code 171 = .ok (.iadd, 1) := by decide +kernel
theorem d_W_law_172 : decode code 172 = .ok (.iaload, 1) := by decide +kernel
theorem d_W_law_173 : decode code 173 = .ok (.aload_n 0, 1) := by decide +kernel
theorem d_W_law_174 : decode code 174 = .ok (.iload_n 3, 1) := by decide +kernel
theorem d_W_law_175 : decode code 175 = .ok (.iconst 4, 1) := by decide +kernel
theorem d_W_law_176 : decode code 176 = .ok (.iadd, 1) := by decide +kernel
theorem d_W_law_177 : decode code 177 = .ok (.iaload, 1) := by decide +kernel
theorem d_W_law_178 : decode code 178 = .ok (.invokevirtual 18, 3) := by decide +kernel
theorem d_W_law_181 : decode code 181 = .ok (.aload_n 2, 1) := by decide +kernel
theorem d_W_law_182 : decode code 182 = .ok (.aload_n 0, 1) := by decide +kernel
theorem d_W_law_183 : decode code 183 = .ok (.iload_n 3, 1) := by decide +kernel
theorem d_W_law_184 : decode code 184 = .ok (.iconst 1, 1) := by decide +kernel
theorem d_W_law_185 : decode code 185 = .ok (.iadd, 1) := by decide +kernel
theorem d_W_law_186 : decode code 186 = .ok (.iaload, 1) := by decide +kernel
theorem d_W_law_187 : decode code 187 = .ok (.aload_n 0, 1) := by decide +kernel
theorem d_W_law_188 : decode code 188 = .ok (.iload_n 3, 1) := by decide +kernel
theorem d_W_law_189 : decode code 189 = .ok (.iconst 2, 1) := by decide +kernel
theorem d_W_law_190 : decode code 190 = .ok (.iadd, 1) := by decide +kernel
theorem d_W_law_191 : decode code 191 = .ok (.iaload, 1) := by decide +kernel
theorem d_W_law_192 : decode code 192 = .ok (.aload_n 0, 1) := by decide +kernel
theorem d_W_law_193 : decode code 193 = .ok (.iload_n 3, 1) := by decide +kernel
theorem d_W_law_194 : decode code 194 = .ok (.iconst 3, 1) := by decide +kernel
theorem d_W_law_195 : decode code 195 = .ok (.iadd, 1) := by decide +kernel
theorem d_W_law_196 : decode code 196 = .ok (.iaload, 1) := by decide +kernel
theorem d_W_law_197 : decode code 197 = .ok (.aload_n 0, 1) := by decide +kernel
theorem d_W_law_198 : decode code 198 = .ok (.iload_n 3, 1) := by decide +kernel
theorem d_W_law_199 : decode code 199 = .ok (.iconst 4, 1) := by decide +kernel
theorem d_W_law_200 : decode code 200 = .ok (.iadd, 1) := by decide +kernel
theorem d_W_law_201 : decode code 201 = .ok (.iaload, 1) := by decide +kernel
theorem d_W_law_202 : decode code 202 = .ok (.invokevirtual 22, 3) := by decide +kernel
theorem d_W_law_205 : decode code 205 = .ok (.if_icmp .eq 470, 3) := by decide +kernel
theorem d_W_law_208 : decode code 208 = .ok (.iconst 0, 1) := by decide +kernel
theorem d_W_law_209 : decode code 209 = .ok (.ireturn, 1) := by decide +kernel
theorem d_W_law_210 : decode code 210 = .ok (.aload_n 1, 1) := by decide +kernel
theorem d_W_law_211 : decode code 211 = .ok (.aload_n 0, 1) := by decide +kernel
theorem d_W_law_212 : decode code 212 = .ok (.iload_n 3, 1) := by decide +kernel
theorem d_W_law_213 : decode code 213 = .ok (.iconst 1, 1) := by decide +kernel
theorem d_W_law_214 : decode code 214 = .ok (.iadd, 1) := by decide +kernel
theorem d_W_law_215 : decode code 215 = .ok (.iaload, 1) := by decide +kernel
theorem d_W_law_216 : decode code 216 = .ok (.aload_n 0, 1) := by decide +kernel
theorem d_W_law_217 : decode code 217 = .ok (.iload_n 3, 1) := by decide +kernel
theorem d_W_law_218 : decode code 218 = .ok (.iconst 2, 1) := by decide +kernel
theorem d_W_law_219 : decode code 219 = .ok (.iadd, 1) := by decide +kernel
theorem d_W_law_220 : decode code 220 = .ok (.iaload, 1) := by decide +kernel
theorem d_W_law_221 : decode code 221 = .ok (.aload_n 0, 1) := by decide +kernel
theorem d_W_law_222 : decode code 222 = .ok (.iload_n 3, 1) := by decide +kernel
theorem d_W_law_223 : decode code 223 = .ok (.iconst 3, 1) := by decide +kernel
theorem d_W_law_224 : decode code 224 = .ok (.iadd, 1) := by decide +kernel
theorem d_W_law_225 : decode code 225 = .ok (.iaload, 1) := by decide +kernel
theorem d_W_law_226 : decode code 226 = .ok (.invokevirtual 23, 3) := by decide +kernel
theorem d_W_law_229 : decode code 229 = .ok (.aload_n 2, 1) := by decide +kernel
theorem d_W_law_230 : decode code 230 = .ok (.aload_n 0, 1) := by decide +kernel
theorem d_W_law_231 : decode code 231 = .ok (.iload_n 3, 1) := by decide +kernel
theorem d_W_law_232 : decode code 232 = .ok (.iconst 1, 1) := by decide +kernel
theorem d_W_law_233 : decode code 233 = .ok (.iadd, 1) := by decide +kernel
theorem d_W_law_234 : decode code 234 = .ok (.iaload, 1) := by decide +kernel
theorem d_W_law_235 : decode code 235 = .ok (.aload_n 0, 1) := by decide +kernel
theorem d_W_law_236 : decode code 236 = .ok (.iload_n 3, 1) := by decide +kernel
theorem d_W_law_237 : decode code 237 = .ok (.iconst 2, 1) := by decide +kernel
theorem d_W_law_238 : decode code 238 = .ok (.iadd, 1) := by decide +kernel
theorem d_W_law_239 : decode code 239 = .ok (.iaload, 1) := by decide +kernel
theorem d_W_law_240 : decode code 240 = .ok (.aload_n 0, 1) := by decide +kernel
theorem d_W_law_241 : decode code 241 = .ok (.iload_n 3, 1) := by decide +kernel
theorem d_W_law_242 : decode code 242 = .ok (.iconst 3, 1) := by decide +kernel
theorem d_W_law_243 : decode code 243 = .ok (.iadd, 1) := by decide +kernel
theorem d_W_law_244 : decode code 244 = .ok (.iaload, 1) := by decide +kernel
theorem d_W_law_245 : decode code 245 = .ok (.invokevirtual 27, 3) := by decide +kernel
theorem d_W_law_248 : decode code 248 = .ok (.if_icmp .eq 427, 3) := by decide +kernel
theorem d_W_law_251 : decode code 251 = .ok (.iconst 0, 1) := by decide +kernel
theorem d_W_law_252 : decode code 252 = .ok (.ireturn, 1) := by decide +kernel
theorem d_W_law_253 : decode code 253 = .ok (.aload_n 1, 1) := by decide +kernel
theorem d_W_law_254 : decode code 254 = .ok (.invokevirtual 28, 3) := by decide +kernel
theorem d_W_law_257 : decode code 257 = .ok (.aload_n 2, 1) := by decide +kernel
theorem d_W_law_258 : decode code 258 = .ok (.invokevirtual 32, 3) := by decide +kernel
theorem d_W_law_261 : decode code 261 = .ok (.if_icmp .eq 414, 3) := by decide +kernel
theorem d_W_law_264 : decode code 264 = .ok (.iconst 0, 1) := by decide +kernel
theorem d_W_law_265 : decode code 265 = .ok (.ireturn, 1) := by decide +kernel
theorem d_W_law_266 : decode code 266 = .ok (.aload_n 1, 1) := by decide +kernel
theorem d_W_law_267 : decode code 267 = .ok (.aload_n 0, 1) := by decide +kernel
theorem d_W_law_268 : decode code 268 = .ok (.iload_n 3, 1) := by decide +kernel
theorem d_W_law_269 : decode code 269 = .ok (.iconst 1, 1) := by decide +kernel
theorem d_W_law_270 : decode code 270 = .ok (.iadd, 1) := by decide +kernel
theorem d_W_law_271 : decode code 271 = .ok (.iaload, 1) := by decide +kernel
theorem d_W_law_272 : decode code 272 = .ok (.aload_n 0, 1) := by decide +kernel
theorem d_W_law_273 : decode code 273 = .ok (.iload_n 3, 1) := by decide +kernel
theorem d_W_law_274 : decode code 274 = .ok (.iconst 2, 1) := by decide +kernel
theorem d_W_law_275 : decode code 275 = .ok (.iadd, 1) := by decide +kernel
theorem d_W_law_276 : decode code 276 = .ok (.iaload, 1) := by decide +kernel
theorem d_W_law_277 : decode code 277 = .ok (.invokevirtual 33, 3) := by decide +kernel
theorem d_W_law_280 : decode code 280 = .ok (.aload_n 2, 1) := by decide +kernel
theorem d_W_law_281 : decode code 281 = .ok (.aload_n 0, 1) := by decide +kernel
theorem d_W_law_282 : decode code 282 = .ok (.iload_n 3, 1) := by decide +kernel
theorem d_W_law_283 : decode code 283 = .ok (.iconst 1, 1) := by decide +kernel
theorem d_W_law_284 : decode code 284 = .ok (.iadd, 1) := by decide +kernel
theorem d_W_law_285 : decode code 285 = .ok (.iaload, 1) := by decide +kernel
theorem d_W_law_286 : decode code 286 = .ok (.aload_n 0, 1) := by decide +kernel
theorem d_W_law_287 : decode code 287 = .ok (.iload_n 3, 1) := by decide +kernel
theorem d_W_law_288 : decode code 288 = .ok (.iconst 2, 1) := by decide +kernel
theorem d_W_law_289 : decode code 289 = .ok (.iadd, 1) := by decide +kernel
theorem d_W_law_290 : decode code 290 = .ok (.iaload, 1) := by decide +kernel
theorem d_W_law_291 : decode code 291 = .ok (.invokevirtual 36, 3) := by decide +kernel
theorem d_W_law_294 : decode code 294 = .ok (.if_icmp .eq 381, 3) := by decide +kernel
theorem d_W_law_297 : decode code 297 = .ok (.iconst 0, 1) := by decide +kernel
theorem d_W_law_298 : decode code 298 = .ok (.ireturn, 1) := by decide +kernel
theorem d_W_law_299 : decode code 299 = .ok (.aload_n 1, 1) := by decide +kernel
theorem d_W_law_300 : decode code 300 = .ok (.aload_n 0, 1) := by decide +kernel
theorem d_W_law_301 : decode code 301 = .ok (.iload_n 3, 1) := by decide +kernel
theorem d_W_law_302 : decode code 302 = .ok (.iconst 1, 1) := by decide +kernel
theorem d_W_law_303 : decode code 303 = .ok (.iadd, 1) := by decide +kernel
theorem d_W_law_304 : decode code 304 = .ok (.iaload, 1) := by decide +kernel
theorem d_W_law_305 : decode code 305 = .ok (.aload_n 0, 1) := by decide +kernel
theorem d_W_law_306 : decode code 306 = .ok (.iload_n 3, 1) := by decide +kernel
theorem d_W_law_307 : decode code 307 = .ok (.iconst 2, 1) := by decide +kernel
theorem d_W_law_308 : decode code 308 = .ok (.iadd, 1) := by decide +kernel
theorem d_W_law_309 : decode code 309 = .ok (.iaload, 1) := by decide +kernel
theorem d_W_law_310 : decode code 310 = .ok (.ifCond .eq 7, 3) := by decide +kernel
theorem d_W_law_313 : decode code 313 = .ok (.iconst 1, 1) := by decide +kernel
theorem d_W_law_314 : decode code 314 = .ok (.goto 4, 3) := by decide +kernel
theorem d_W_law_317 : decode code 317 = .ok (.iconst 0, 1) := by decide +kernel
theorem d_W_law_318 : decode code 318 = .ok (.invokevirtual 37, 3) := by decide +kernel
theorem d_W_law_321 : decode code 321 = .ok (.aload_n 2, 1) := by decide +kernel
theorem d_W_law_322 : decode code 322 = .ok (.aload_n 0, 1) := by decide +kernel
theorem d_W_law_323 : decode code 323 = .ok (.iload_n 3, 1) := by decide +kernel
theorem d_W_law_324 : decode code 324 = .ok (.iconst 1, 1) := by decide +kernel
theorem d_W_law_325 : decode code 325 = .ok (.iadd, 1) := by decide +kernel
theorem d_W_law_326 : decode code 326 = .ok (.iaload, 1) := by decide +kernel
theorem d_W_law_327 : decode code 327 = .ok (.aload_n 0, 1) := by decide +kernel
theorem d_W_law_328 : decode code 328 = .ok (.iload_n 3, 1) := by decide +kernel
theorem d_W_law_329 : decode code 329 = .ok (.iconst 2, 1) := by decide +kernel
theorem d_W_law_330 : decode code 330 = .ok (.iadd, 1) := by decide +kernel
theorem d_W_law_331 : decode code 331 = .ok (.iaload, 1) := by decide +kernel
theorem d_W_law_332 : decode code 332 = .ok (.ifCond .eq 7, 3) := by decide +kernel
theorem d_W_law_335 : decode code 335 = .ok (.iconst 1, 1) := by decide +kernel
theorem d_W_law_336 : decode code 336 = .ok (.goto 4, 3) := by decide +kernel
theorem d_W_law_339 : decode code 339 = .ok (.iconst 0, 1) := by decide +kernel
theorem d_W_law_340 : decode code 340 = .ok (.invokevirtual 41, 3) := by decide +kernel
theorem d_W_law_343 : decode code 343 = .ok (.if_icmp .eq 332, 3) := by decide +kernel
theorem d_W_law_346 : decode code 346 = .ok (.iconst 0, 1) := by decide +kernel
theorem d_W_law_347 : decode code 347 = .ok (.ireturn, 1) := by decide +kernel
theorem d_W_law_348 : decode code 348 = .ok (.aload_n 1, 1) := by decide +kernel
theorem d_W_law_349 : decode code 349 = .ok (.aload_n 0, 1) := by decide +kernel
theorem d_W_law_350 : decode code 350 = .ok (.iload_n 3, 1) := by decide +kernel
theorem d_W_law_351 : decode code 351 = .ok (.iconst 1, 1) := by decide +kernel
theorem d_W_law_352 : decode code 352 = .ok (.iadd, 1) := by decide +kernel
theorem d_W_law_353 : decode code 353 = .ok (.iaload, 1) := by decide +kernel
theorem d_W_law_354 : decode code 354 = .ok (.invokevirtual 42, 3) := by decide +kernel
theorem d_W_law_357 : decode code 357 = .ok (.aload_n 2, 1) := by decide +kernel
theorem d_W_law_358 : decode code 358 = .ok (.aload_n 0, 1) := by decide +kernel
theorem d_W_law_359 : decode code 359 = .ok (.iload_n 3, 1) := by decide +kernel
theorem d_W_law_360 : decode code 360 = .ok (.iconst 1, 1) := by decide +kernel
theorem d_W_law_361 : decode code 361 = .ok (.iadd, 1) := by decide +kernel
theorem d_W_law_362 : decode code 362 = .ok (.iaload, 1) := by decide +kernel
theorem d_W_law_363 : decode code 363 = .ok (.invokevirtual 46, 3) := by decide +kernel
theorem d_W_law_366 : decode code 366 = .ok (.if_icmp .eq 309, 3) := by decide +kernel
theorem d_W_law_369 : decode code 369 = .ok (.iconst 0, 1) := by decide +kernel
theorem d_W_law_370 : decode code 370 = .ok (.ireturn, 1) := by decide +kernel
theorem d_W_law_371 : decode code 371 = .ok (.aload_n 1, 1) := by decide +kernel
theorem d_W_law_372 : decode code 372 = .ok (.invokevirtual 47, 3) := by decide +kernel
theorem d_W_law_375 : decode code 375 = .ok (.aload_n 2, 1) := by decide +kernel
theorem d_W_law_376 : decode code 376 = .ok (.invokevirtual 50, 3) := by decide +kernel
theorem d_W_law_379 : decode code 379 = .ok (.goto 296, 3) := by decide +kernel
theorem d_W_law_382 : decode code 382 = .ok (.aload_n 1, 1) := by decide +kernel
theorem d_W_law_383 : decode code 383 = .ok (.aload_n 0, 1) := by decide +kernel
theorem d_W_law_384 : decode code 384 = .ok (.iload_n 3, 1) := by decide +kernel
theorem d_W_law_385 : decode code 385 = .ok (.iconst 1, 1) := by decide +kernel
theorem d_W_law_386 : decode code 386 = .ok (.iadd, 1) := by decide +kernel
theorem d_W_law_387 : decode code 387 = .ok (.iaload, 1) := by decide +kernel
theorem d_W_law_388 : decode code 388 = .ok (.aload_n 0, 1) := by decide +kernel
theorem d_W_law_389 : decode code 389 = .ok (.iload_n 3, 1) := by decide +kernel
theorem d_W_law_390 : decode code 390 = .ok (.iconst 2, 1) := by decide +kernel
theorem d_W_law_391 : decode code 391 = .ok (.iadd, 1) := by decide +kernel
theorem d_W_law_392 : decode code 392 = .ok (.iaload, 1) := by decide +kernel
theorem d_W_law_393 : decode code 393 = .ok (.aload_n 0, 1) := by decide +kernel
theorem d_W_law_394 : decode code 394 = .ok (.iload_n 3, 1) := by decide +kernel
theorem d_W_law_395 : decode code 395 = .ok (.iconst 3, 1) := by decide +kernel
theorem d_W_law_396 : decode code 396 = .ok (.iadd, 1) := by decide +kernel
theorem d_W_law_397 : decode code 397 = .ok (.iaload, 1) := by decide +kernel
theorem d_W_law_398 : decode code 398 = .ok (.invokevirtual 51, 3) := by decide +kernel
theorem d_W_law_401 : decode code 401 = .ok (.aload_n 2, 1) := by decide +kernel
theorem d_W_law_402 : decode code 402 = .ok (.aload_n 0, 1) := by decide +kernel
theorem d_W_law_403 : decode code 403 = .ok (.iload_n 3, 1) := by decide +kernel
theorem d_W_law_404 : decode code 404 = .ok (.iconst 1, 1) := by decide +kernel
theorem d_W_law_405 : decode code 405 = .ok (.iadd, 1) := by decide +kernel
theorem d_W_law_406 : decode code 406 = .ok (.iaload, 1) := by decide +kernel
theorem d_W_law_407 : decode code 407 = .ok (.aload_n 0, 1) := by decide +kernel
theorem d_W_law_408 : decode code 408 = .ok (.iload_n 3, 1) := by decide +kernel
theorem d_W_law_409 : decode code 409 = .ok (.iconst 2, 1) := by decide +kernel
theorem d_W_law_410 : decode code 410 = .ok (.iadd, 1) := by decide +kernel
theorem d_W_law_411 : decode code 411 = .ok (.iaload, 1) := by decide +kernel
theorem d_W_law_412 : decode code 412 = .ok (.aload_n 0, 1) := by decide +kernel
theorem d_W_law_413 : decode code 413 = .ok (.iload_n 3, 1) := by decide +kernel
theorem d_W_law_414 : decode code 414 = .ok (.iconst 3, 1) := by decide +kernel
theorem d_W_law_415 : decode code 415 = .ok (.iadd, 1) := by decide +kernel
theorem d_W_law_416 : decode code 416 = .ok (.iaload, 1) := by decide +kernel
theorem d_W_law_417 : decode code 417 = .ok (.invokevirtual 54, 3) := by decide +kernel
theorem d_W_law_420 : decode code 420 = .ok (.if_icmp .eq 255, 3) := by decide +kernel
theorem d_W_law_423 : decode code 423 = .ok (.iconst 0, 1) := by decide +kernel
theorem d_W_law_424 : decode code 424 = .ok (.ireturn, 1) := by decide +kernel
theorem d_W_law_425 : decode code 425 = .ok (.aload_n 1, 1) := by decide +kernel
theorem d_W_law_426 : decode code 426 = .ok (.aload_n 0, 1) := by decide +kernel
theorem d_W_law_427 : decode code 427 = .ok (.iload_n 3, 1) := by decide +kernel
theorem d_W_law_428 : decode code 428 = .ok (.iconst 1, 1) := by decide +kernel
theorem d_W_law_429 : decode code 429 = .ok (.iadd, 1) := by decide +kernel
theorem d_W_law_430 : decode code 430 = .ok (.iaload, 1) := by decide +kernel
theorem d_W_law_431 : decode code 431 = .ok (.aload_n 0, 1) := by decide +kernel
theorem d_W_law_432 : decode code 432 = .ok (.iload_n 3, 1) := by decide +kernel
theorem d_W_law_433 : decode code 433 = .ok (.iconst 2, 1) := by decide +kernel
theorem d_W_law_434 : decode code 434 = .ok (.iadd, 1) := by decide +kernel
theorem d_W_law_435 : decode code 435 = .ok (.iaload, 1) := by decide +kernel
theorem d_W_law_436 : decode code 436 = .ok (.invokevirtual 55, 3) := by decide +kernel
theorem d_W_law_439 : decode code 439 = .ok (.aload_n 2, 1) := by decide +kernel
theorem d_W_law_440 : decode code 440 = .ok (.aload_n 0, 1) := by decide +kernel
theorem d_W_law_441 : decode code 441 = .ok (.iload_n 3, 1) := by decide +kernel
theorem d_W_law_442 : decode code 442 = .ok (.iconst 1, 1) := by decide +kernel
theorem d_W_law_443 : decode code 443 = .ok (.iadd, 1) := by decide +kernel
theorem d_W_law_444 : decode code 444 = .ok (.iaload, 1) := by decide +kernel
theorem d_W_law_445 : decode code 445 = .ok (.aload_n 0, 1) := by decide +kernel
theorem d_W_law_446 : decode code 446 = .ok (.iload_n 3, 1) := by decide +kernel
theorem d_W_law_447 : decode code 447 = .ok (.iconst 2, 1) := by decide +kernel
theorem d_W_law_448 : decode code 448 = .ok (.iadd, 1) := by decide +kernel
theorem d_W_law_449 : decode code 449 = .ok (.iaload, 1) := by decide +kernel
theorem d_W_law_450 : decode code 450 = .ok (.invokevirtual 58, 3) := by decide +kernel
theorem d_W_law_453 : decode code 453 = .ok (.if_icmp .eq 222, 3) := by decide +kernel
theorem d_W_law_456 : decode code 456 = .ok (.iconst 0, 1) := by decide +kernel
theorem d_W_law_457 : decode code 457 = .ok (.ireturn, 1) := by decide +kernel
theorem d_W_law_458 : decode code 458 = .ok (.aload_n 1, 1) := by decide +kernel
theorem d_W_law_459 : decode code 459 = .ok (.aload_n 0, 1) := by decide +kernel
theorem d_W_law_460 : decode code 460 = .ok (.iload_n 3, 1) := by decide +kernel
theorem d_W_law_461 : decode code 461 = .ok (.iconst 1, 1) := by decide +kernel
theorem d_W_law_462 : decode code 462 = .ok (.iadd, 1) := by decide +kernel
theorem d_W_law_463 : decode code 463 = .ok (.iaload, 1) := by decide +kernel
theorem d_W_law_464 : decode code 464 = .ok (.invokevirtual 59, 3) := by decide +kernel
theorem d_W_law_467 : decode code 467 = .ok (.aload_n 2, 1) := by decide +kernel
theorem d_W_law_468 : decode code 468 = .ok (.aload_n 0, 1) := by decide +kernel
theorem d_W_law_469 : decode code 469 = .ok (.iload_n 3, 1) := by decide +kernel
theorem d_W_law_470 : decode code 470 = .ok (.iconst 1, 1) := by decide +kernel
theorem d_W_law_471 : decode code 471 = .ok (.iadd, 1) := by decide +kernel
theorem d_W_law_472 : decode code 472 = .ok (.iaload, 1) := by decide +kernel
theorem d_W_law_473 : decode code 473 = .ok (.invokevirtual 63, 3) := by decide +kernel
theorem d_W_law_476 : decode code 476 = .ok (.if_icmp .eq 199, 3) := by decide +kernel
theorem d_W_law_479 : decode code 479 = .ok (.iconst 0, 1) := by decide +kernel
theorem d_W_law_480 : decode code 480 = .ok (.ireturn, 1) := by decide +kernel
theorem d_W_law_481 : decode code 481 = .ok (.aload_n 1, 1) := by decide +kernel
theorem d_W_law_482 : decode code 482 = .ok (.invokevirtual 64, 3) := by decide +kernel
theorem d_W_law_485 : decode code 485 = .ok (.aload_n 2, 1) := by decide +kernel
theorem d_W_law_486 : decode code 486 = .ok (.invokevirtual 67, 3) := by decide +kernel
theorem d_W_law_489 : decode code 489 = .ok (.if_icmp .eq 186, 3) := by decide +kernel
theorem d_W_law_492 : decode code 492 = .ok (.iconst 0, 1) := by decide +kernel
theorem d_W_law_493 : decode code 493 = .ok (.ireturn, 1) := by decide +kernel
theorem d_W_law_494 : decode code 494 = .ok (.aload_n 1, 1) := by decide +kernel
theorem d_W_law_495 : decode code 495 = .ok (.invokevirtual 68, 3) := by decide +kernel
theorem d_W_law_498 : decode code 498 = .ok (.aload_n 2, 1) := by decide +kernel
theorem d_W_law_499 : decode code 499 = .ok (.invokevirtual 71, 3) := by decide +kernel
theorem d_W_law_502 : decode code 502 = .ok (.if_icmp .eq 173, 3) := by decide +kernel
theorem d_W_law_505 : decode code 505 = .ok (.iconst 0, 1) := by decide +kernel
theorem d_W_law_506 : decode code 506 = .ok (.ireturn, 1) := by decide +kernel
theorem d_W_law_507 : decode code 507 = .ok (.aload_n 1, 1) := by decide +kernel
theorem d_W_law_508 : decode code 508 = .ok (.aload_n 0, 1) := by decide +kernel
theorem d_W_law_509 : decode code 509 = .ok (.iload_n 3, 1) := by decide +kernel
theorem d_W_law_510 : decode code 510 = .ok (.iconst 1, 1) := by decide +kernel
theorem d_W_law_511 : decode code 511 = .ok (.iadd, 1) := by decide +kernel
theorem d_W_law_512 : decode code 512 = .ok (.iaload, 1) := by decide +kernel
theorem d_W_law_513 : decode code 513 = .ok (.invokevirtual 72, 3) := by decide +kernel
theorem d_W_law_516 : decode code 516 = .ok (.aload_n 2, 1) := by decide +kernel
theorem d_W_law_517 : decode code 517 = .ok (.aload_n 0, 1) := by decide +kernel
theorem d_W_law_518 : decode code 518 = .ok (.iload_n 3, 1) := by decide +kernel
theorem d_W_law_519 : decode code 519 = .ok (.iconst 1, 1) := by decide +kernel
theorem d_W_law_520 : decode code 520 = .ok (.iadd, 1) := by decide +kernel
theorem d_W_law_521 : decode code 521 = .ok (.iaload, 1) := by decide +kernel
theorem d_W_law_522 : decode code 522 = .ok (.invokevirtual 75, 3) := by decide +kernel
theorem d_W_law_525 : decode code 525 = .ok (.if_icmp .eq 150, 3) := by decide +kernel
theorem d_W_law_528 : decode code 528 = .ok (.iconst 0, 1) := by decide +kernel
theorem d_W_law_529 : decode code 529 = .ok (.ireturn, 1) := by decide +kernel
theorem d_W_law_530 : decode code 530 = .ok (.aload_n 1, 1) := by decide +kernel
theorem d_W_law_531 : decode code 531 = .ok (.aload_n 0, 1) := by decide +kernel
theorem d_W_law_532 : decode code 532 = .ok (.iload_n 3, 1) := by decide +kernel
theorem d_W_law_533 : decode code 533 = .ok (.iconst 1, 1) := by decide +kernel
theorem d_W_law_534 : decode code 534 = .ok (.iadd, 1) := by decide +kernel
theorem d_W_law_535 : decode code 535 = .ok (.iaload, 1) := by decide +kernel
theorem d_W_law_536 : decode code 536 = .ok (.aload_n 0, 1) := by decide +kernel
theorem d_W_law_537 : decode code 537 = .ok (.iload_n 3, 1) := by decide +kernel
theorem d_W_law_538 : decode code 538 = .ok (.iconst 2, 1) := by decide +kernel
theorem d_W_law_539 : decode code 539 = .ok (.iadd, 1) := by decide +kernel
theorem d_W_law_540 : decode code 540 = .ok (.iaload, 1) := by decide +kernel
theorem d_W_law_541 : decode code 541 = .ok (.invokevirtual 76, 3) := by decide +kernel
theorem d_W_law_544 : decode code 544 = .ok (.aload_n 2, 1) := by decide +kernel
theorem d_W_law_545 : decode code 545 = .ok (.aload_n 0, 1) := by decide +kernel
theorem d_W_law_546 : decode code 546 = .ok (.iload_n 3, 1) := by decide +kernel
theorem d_W_law_547 : decode code 547 = .ok (.iconst 1, 1) := by decide +kernel
theorem d_W_law_548 : decode code 548 = .ok (.iadd, 1) := by decide +kernel
theorem d_W_law_549 : decode code 549 = .ok (.iaload, 1) := by decide +kernel
theorem d_W_law_550 : decode code 550 = .ok (.aload_n 0, 1) := by decide +kernel
theorem d_W_law_551 : decode code 551 = .ok (.iload_n 3, 1) := by decide +kernel
theorem d_W_law_552 : decode code 552 = .ok (.iconst 2, 1) := by decide +kernel
theorem d_W_law_553 : decode code 553 = .ok (.iadd, 1) := by decide +kernel
theorem d_W_law_554 : decode code 554 = .ok (.iaload, 1) := by decide +kernel
theorem d_W_law_555 : decode code 555 = .ok (.invokevirtual 80, 3) := by decide +kernel
theorem d_W_law_558 : decode code 558 = .ok (.if_icmp .eq 117, 3) := by decide +kernel
theorem d_W_law_561 : decode code 561 = .ok (.iconst 0, 1) := by decide +kernel
theorem d_W_law_562 : decode code 562 = .ok (.ireturn, 1) := by decide +kernel
theorem d_W_law_563 : decode code 563 = .ok (.aload_n 1, 1) := by decide +kernel
theorem d_W_law_564 : decode code 564 = .ok (.invokevirtual 81, 3) := by decide +kernel
theorem d_W_law_567 : decode code 567 = .ok (.aload_n 2, 1) := by decide +kernel
theorem d_W_law_568 : decode code 568 = .ok (.invokevirtual 84, 3) := by decide +kernel
theorem d_W_law_571 : decode code 571 = .ok (.if_icmp .eq 104, 3) := by decide +kernel
theorem d_W_law_574 : decode code 574 = .ok (.iconst 0, 1) := by decide +kernel
theorem d_W_law_575 : decode code 575 = .ok (.ireturn, 1) := by decide +kernel
theorem d_W_law_576 : decode code 576 = .ok (.aload_n 1, 1) := by decide +kernel
theorem d_W_law_577 : decode code 577 = .ok (.aload_n 0, 1) := by decide +kernel
theorem d_W_law_578 : decode code 578 = .ok (.iload_n 3, 1) := by decide +kernel
theorem d_W_law_579 : decode code 579 = .ok (.iconst 1, 1) := by decide +kernel
theorem d_W_law_580 : decode code 580 = .ok (.iadd, 1) := by decide +kernel
theorem d_W_law_581 : decode code 581 = .ok (.iaload, 1) := by decide +kernel
theorem d_W_law_582 : decode code 582 = .ok (.invokevirtual 85, 3) := by decide +kernel
theorem d_W_law_585 : decode code 585 = .ok (.aload_n 2, 1) := by decide +kernel
theorem d_W_law_586 : decode code 586 = .ok (.aload_n 0, 1) := by decide +kernel
theorem d_W_law_587 : decode code 587 = .ok (.iload_n 3, 1) := by decide +kernel
theorem d_W_law_588 : decode code 588 = .ok (.iconst 1, 1) := by decide +kernel
theorem d_W_law_589 : decode code 589 = .ok (.iadd, 1) := by decide +kernel
theorem d_W_law_590 : decode code 590 = .ok (.iaload, 1) := by decide +kernel
theorem d_W_law_591 : decode code 591 = .ok (.invokevirtual 88, 3) := by decide +kernel
theorem d_W_law_594 : decode code 594 = .ok (.if_icmp .eq 81, 3) := by decide +kernel
theorem d_W_law_597 : decode code 597 = .ok (.iconst 0, 1) := by decide +kernel
theorem d_W_law_598 : decode code 598 = .ok (.ireturn, 1) := by decide +kernel
theorem d_W_law_599 : decode code 599 = .ok (.aload_n 1, 1) := by decide +kernel
theorem d_W_law_600 : decode code 600 = .ok (.aload_n 0, 1) := by decide +kernel
theorem d_W_law_601 : decode code 601 = .ok (.iload_n 3, 1) := by decide +kernel
theorem d_W_law_602 : decode code 602 = .ok (.iconst 1, 1) := by decide +kernel
theorem d_W_law_603 : decode code 603 = .ok (.iadd, 1) := by decide +kernel
theorem d_W_law_604 : decode code 604 = .ok (.iaload, 1) := by decide +kernel
theorem d_W_law_605 : decode code 605 = .ok (.aload_n 0, 1) := by decide +kernel
theorem d_W_law_606 : decode code 606 = .ok (.iload_n 3, 1) := by decide +kernel
theorem d_W_law_607 : decode code 607 = .ok (.iconst 2, 1) := by decide +kernel
theorem d_W_law_608 : decode code 608 = .ok (.iadd, 1) := by decide +kernel
theorem d_W_law_609 : decode code 609 = .ok (.iaload, 1) := by decide +kernel
theorem d_W_law_610 : decode code 610 = .ok (.aload_n 0, 1) := by decide +kernel
theorem d_W_law_611 : decode code 611 = .ok (.iload_n 3, 1) := by decide +kernel
theorem d_W_law_612 : decode code 612 = .ok (.iconst 3, 1) := by decide +kernel
theorem d_W_law_613 : decode code 613 = .ok (.iadd, 1) := by decide +kernel
theorem d_W_law_614 : decode code 614 = .ok (.iaload, 1) := by decide +kernel
theorem d_W_law_615 : decode code 615 = .ok (.aload_n 0, 1) := by decide +kernel
theorem d_W_law_616 : decode code 616 = .ok (.iload_n 3, 1) := by decide +kernel
theorem d_W_law_617 : decode code 617 = .ok (.iconst 4, 1) := by decide +kernel
theorem d_W_law_618 : decode code 618 = .ok (.iadd, 1) := by decide +kernel
theorem d_W_law_619 : decode code 619 = .ok (.iaload, 1) := by decide +kernel
theorem d_W_law_620 : decode code 620 = .ok (.invokevirtual 89, 3) := by decide +kernel
theorem d_W_law_623 : decode code 623 = .ok (.aload_n 2, 1) := by decide +kernel
theorem d_W_law_624 : decode code 624 = .ok (.aload_n 0, 1) := by decide +kernel
theorem d_W_law_625 : decode code 625 = .ok (.iload_n 3, 1) := by decide +kernel
theorem d_W_law_626 : decode code 626 = .ok (.iconst 1, 1) := by decide +kernel
theorem d_W_law_627 : decode code 627 = .ok (.iadd, 1) := by decide +kernel
theorem d_W_law_628 : decode code 628 = .ok (.iaload, 1) := by decide +kernel
theorem d_W_law_629 : decode code 629 = .ok (.aload_n 0, 1) := by decide +kernel
theorem d_W_law_630 : decode code 630 = .ok (.iload_n 3, 1) := by decide +kernel
theorem d_W_law_631 : decode code 631 = .ok (.iconst 2, 1) := by decide +kernel
theorem d_W_law_632 : decode code 632 = .ok (.iadd, 1) := by decide +kernel
theorem d_W_law_633 : decode code 633 = .ok (.iaload, 1) := by decide +kernel
theorem d_W_law_634 : decode code 634 = .ok (.aload_n 0, 1) := by decide +kernel
theorem d_W_law_635 : decode code 635 = .ok (.iload_n 3, 1) := by decide +kernel
theorem d_W_law_636 : decode code 636 = .ok (.iconst 3, 1) := by decide +kernel
theorem d_W_law_637 : decode code 637 = .ok (.iadd, 1) := by decide +kernel
theorem d_W_law_638 : decode code 638 = .ok (.iaload, 1) := by decide +kernel
theorem d_W_law_639 : decode code 639 = .ok (.aload_n 0, 1) := by decide +kernel
theorem d_W_law_640 : decode code 640 = .ok (.iload_n 3, 1) := by decide +kernel
theorem d_W_law_641 : decode code 641 = .ok (.iconst 4, 1) := by decide +kernel
theorem d_W_law_642 : decode code 642 = .ok (.iadd, 1) := by decide +kernel
theorem d_W_law_643 : decode code 643 = .ok (.iaload, 1) := by decide +kernel
theorem d_W_law_644 : decode code 644 = .ok (.invokevirtual 92, 3) := by decide +kernel
theorem d_W_law_647 : decode code 647 = .ok (.if_icmp .eq 28, 3) := by decide +kernel
theorem d_W_law_650 : decode code 650 = .ok (.iconst 0, 1) := by decide +kernel
theorem d_W_law_651 : decode code 651 = .ok (.ireturn, 1) := by decide +kernel
theorem d_W_law_652 : decode code 652 = .ok (.aload_n 1, 1) := by decide +kernel
theorem d_W_law_653 : decode code 653 = .ok (.aload_n 0, 1) := by decide +kernel
theorem d_W_law_654 : decode code 654 = .ok (.iload_n 3, 1) := by decide +kernel
theorem d_W_law_655 : decode code 655 = .ok (.iconst 1, 1) := by decide +kernel
theorem d_W_law_656 : decode code 656 = .ok (.iadd, 1) := by decide +kernel
theorem d_W_law_657 : decode code 657 = .ok (.iaload, 1) := by decide +kernel
theorem d_W_law_658 : decode code 658 = .ok (.invokevirtual 93, 3) := by decide +kernel
theorem d_W_law_661 : decode code 661 = .ok (.aload_n 2, 1) := by decide +kernel
theorem d_W_law_662 : decode code 662 = .ok (.aload_n 0, 1) := by decide +kernel
theorem d_W_law_663 : decode code 663 = .ok (.iload_n 3, 1) := by decide +kernel
theorem d_W_law_664 : decode code 664 = .ok (.iconst 1, 1) := by decide +kernel
theorem d_W_law_665 : decode code 665 = .ok (.iadd, 1) := by decide +kernel
theorem d_W_law_666 : decode code 666 = .ok (.iaload, 1) := by decide +kernel
theorem d_W_law_667 : decode code 667 = .ok (.invokevirtual 96, 3) := by decide +kernel
theorem d_W_law_670 : decode code 670 = .ok (.if_icmp .eq 5, 3) := by decide +kernel
theorem d_W_law_673 : decode code 673 = .ok (.iconst 0, 1) := by decide +kernel
theorem d_W_law_674 : decode code 674 = .ok (.ireturn, 1) := by decide +kernel
theorem d_W_law_675 : decode code 675 = .ok (.iinc 3 5, 3) := by decide +kernel
theorem d_W_law_678 : decode code 678 = .ok (.goto (-660), 3) := by decide +kernel
theorem d_W_law_681 : decode code 681 = .ok (.iconst 1, 1) := by decide +kernel
theorem d_W_law_682 : decode code 682 = .ok (.ireturn, 1) := by decide +kernel
