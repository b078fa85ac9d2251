theorem d_R_kind_2 : decode prog_10_method_7_code 2 = .ok (.bipush 34, 2) := by decide +kernel
theorem d_R_kind_4 : decode prog_10_method_7_code 4 = .ok (.iconst 4, 1) := by decide +kernel
theorem d_R_kind_5 : decode prog_10_method_7_code 5 = .ok (.iload_n 2, 1) := by decide +kernel
theorem d_R_kind_6 : decode prog_10_method_7_code 6 = .ok (.imul, 1) := by decide +kernel
theorem d_R_kind_7 : decode prog_10_method_7_code 7 = .ok (.iadd, 1) := by decide +kernel
theorem d_R_kind_8 : decode prog_10_method_7_code 8 = .ok (.invokevirtual 111, 3) := by decide +kernel
theorem d_R_kind_11 : decode prog_10_method_7_code 11 = .ok (.ireturn, 1) := by decide +kernel
theorem d_R_lets_0 : decode prog_10_method_14_code 0 = .ok (.aload_n 0, 1) := by decide +kernel
theorem d_R_lets_1 : decode prog_10_method_14_code 1 = .ok (.iload_n 1, 1) := by decide +kernel
theorem d_R_lets_2 : decode prog_10_method_14_code 2 = .ok (.iload_n 2, 1) := by decide +kernel
theorem d_R_lets_3 : decode prog_10_method_14_code 3 = .ok (.invokevirtual 118, 3) := by decide +kernel
theorem d_R_lets_6 : decode prog_10_method_14_code 6 = .ok (.iload_n 3, 1) := by decide +kernel
theorem d_R_lets_7 : decode prog_10_method_14_code 7 = .ok (.if_icmp .lt 27, 3) := by decide +kernel
theorem d_R_lets_10 : decode prog_10_method_14_code 10 = .ok (.aload_n 0, 1) := by decide +kernel
theorem d_R_lets_11 : decode prog_10_method_14_code 11 = .ok (.iload_n 1, 1) := by decide +kernel
theorem d_R_lets_12 : decode prog_10_method_14_code 12 = .ok (.iload_n 2, 1) := by decide +kernel
theorem d_R_lets_13 : decode prog_10_method_14_code 13 = .ok (.invokevirtual 118, 3) := by decide +kernel
theorem d_R_lets_16 : decode prog_10_method_14_code 16 = .ok (.aload_n 0, 1) := by decide +kernel
theorem d_R_lets_17 : decode prog_10_method_14_code 17 = .ok (.iload_n 1, 1) := by decide +kernel
theorem d_R_lets_18 : decode prog_10_method_14_code 18 = .ok (.iload_n 2, 1) := by decide +kernel
theorem d_R_lets_19 : decode prog_10_method_14_code 19 = .ok (.invokevirtual 115, 3) := by decide +kernel
theorem d_R_lets_22 : decode prog_10_method_14_code 22 = .ok (.iadd, 1) := by decide +kernel
theorem d_R_lets_23 : decode prog_10_method_14_code 23 = .ok (.iconst 1, 1) := by decide +kernel
theorem d_R_lets_24 : decode prog_10_method_14_code 24 = .ok (.isub, 1) := by decide +kernel
theorem d_R_lets_25 : decode prog_10_method_14_code 25 = .ok (.iload 4, 2) := by decide +kernel
theorem d_R_lets_27 : decode prog_10_method_14_code 27 = .ok (.if_icmp .gt 7, 3) := by decide +kernel
theorem d_R_lets_30 : decode prog_10_method_14_code 30 = .ok (.iconst 1, 1) := by decide +kernel
theorem d_R_lets_31 : decode prog_10_method_14_code 31 = .ok (.goto 4, 3) := by decide +kernel
theorem d_R_lets_34 : decode prog_10_method_14_code 34 = .ok (.iconst 0, 1) := by decide +kernel
theorem d_R_lets_35 : decode prog_10_method_14_code 35 = .ok (.istore 6, 2) := by decide +kernel
theorem d_R_lets_37 : decode prog_10_method_14_code 37 = .ok (.aload_n 0, 1) := by decide +kernel
theorem d_R_lets_38 : decode prog_10_method_14_code 38 = .ok (.iload_n 1, 1) := by decide +kernel
theorem d_R_lets_39 : decode prog_10_method_14_code 39 = .ok (.iload_n 2, 1) := by decide +kernel
theorem d_R_lets_40 : decode prog_10_method_14_code 40 = .ok (.invokevirtual 125, 3) := by decide +kernel
theorem d_R_lets_43 : decode prog_10_method_14_code 43 = .ok (.tableswitch 106 0 3 #[29, 53, 78, 81], 29) := by decide +kernel
theorem d_R_lets_72 : decode prog_10_method_14_code 72 = .ok (.iload 5, 2) := by decide +kernel
theorem d_R_lets_74 : decode prog_10_method_14_code 74 = .ok (.ifCond .ne 20, 3) := by decide +kernel
theorem d_R_lets_77 : decode prog_10_method_14_code 77 = .ok (.aload_n 0, 1) := by decide +kernel
theorem d_R_lets_78 : decode prog_10_method_14_code 78 = .ok (.getfield 29, 3) := by decide +kernel
theorem d_R_lets_81 : decode prog_10_method_14_code 81 = .ok (.iconst 4, 1) := by decide +kernel
theorem d_R_lets_82 : decode prog_10_method_14_code 82 = .ok (.iload_n 1, 1) := by decide +kernel
theorem d_R_lets_83 : decode prog_10_method_14_code 83 = .ok (.imul, 1) := by decide +kernel
theorem d_R_lets_84 : decode prog_10_method_14_code 84 = .ok (.iload_n 2, 1) := by decide +kernel
theorem d_R_lets_85 : decode prog_10_method_14_code 85 = .ok (.iadd, 1) := by decide +kernel
theorem d_R_lets_86 : decode prog_10_method_14_code 86 = .ok (.baload, 1) := by decide +kernel
theorem d_R_lets_87 : decode prog_10_method_14_code 87 = .ok (.ifCond .eq 7, 3) := by decide +kernel
theorem d_R_lets_90 : decode prog_10_method_14_code 90 = .ok (.iconst 1, 1) := by decide +kernel
theorem d_R_lets_91 : decode prog_10_method_14_code 91 = .ok (.goto 4, 3) := by decide +kernel
theorem d_R_lets_94 : decode prog_10_method_14_code 94 = .ok (.iconst 0, 1) := by decide +kernel
theorem d_R_lets_95 : decode prog_10_method_14_code 95 = .ok (.ireturn, 1) := by decide +kernel
theorem d_R_lets_96 : decode prog_10_method_14_code 96 = .ok (.iload 5, 2) := by decide +kernel
theorem d_R_lets_98 : decode prog_10_method_14_code 98 = .ok (.ifCond .ne 21, 3) := by decide +kernel
theorem d_R_lets_101 : decode prog_10_method_14_code 101 = .ok (.aload_n 0, 1) := by decide +kernel
theorem d_R_lets_102 : decode prog_10_method_14_code 102 = .ok (.iload_n 1, 1) := by decide +kernel
theorem d_R_lets_103 : decode prog_10_method_14_code 103 = .ok (.iload_n 2, 1) := by decide +kernel
theorem d_R_lets_104 : decode prog_10_method_14_code 104 = .ok (.invokevirtual 128, 3) := by decide +kernel
theorem d_R_lets_107 : decode prog_10_method_14_code 107 = .ok (.ifCond .eq 12, 3) := by decide +kernel
theorem d_R_lets_110 : decode prog_10_method_14_code 110 = .ok (.iload 6, 2) := by decide +kernel
theorem d_R_lets_112 : decode prog_10_method_14_code 112 = .ok (.ifCond .eq 7, 3) := by decide +kernel
theorem d_R_lets_115 : decode prog_10_method_14_code 115 = .ok (.iconst 1, 1) := by decide +kernel
theorem d_R_lets_116 : decode prog_10_method_14_code 116 = .ok (.goto 4, 3) := by decide +kernel
theorem d_R_lets_119 : decode prog_10_method_14_code 119 = .ok (.iconst 0, 1) := by decide +kernel
theorem d_R_lets_120 : decode prog_10_method_14_code 120 = .ok (.ireturn, 1) := by decide +kernel
theorem d_R_lets_121 : decode prog_10_method_14_code 121 = .ok (.iload 5, 2) := by decide +kernel
theorem d_R_lets_123 : decode prog_10_method_14_code 123 = .ok (.ireturn, 1) := by decide +kernel
theorem d_R_lets_124 : decode prog_10_method_14_code 124 = .ok (.iload 5, 2) := by decide +kernel
theorem d_R_lets_126 : decode prog_10_method_14_code 126 = .ok (.ifCond .eq 21, 3) := by decide +kernel
theorem d_R_lets_129 : decode prog_10_method_14_code 129 = .ok (.aload_n 0, 1) := by decide +kernel
theorem d_R_lets_130 : decode prog_10_method_14_code 130 = .ok (.iload_n 1, 1) := by decide +kernel
theorem d_R_lets_131 : decode prog_10_method_14_code 131 = .ok (.iload_n 2, 1) := by decide +kernel
theorem d_R_lets_132 : decode prog_10_method_14_code 132 = .ok (.invokevirtual 128, 3) := by decide +kernel
theorem d_R_lets_135 : decode prog_10_method_14_code 135 = .ok (.ifCond .ne 12, 3) := by decide +kernel
theorem d_R_lets_138 : decode prog_10_method_14_code 138 = .ok (.iload 6, 2) := by decide +kernel
theorem d_R_lets_140 : decode prog_10_method_14_code 140 = .ok (.ifCond .eq 7, 3) := by decide +kernel
theorem d_R_lets_143 : decode prog_10_method_14_code 143 = .ok (.iconst 1, 1) := by decide +kernel
theorem d_R_lets_144 : decode prog_10_method_14_code 144 = .ok (.goto 4, 3) := by decide +kernel
theorem d_R_lets_147 : decode prog_10_method_14_code 147 = .ok (.iconst 0, 1) := by decide +kernel
theorem d_R_lets_148 : decode prog_10_method_14_code 148 = .ok (.ireturn, 1) := by decide +kernel
theorem d_R_lets_149 : decode prog_10_method_14_code 149 = .ok (.iconst 0, 1) := by decide +kernel
theorem d_R_lets_150 : decode prog_10_method_14_code 150 = .ok (.ireturn, 1) := by decide +kernel
theorem d_R_allowed_0 : decode prog_10_method_15_code 0 = .ok (.iload_n 3, 1) := by decide +kernel
theorem d_R_allowed_1 : decode prog_10_method_15_code 1 = .ok (.bipush 127, 2) := by decide +kernel
theorem d_R_allowed_3 : decode prog_10_method_15_code 3 = .ok (.if_icmp .le 5, 3) := by decide +kernel
theorem d_R_allowed_6 : decode prog_10_method_15_code 6 = .ok (.iconst 0, 1) := by decide +kernel
theorem d_R_allowed_7 : decode prog_10_method_15_code 7 = .ok (.ireturn, 1) := by decide +kernel
theorem d_R_allowed_8 : decode prog_10_method_15_code 8 = .ok (.iload_n 2, 1) := by decide +kernel
theorem d_R_allowed_9 : decode prog_10_method_15_code 9 = .ok (.istore 5, 2) := by decide +kernel
theorem d_R_allowed_11 : decode prog_10_method_15_code 11 = .ok (.iload 5, 2) := by decide +kernel
theorem d_R_allowed_13 : decode prog_10_method_15_code 13 = .ok (.iload_n 3, 1) := by decide +kernel
theorem d_R_allowed_14 : decode prog_10_method_15_code 14 = .ok (.if_icmp .gt 39, 3) := by decide +kernel
theorem d_R_allowed_17 : decode prog_10_method_15_code 17 = .ok (.aload_n 0, 1) := by decide +kernel
theorem d_R_allowed_18 : decode prog_10_method_15_code 18 = .ok (.iload_n 1, 1) := by decide +kernel
theorem d_R_allowed_19 : decode prog_10_method_15_code 19 = .ok (.iload 5, 2) := by decide +kernel
theorem d_R_allowed_21 : decode prog_10_method_15_code 21 = .ok (.invokevirtual 131, 3) := by decide +kernel
theorem d_R_allowed_24 : decode prog_10_method_15_code 24 = .ok (.istore 6, 2) := by decide +kernel
theorem d_R_allowed_26 : decode prog_10_method_15_code 26 = .ok (.iload 6, 2) := by decide +kernel
theorem d_R_allowed_28 : decode prog_10_method_15_code 28 = .ok (.ifCond .lt 19, 3) := by decide +kernel
theorem d_R_allowed_31 : decode prog_10_method_15_code 31 = .ok (.aload_n 0, 1) := by decide +kernel
theorem d_R_allowed_32 : decode prog_10_method_15_code 32 = .ok (.iload_n 1, 1) := by decide +kernel
theorem d_R_allowed_33 : decode prog_10_method_15_code 33 = .ok (.iload 6, 2) := by decide +kernel
theorem d_R_allowed_35 : decode prog_10_method_15_code 35 = .ok (.iload_n 2, 1) := by decide +kernel
theorem d_R_allowed_36 : decode prog_10_method_15_code 36 = .ok (.iload_n 3, 1) := by decide +kernel
theorem d_R_allowed_37 : decode prog_10_method_15_code 37 = .ok (.iload 4, 2) := by decide +kernel
theorem d_R_allowed_39 : decode prog_10_method_15_code 39 = .ok (.invokevirtual 134, 3) := by decide +kernel
theorem d_R_allowed_42 : decode prog_10_method_15_code 42 = .ok (.ifCond .ne 5, 3) := by decide +kernel
theorem d_R_allowed_45 : decode prog_10_method_15_code 45 = .ok (.iconst 0, 1) := by decide +kernel
theorem d_R_allowed_46 : decode prog_10_method_15_code 46 = .ok (.ireturn, 1) := by decide +kernel
theorem d_R_allowed_47 : decode prog_10_method_15_code 47 = .ok (.iinc 5 1, 3) := by decide +kernel
theorem d_R_allowed_50 : decode prog_10_method_15_code 50 = .ok (.goto (-39), 3) := by decide +kernel
theorem d_R_allowed_53 : decode prog_10_method_15_code 53 = .ok (.iconst 1, 1) := by decide +kernel
theorem d_R_allowed_54 : decode prog_10_method_15_code 54 = .ok (.ireturn, 1) := by decide +kernel
theorem d_R_cell_0 : decode prog_10_method_16_code 0 = .ok (.bipush 8, 2) := by decide +kernel
theorem d_R_cell_2 : decode prog_10_method_16_code 2 = .ok (.iconst 4, 1) := by decide +kernel
theorem d_R_cell_3 : decode prog_10_method_16_code 3 = .ok (.iload_n 1, 1) := by decide +kernel
theorem d_R_cell_4 : decode prog_10_method_16_code 4 = .ok (.imul, 1) := by decide +kernel
theorem d_R_cell_5 : decode prog_10_method_16_code 5 = .ok (.iload_n 2, 1) := by decide +kernel
theorem d_R_cell_6 : decode prog_10_method_16_code 6 = .ok (.iadd, 1) := by decide +kernel
theorem d_R_cell_7 : decode prog_10_method_16_code 7 = .ok (.imul, 1) := by decide +kernel
theorem d_R_cell_8 : decode prog_10_method_16_code 8 = .ok (.iload_n 3, 1) := by decide +kernel
theorem d_R_cell_9 : decode prog_10_method_16_code 9 = .ok (.iadd, 1) := by decide +kernel
theorem d_R_cell_10 : decode prog_10_method_16_code 10 = .ok (.aload_n 0, 1) := by decide +kernel
theorem d_R_cell_11 : decode prog_10_method_16_code 11 = .ok (.iload_n 1, 1) := by decide +kernel
theorem d_R_cell_12 : decode prog_10_method_16_code 12 = .ok (.iload_n 2, 1) := by decide +kernel
theorem d_R_cell_13 : decode prog_10_method_16_code 13 = .ok (.invokevirtual 118, 3) := by decide +kernel
theorem d_R_cell_16 : decode prog_10_method_16_code 16 = .ok (.isub, 1) := by decide +kernel
theorem d_R_cell_17 : decode prog_10_method_16_code 17 = .ok (.ireturn, 1) := by decide +kernel
theorem d_R_copy_0 : decode prog_10_method_13_code 0 = .ok (.bipush 8, 2) := by decide +kernel
theorem d_R_copy_2 : decode prog_10_method_13_code 2 = .ok (.iconst 4, 1) := by decide +kernel
theorem d_R_copy_3 : decode prog_10_method_13_code 3 = .ok (.iload_n 1, 1) := by decide +kernel
theorem d_R_copy_4 : decode prog_10_method_13_code 4 = .ok (.imul, 1) := by decide +kernel
theorem d_R_copy_5 : decode prog_10_method_13_code 5 = .ok (.iload_n 2, 1) := by decide +kernel
theorem d_R_copy_6 : decode prog_10_method_13_code 6 = .ok (.iadd, 1) := by decide +kernel
theorem d_R_copy_7 : decode prog_10_method_13_code 7 = .ok (.imul, 1) := by decide +kernel
theorem d_R_copy_8 : decode prog_10_method_13_code 8 = .ok (.istore 4, 2) := by decide +kernel
theorem d_R_copy_10 : decode prog_10_method_13_code 10 = .ok (.iload 4, 2) := by decide +kernel
theorem d_R_copy_12 : decode prog_10_method_13_code 12 = .ok (.bipush 8, 2) := by decide +kernel
theorem d_R_copy_14 : decode prog_10_method_13_code 14 = .ok (.iconst 4, 1) := by decide +kernel
theorem d_R_copy_15 : decode prog_10_method_13_code 15 = .ok (.iload_n 1, 1) := by decide +kernel
theorem d_R_copy_16 : decode prog_10_method_13_code 16 = .ok (.imul, 1) := by decide +kernel
theorem d_R_copy_17 : decode prog_10_method_13_code 17 = .ok (.iload_n 2, 1) := by decide +kernel
theorem d_R_copy_18 : decode prog_10_method_13_code 18 = .ok (.iadd, 1) := by decide +kernel
theorem d_R_copy_19 : decode prog_10_method_13_code 19 = .ok (.imul, 1) := by decide +kernel
theorem d_R_copy_20 : decode prog_10_method_13_code 20 = .ok (.bipush 8, 2) := by decide +kernel
theorem d_R_copy_22 : decode prog_10_method_13_code 22 = .ok (.iadd, 1) := by decide +kernel
theorem d_R_copy_23 : decode prog_10_method_13_code 23 = .ok (.if_icmp .ge 44, 3) := by decide +kernel
theorem d_R_copy_26 : decode prog_10_method_13_code 26 = .ok (.iload_n 3, 1) := by decide +kernel
theorem d_R_copy_27 : decode prog_10_method_13_code 27 = .ok (.ifCond .eq 20, 3) := by decide +kernel
theorem d_R_copy_30 : decode prog_10_method_13_code 30 = .ok (.aload_n 0, 1) := by decide +kernel
theorem d_R_copy_31 : decode prog_10_method_13_code 31 = .ok (.getfield 26, 3) := by decide +kernel
theorem d_R_copy_34 : decode prog_10_method_13_code 34 = .ok (.iload 4, 2) := by decide +kernel
theorem d_R_copy_36 : decode prog_10_method_13_code 36 = .ok (.aload_n 0, 1) := by decide +kernel
theorem d_R_copy_37 : decode prog_10_method_13_code 37 = .ok (.getfield 23, 3) := by decide +kernel
theorem d_R_copy_40 : decode prog_10_method_13_code 40 = .ok (.iload 4, 2) := by decide +kernel
theorem d_R_copy_42 : decode prog_10_method_13_code 42 = .ok (.iaload, 1) := by decide +kernel
theorem d_R_copy_43 : decode prog_10_method_13_code 43 = .ok (.iastore, 1) := by decide +kernel
theorem d_R_copy_44 : decode prog_10_method_13_code 44 = .ok (.goto 17, 3) := by decide +kernel
theorem d_R_copy_47 : decode prog_10_method_13_code 47 = .ok (.aload_n 0, 1) := by decide +kernel
theorem d_R_copy_48 : decode prog_10_method_13_code 48 = .ok (.getfield 23, 3) := by decide +kernel
theorem d_R_copy_51 : decode prog_10_method_13_code 51 = .ok (.iload 4, 2) := by decide +kernel
theorem d_R_copy_53 : decode prog_10_method_13_code 53 = .ok (.aload_n 0, 1) := by decide +kernel
theorem d_R_copy_54 : decode prog_10_method_13_code 54 = .ok (.getfield 26, 3) := by decide +kernel
theorem d_R_copy_57 : decode prog_10_method_13_code 57 = .ok (.iload 4, 2) := by decide +kernel
theorem d_R_copy_59 : decode prog_10_method_13_code 59 = .ok (.iaload, 1) := by decide +kernel
theorem d_R_copy_60 : decode prog_10_method_13_code 60 = .ok (.iastore, 1) := by decide +kernel
theorem d_R_copy_61 : decode prog_10_method_13_code 61 = .ok (.iinc 4 1, 3) := by decide +kernel
theorem d_R_copy_64 : decode prog_10_method_13_code 64 = .ok (.goto (-54), 3) := by decide +kernel
theorem d_R_copy_67 : decode prog_10_method_13_code 67 = .ok (.return_, 1) := by decide +kernel
theorem d_R_fill_0 : decode prog_10_method_12_code 0 = .ok (.aload_n 0, 1) := by decide +kernel
theorem d_R_fill_1 : decode prog_10_method_12_code 1 = .ok (.getfield 20, 3) := by decide +kernel
theorem d_R_fill_4 : decode prog_10_method_12_code 4 = .ok (.sipush 128, 3) := by decide +kernel
theorem d_R_fill_7 : decode prog_10_method_12_code 7 = .ok (.iload_n 1, 1) := by decide +kernel
theorem d_R_fill_8 : decode prog_10_method_12_code 8 = .ok (.imul, 1) := by decide +kernel
theorem d_R_fill_9 : decode prog_10_method_12_code 9 = .ok (.bipush 48, 2) := by decide +kernel
theorem d_R_fill_11 : decode prog_10_method_12_code 11 = .ok (.iadd, 1) := by decide +kernel
theorem d_R_fill_12 : decode prog_10_method_12_code 12 = .ok (.iload_n 2, 1) := by decide +kernel
theorem d_R_fill_13 : decode prog_10_method_12_code 13 = .ok (.iadd, 1) := by decide +kernel
theorem d_R_fill_14 : decode prog_10_method_12_code 14 = .ok (.iload_n 3, 1) := by decide +kernel
theorem d_R_fill_15 : decode prog_10_method_12_code 15 = .ok (.iastore, 1) := by decide +kernel
theorem d_R_fill_16 : decode prog_10_method_12_code 16 = .ok (.return_, 1) := by decide +kernel
theorem d_R_reads_0 : decode prog_10_method_17_code 0 = .ok (.aload_n 0, 1) := by decide +kernel
theorem d_R_reads_1 : decode prog_10_method_17_code 1 = .ok (.iload_n 1, 1) := by decide +kernel
theorem d_R_reads_2 : decode prog_10_method_17_code 2 = .ok (.iload_n 2, 1) := by decide +kernel
theorem d_R_reads_3 : decode prog_10_method_17_code 3 = .ok (.iload_n 3, 1) := by decide +kernel
theorem d_R_reads_4 : decode prog_10_method_17_code 4 = .ok (.iconst 0, 1) := by decide +kernel
theorem d_R_reads_5 : decode prog_10_method_17_code 5 = .ok (.invokevirtual 138, 3) := by decide +kernel
theorem d_R_reads_8 : decode prog_10_method_17_code 8 = .ok (.ifCond .ne 5, 3) := by decide +kernel
theorem d_R_reads_11 : decode prog_10_method_17_code 11 = .ok (.iconst 0, 1) := by decide +kernel
theorem d_R_reads_12 : decode prog_10_method_17_code 12 = .ok (.ireturn, 1) := by decide +kernel
theorem d_R_reads_13 : decode prog_10_method_17_code 13 = .ok (.iload_n 2, 1) := by decide +kernel
theorem d_R_reads_14 : decode prog_10_method_17_code 14 = .ok (.istore 4, 2) := by decide +kernel
theorem d_R_reads_16 : decode prog_10_method_17_code 16 = .ok (.iload 4, 2) := by decide +kernel
theorem d_R_reads_18 : decode prog_10_method_17_code 18 = .ok (.iload_n 3, 1) := by decide +kernel
theorem d_R_reads_19 : decode prog_10_method_17_code 19 = .ok (.if_icmp .gt 53, 3) := by decide +kernel
theorem d_R_reads_22 : decode prog_10_method_17_code 22 = .ok (.aload_n 0, 1) := by decide +kernel
theorem d_R_reads_23 : decode prog_10_method_17_code 23 = .ok (.iload_n 1, 1) := by decide +kernel
theorem d_R_reads_24 : decode prog_10_method_17_code 24 = .ok (.iload 4, 2) := by decide +kernel
theorem d_R_reads_26 : decode prog_10_method_17_code 26 = .ok (.invokevirtual 131, 3) := by decide +kernel
theorem d_R_reads_29 : decode prog_10_method_17_code 29 = .ok (.istore 5, 2) := by decide +kernel
theorem d_R_reads_31 : decode prog_10_method_17_code 31 = .ok (.iload 5, 2) := by decide +kernel
theorem d_R_reads_33 : decode prog_10_method_17_code 33 = .ok (.ifCond .lt 33, 3) := by decide +kernel
theorem d_R_reads_36 : decode prog_10_method_17_code 36 = .ok (.aload_n 0, 1) := by decide +kernel
theorem d_R_reads_37 : decode prog_10_method_17_code 37 = .ok (.iload_n 1, 1) := by decide +kernel
theorem d_R_reads_38 : decode prog_10_method_17_code 38 = .ok (.iload 5, 2) := by decide +kernel
theorem d_R_reads_40 : decode prog_10_method_17_code 40 = .ok (.invokevirtual 125, 3) := by decide +kernel
theorem d_R_reads_43 : decode prog_10_method_17_code 43 = .ok (.ifCond .ne 23, 3) := by decide +kernel
theorem d_R_reads_46 : decode prog_10_method_17_code 46 = .ok (.iload 4, 2) := by decide +kernel
theorem d_R_reads_48 : decode prog_10_method_17_code 48 = .ok (.aload_n 0, 1) := by decide +kernel
theorem d_R_reads_49 : decode prog_10_method_17_code 49 = .ok (.iload_n 1, 1) := by decide +kernel
theorem d_R_reads_50 : decode prog_10_method_17_code 50 = .ok (.iload 5, 2) := by decide +kernel
theorem d_R_reads_52 : decode prog_10_method_17_code 52 = .ok (.invokevirtual 118, 3) := by decide +kernel
theorem d_R_reads_55 : decode prog_10_method_17_code 55 = .ok (.if_icmp .ne 11, 3) := by decide +kernel
theorem d_R_reads_58 : decode prog_10_method_17_code 58 = .ok (.aload_n 0, 1) := by decide +kernel
theorem d_R_reads_59 : decode prog_10_method_17_code 59 = .ok (.iload_n 1, 1) := by decide +kernel
theorem d_R_reads_60 : decode prog_10_method_17_code 60 = .ok (.iload 5, 2) := by decide +kernel
theorem d_R_reads_62 : decode prog_10_method_17_code 62 = .ok (.iconst 0, 1) := by decide +kernel
theorem d_R_reads_63 : decode prog_10_method_17_code 63 = .ok (.invokevirtual 142, 3) := by decide +kernel
theorem d_R_reads_66 : decode prog_10_method_17_code 66 = .ok (.iinc 4 1, 3) := by decide +kernel
theorem d_R_reads_69 : decode prog_10_method_17_code 69 = .ok (.goto (-53), 3) := by decide +kernel
theorem d_R_reads_72 : decode prog_10_method_17_code 72 = .ok (.iload_n 2, 1) := by decide +kernel
theorem d_R_reads_73 : decode prog_10_method_17_code 73 = .ok (.istore 4, 2) := by decide +kernel
theorem d_R_reads_75 : decode prog_10_method_17_code 75 = .ok (.iload 4, 2) := by decide +kernel
theorem d_R_reads_77 : decode prog_10_method_17_code 77 = .ok (.iload_n 3, 1) := by decide +kernel
theorem d_R_reads_78 : decode prog_10_method_17_code 78 = .ok (.if_icmp .gt 83, 3) := by decide +kernel
theorem d_R_reads_81 : decode prog_10_method_17_code 81 = .ok (.aload_n 0, 1) := by decide +kernel
theorem d_R_reads_82 : decode prog_10_method_17_code 82 = .ok (.iload_n 1, 1) := by decide +kernel
theorem d_R_reads_83 : decode prog_10_method_17_code 83 = .ok (.iload 4, 2) := by decide +kernel
theorem d_R_reads_85 : decode prog_10_method_17_code 85 = .ok (.invokevirtual 131, 3) := by decide +kernel
theorem d_R_reads_88 : decode prog_10_method_17_code 88 = .ok (.istore 5, 2) := by decide +kernel
theorem d_R_reads_90 : decode prog_10_method_17_code 90 = .ok (.aload_n 0, 1) := by decide +kernel
theorem d_R_reads_91 : decode prog_10_method_17_code 91 = .ok (.getfield 84, 3) := by decide +kernel
theorem d_R_reads_94 : decode prog_10_method_17_code 94 = .ok (.iload 4, 2) := by decide +kernel
theorem d_R_reads_96 : decode prog_10_method_17_code 96 = .ok (.iload_n 2, 1) := by decide +kernel
theorem d_R_reads_97 : decode prog_10_method_17_code 97 = .ok (.isub, 1) := by decide +kernel
theorem d_R_reads_98 : decode prog_10_method_17_code 98 = .ok (.iload 5, 2) := by decide +kernel
theorem d_R_reads_100 : decode prog_10_method_17_code 100 = .ok (.ifCond .ge 13, 3) := by decide +kernel
theorem d_R_reads_103 : decode prog_10_method_17_code 103 = .ok (.aload_n 0, 1) := by decide +kernel
theorem d_R_reads_104 : decode prog_10_method_17_code 104 = .ok (.iload_n 1, 1) := by decide +kernel
theorem d_R_reads_105 : decode prog_10_method_17_code 105 = .ok (.iload 4, 2) := by decide +kernel
theorem d_R_reads_107 : decode prog_10_method_17_code 107 = .ok (.invokevirtual 111, 3) := by decide +kernel
theorem d_R_reads_110 : decode prog_10_method_17_code 110 = .ok (.goto 44, 3) := by decide +kernel
theorem d_R_reads_113 : decode prog_10_method_17_code 113 = .ok (.aload_n 0, 1) := by decide +kernel
theorem d_R_reads_114 : decode prog_10_method_17_code 114 = .ok (.iload_n 1, 1) := by decide +kernel
theorem d_R_reads_115 : decode prog_10_method_17_code 115 = .ok (.iload 5, 2) := by decide +kernel
theorem d_R_reads_117 : decode prog_10_method_17_code 117 = .ok (.invokevirtual 125, 3) := by decide +kernel
theorem d_R_reads_120 : decode prog_10_method_17_code 120 = .ok (.ifCond .ne 20, 3) := by decide +kernel
theorem d_R_reads_123 : decode prog_10_method_17_code 123 = .ok (.aload_n 0, 1) := by decide +kernel
theorem d_R_reads_124 : decode prog_10_method_17_code 124 = .ok (.getfield 23, 3) := by decide +kernel
theorem d_R_reads_127 : decode prog_10_method_17_code 127 = .ok (.aload_n 0, 1) := by decide +kernel
theorem d_R_reads_128 : decode prog_10_method_17_code 128 = .ok (.iload_n 1, 1) := by decide +kernel
theorem d_R_reads_129 : decode prog_10_method_17_code 129 = .ok (.iload 5, 2) := by decide +kernel
theorem d_R_reads_131 : decode prog_10_method_17_code 131 = .ok (.iload 4, 2) := by decide +kernel
theorem d_R_reads_133 : decode prog_10_method_17_code 133 = .ok (.invokevirtual 146, 3) := by decide +kernel
theorem d_R_reads_136 : decode prog_10_method_17_code 136 = .ok (.iaload, 1) := by decide +kernel
theorem d_R_reads_137 : decode prog_10_method_17_code 137 = .ok (.goto 17, 3) := by decide +kernel
theorem d_R_reads_140 : decode prog_10_method_17_code 140 = .ok (.aload_n 0, 1) := by decide +kernel
theorem d_R_reads_141 : decode prog_10_method_17_code 141 = .ok (.getfield 26, 3) := by decide +kernel
theorem d_R_reads_144 : decode prog_10_method_17_code 144 = .ok (.aload_n 0, 1) := by decide +kernel
theorem d_R_reads_145 : decode prog_10_method_17_code 145 = .ok (.iload_n 1, 1) := by decide +kernel
theorem d_R_reads_146 : decode prog_10_method_17_code 146 = .ok (.iload 5, 2) := by decide +kernel
theorem d_R_reads_148 : decode prog_10_method_17_code 148 = .ok (.iload 4, 2) := by decide +kernel
theorem d_R_reads_150 : decode prog_10_method_17_code 150 = .ok (.invokevirtual 146, 3) := by decide +kernel
theorem d_R_reads_153 : decode prog_10_method_17_code 153 = .ok (.iaload, 1) := by decide +kernel
theorem d_R_reads_154 : decode prog_10_method_17_code 154 = .ok (.iastore, 1) := by decide +kernel
theorem d_R_reads_155 : decode prog_10_method_17_code 155 = .ok (.iinc 4 1, 3) := by decide +kernel
theorem d_R_reads_158 : decode prog_10_method_17_code 158 = .ok (.goto (-83), 3) := by decide +kernel
theorem d_R_reads_161 : decode prog_10_method_17_code 161 = .ok (.iload_n 2, 1) := by decide +kernel
theorem d_R_reads_162 : decode prog_10_method_17_code 162 = .ok (.istore 4, 2) := by decide +kernel
theorem d_R_reads_164 : decode prog_10_method_17_code 164 = .ok (.iload 4, 2) := by decide +kernel
theorem d_R_reads_166 : decode prog_10_method_17_code 166 = .ok (.iload_n 3, 1) := by decide +kernel
theorem d_R_reads_167 : decode prog_10_method_17_code 167 = .ok (.if_icmp .gt 42, 3) := by decide +kernel
theorem d_R_reads_170 : decode prog_10_method_17_code 170 = .ok (.aload_n 0, 1) := by decide +kernel
theorem d_R_reads_171 : decode prog_10_method_17_code 171 = .ok (.iload_n 1, 1) := by decide +kernel
theorem d_R_reads_172 : decode prog_10_method_17_code 172 = .ok (.iload 4, 2) := by decide +kernel
theorem d_R_reads_174 : decode prog_10_method_17_code 174 = .ok (.invokevirtual 131, 3) := by decide +kernel
theorem d_R_reads_177 : decode prog_10_method_17_code 177 = .ok (.istore 5, 2) := by decide +kernel
theorem d_R_reads_179 : decode prog_10_method_17_code 179 = .ok (.iload 5, 2) := by decide +kernel
theorem d_R_reads_181 : decode prog_10_method_17_code 181 = .ok (.ifCond .lt 22, 3) := by decide +kernel
theorem d_R_reads_184 : decode prog_10_method_17_code 184 = .ok (.aload_n 0, 1) := by decide +kernel
theorem d_R_reads_185 : decode prog_10_method_17_code 185 = .ok (.iload_n 1, 1) := by decide +kernel
theorem d_R_reads_186 : decode prog_10_method_17_code 186 = .ok (.iload 5, 2) := by decide +kernel
theorem d_R_reads_188 : decode prog_10_method_17_code 188 = .ok (.invokevirtual 125, 3) := by decide +kernel
theorem d_R_reads_191 : decode prog_10_method_17_code 191 = .ok (.iconst 1, 1) := by decide +kernel
theorem d_R_reads_192 : decode prog_10_method_17_code 192 = .ok (.if_icmp .ne 11, 3) := by decide +kernel
theorem d_R_reads_195 : decode prog_10_method_17_code 195 = .ok (.aload_n 0, 1) := by decide +kernel
theorem d_R_reads_196 : decode prog_10_method_17_code 196 = .ok (.iload_n 1, 1) := by decide +kernel
theorem d_R_reads_197 : decode prog_10_method_17_code 197 = .ok (.iload 5, 2) := by decide +kernel
theorem d_R_reads_199 : decode prog_10_method_17_code 199 = .ok (.iconst 0, 1) := by decide +kernel
theorem d_R_reads_200 : decode prog_10_method_17_code 200 = .ok (.invokevirtual 150, 3) := by decide +kernel
theorem d_R_reads_203 : decode prog_10_method_17_code 203 = .ok (.iinc 4 1, 3) := by decide +kernel
theorem d_R_reads_206 : decode prog_10_method_17_code 206 = .ok (.goto (-42), 3) := by decide +kernel
theorem d_R_reads_209 : decode prog_10_method_17_code 209 = .ok (.iconst 1, 1) := by decide +kernel
theorem d_R_reads_210 : decode prog_10_method_17_code 210 = .ok (.ireturn, 1) := by decide +kernel
theorem d_R_stays_0 : decode prog_10_method_22_code 0 = .ok (.aload_n 0, 1) := by decide +kernel
theorem d_R_stays_1 : decode prog_10_method_22_code 1 = .ok (.iload_n 1, 1) := by decide +kernel
theorem d_R_stays_2 : decode prog_10_method_22_code 2 = .ok (.iload_n 2, 1) := by decide +kernel
theorem d_R_stays_3 : decode prog_10_method_22_code 3 = .ok (.invokevirtual 131, 3) := by decide +kernel
theorem d_R_stays_6 : decode prog_10_method_22_code 6 = .ok (.istore_n 3, 1) := by decide +kernel
theorem d_R_stays_7 : decode prog_10_method_22_code 7 = .ok (.iload_n 3, 1) := by decide +kernel
theorem d_R_stays_8 : decode prog_10_method_22_code 8 = .ok (.ifCond .ge 12, 3) := by decide +kernel
theorem d_R_stays_11 : decode prog_10_method_22_code 11 = .ok (.aload_n 0, 1) := by decide +kernel
theorem d_R_stays_12 : decode prog_10_method_22_code 12 = .ok (.iload_n 1, 1) := by decide +kernel
theorem d_R_stays_13 : decode prog_10_method_22_code 13 = .ok (.iload_n 2, 1) := by decide +kernel
theorem d_R_stays_14 : decode prog_10_method_22_code 14 = .ok (.invokevirtual 111, 3) := by decide +kernel
theorem d_R_stays_17 : decode prog_10_method_22_code 17 = .ok (.goto 40, 3) := by decide +kernel
theorem d_R_stays_20 : decode prog_10_method_22_code 20 = .ok (.aload_n 0, 1) := by decide +kernel
theorem d_R_stays_21 : decode prog_10_method_22_code 21 = .ok (.iload_n 1, 1) := by decide +kernel
theorem d_R_stays_22 : decode prog_10_method_22_code 22 = .ok (.iload_n 3, 1) := by decide +kernel
theorem d_R_stays_23 : decode prog_10_method_22_code 23 = .ok (.invokevirtual 125, 3) := by decide +kernel
theorem d_R_stays_26 : decode prog_10_method_22_code 26 = .ok (.iconst 3, 1) := by decide +kernel
theorem d_R_stays_27 : decode prog_10_method_22_code 27 = .ok (.if_icmp .ne 18, 3) := by decide +kernel
theorem d_R_stays_30 : decode prog_10_method_22_code 30 = .ok (.aload_n 0, 1) := by decide +kernel
theorem d_R_stays_31 : decode prog_10_method_22_code 31 = .ok (.getfield 26, 3) := by decide +kernel
theorem d_R_stays_34 : decode prog_10_method_22_code 34 = .ok (.aload_n 0, 1) := by decide +kernel
theorem d_R_stays_35 : decode prog_10_method_22_code 35 = .ok (.iload_n 1, 1) := by decide +kernel
theorem d_R_stays_36 : decode prog_10_method_22_code 36 = .ok (.iload_n 3, 1) := by decide +kernel
theorem d_R_stays_37 : decode prog_10_method_22_code 37 = .ok (.iload_n 2, 1) := by decide +kernel
theorem d_R_stays_38 : decode prog_10_method_22_code 38 = .ok (.invokevirtual 146, 3) := by decide +kernel
theorem d_R_stays_41 : decode prog_10_method_22_code 41 = .ok (.iaload, 1) := by decide +kernel
theorem d_R_stays_42 : decode prog_10_method_22_code 42 = .ok (.goto 15, 3) := by decide +kernel
theorem d_R_stays_45 : decode prog_10_method_22_code 45 = .ok (.aload_n 0, 1) := by decide +kernel
theorem d_R_stays_46 : decode prog_10_method_22_code 46 = .ok (.getfield 23, 3) := by decide +kernel
theorem d_R_stays_49 : decode prog_10_method_22_code 49 = .ok (.aload_n 0, 1) := by decide +kernel
theorem d_R_stays_50 : decode prog_10_method_22_code 50 = .ok (.iload_n 1, 1) := by decide +kernel
theorem d_R_stays_51 : decode prog_10_method_22_code 51 = .ok (.iload_n 3, 1) := by decide +kernel
theorem d_R_stays_52 : decode prog_10_method_22_code 52 = .ok (.iload_n 2, 1) := by decide +kernel
theorem d_R_stays_53 : decode prog_10_method_22_code 53 = .ok (.invokevirtual 146, 3) := by decide +kernel
theorem d_R_stays_56 : decode prog_10_method_22_code 56 = .ok (.iaload, 1) := by decide +kernel
theorem d_R_stays_57 : decode prog_10_method_22_code 57 = .ok (.ireturn, 1) := by decide +kernel
theorem d_R_wipe_0 : decode prog_10_method_19_code 0 = .ok (.bipush 8, 2) := by decide +kernel
theorem d_R_wipe_2 : decode prog_10_method_19_code 2 = .ok (.iconst 4, 1) := by decide +kernel
theorem d_R_wipe_3 : decode prog_10_method_19_code 3 = .ok (.iload_n 1, 1) := by decide +kernel
theorem d_R_wipe_4 : decode prog_10_method_19_code 4 = .ok (.imul, 1) := by decide +kernel
theorem d_R_wipe_5 : decode prog_10_method_19_code 5 = .ok (.iload_n 2, 1) := by decide +kernel
theorem d_R_wipe_6 : decode prog_10_method_19_code 6 = .ok (.iadd, 1) := by decide +kernel
theorem d_R_wipe_7 : decode prog_10_method_19_code 7 = .ok (.imul, 1) := by decide +kernel
theorem d_R_wipe_8 : decode prog_10_method_19_code 8 = .ok (.istore_n 3, 1) := by decide +kernel
theorem d_R_wipe_9 : decode prog_10_method_19_code 9 = .ok (.iload_n 3, 1) := by decide +kernel
theorem d_R_wipe_10 : decode prog_10_method_19_code 10 = .ok (.bipush 8, 2) := by decide +kernel
theorem d_R_wipe_12 : decode prog_10_method_19_code 12 = .ok (.iconst 4, 1) := by decide +kernel
theorem d_R_wipe_13 : decode prog_10_method_19_code 13 = .ok (.iload_n 1, 1) := by decide +kernel
theorem d_R_wipe_14 : decode prog_10_method_19_code 14 = .ok (.imul, 1) := by decide +kernel
theorem d_R_wipe_15 : decode prog_10_method_19_code 15 = .ok (.iload_n 2, 1) := by decide +kernel
theorem d_R_wipe_16 : decode prog_10_method_19_code 16 = .ok (.iadd, 1) := by decide +kernel
theorem d_R_wipe_17 : decode prog_10_method_19_code 17 = .ok (.imul, 1) := by decide +kernel
theorem d_R_wipe_18 : decode prog_10_method_19_code 18 = .ok (.bipush 8, 2) := by decide +kernel
theorem d_R_wipe_20 : decode prog_10_method_19_code 20 = .ok (.iadd, 1) := by decide +kernel
theorem d_R_wipe_21 : decode prog_10_method_19_code 21 = .ok (.if_icmp .ge 23, 3) := by decide +kernel
theorem d_R_wipe_24 : decode prog_10_method_19_code 24 = .ok (.aload_n 0, 1) := by decide +kernel
theorem d_R_wipe_25 : decode prog_10_method_19_code 25 = .ok (.getfield 23, 3) := by decide +kernel
theorem d_R_wipe_28 : decode prog_10_method_19_code 28 = .ok (.iload_n 3, 1) := by decide +kernel
theorem d_R_wipe_29 : decode prog_10_method_19_code 29 = .ok (.iconst 0, 1) := by decide +kernel
theorem d_R_wipe_30 : decode prog_10_method_19_code 30 = .ok (.iastore, 1) := by decide +kernel
theorem d_R_wipe_31 : decode prog_10_method_19_code 31 = .ok (.aload_n 0, 1) := by decide +kernel
theorem d_R_wipe_32 : decode prog_10_method_19_code 32 = .ok (.getfield 26, 3) := by decide +kernel
theorem d_R_wipe_35 : decode prog_10_method_19_code 35 = .ok (.iload_n 3, 1) := by decide +kernel
theorem d_R_wipe_36 : decode prog_10_method_19_code 36 = .ok (.iconst 0, 1) := by decide +kernel
theorem d_R_wipe_37 : decode prog_10_method_19_code 37 = .ok (.iastore, 1) := by decide +kernel
theorem d_R_wipe_38 : decode prog_10_method_19_code 38 = .ok (.iinc 3 1, 3) := by decide +kernel
theorem d_R_wipe_41 : decode prog_10_method_19_code 41 = .ok (.goto (-32), 3) := by decide +kernel
theorem d_R_wipe_44 : decode prog_10_method_19_code 44 = .ok (.aload_n 0, 1) := by decide +kernel
theorem d_R_wipe_45 : decode prog_10_method_19_code 45 = .ok (.getfield 29, 3) := by decide +kernel
theorem d_R_wipe_48 : decode prog_10_method_19_code 48 = .ok (.iconst 4, 1) := by decide +kernel
theorem d_R_wipe_49 : decode prog_10_method_19_code 49 = .ok (.iload_n 1, 1) := by decide +kernel
theorem d_R_wipe_50 : decode prog_10_method_19_code 50 = .ok (.imul, 1) := by decide +kernel
theorem d_R_wipe_51 : decode prog_10_method_19_code 51 = .ok (.iload_n 2, 1) := by decide +kernel
theorem d_R_wipe_52 : decode prog_10_method_19_code 52 = .ok (.iadd, 1) := by decide +kernel
theorem d_R_wipe_53 : decode prog_10_method_19_code 53 = .ok (.iconst 0, 1) := by decide +kernel
theorem d_R_wipe_54 : decode prog_10_method_19_code 54 = .ok (.bastore, 1) := by decide +kernel
theorem d_R_wipe_55 : decode prog_10_method_19_code 55 = .ok (.aload_n 0, 1) := by decide +kernel
theorem d_R_wipe_56 : decode prog_10_method_19_code 56 = .ok (.iload_n 1, 1) := by decide +kernel
theorem d_R_wipe_57 : decode prog_10_method_19_code 57 = .ok (.iload_n 2, 1) := by decide +kernel
theorem d_R_wipe_58 : decode prog_10_method_19_code 58 = .ok (.iconst 0, 1) := by decide +kernel
theorem d_R_wipe_59 : decode prog_10_method_19_code 59 = .ok (.invokevirtual 150, 3) := by decide +kernel
theorem d_R_wipe_62 : decode prog_10_method_19_code 62 = .ok (.return_, 1) := by decide +kernel
theorem d_R_store_0 : decode prog_10_method_18_code 0 = .ok (.aload_n 0, 1) := by decide +kernel
theorem d_R_store_1 : decode prog_10_method_18_code 1 = .ok (.iload_n 1, 1) := by decide +kernel
theorem d_R_store_2 : decode prog_10_method_18_code 2 = .ok (.iload_n 2, 1) := by decide +kernel
theorem d_R_store_3 : decode prog_10_method_18_code 3 = .ok (.invokevirtual 131, 3) := by decide +kernel
theorem d_R_store_6 : decode prog_10_method_18_code 6 = .ok (.istore 4, 2) := by decide +kernel
theorem d_R_store_8 : decode prog_10_method_18_code 8 = .ok (.iload 4, 2) := by decide +kernel
theorem d_R_store_10 : decode prog_10_method_18_code 10 = .ok (.ifCond .lt 54, 3) := by decide +kernel
theorem d_R_store_13 : decode prog_10_method_18_code 13 = .ok (.aload_n 0, 1) := by decide +kernel
theorem d_R_store_14 : decode prog_10_method_18_code 14 = .ok (.iload_n 1, 1) := by decide +kernel
theorem d_R_store_15 : decode prog_10_method_18_code 15 = .ok (.iload 4, 2) := by decide +kernel
theorem d_R_store_17 : decode prog_10_method_18_code 17 = .ok (.invokevirtual 125, 3) := by decide +kernel
theorem d_R_store_20 : decode prog_10_method_18_code 20 = .ok (.iconst 3, 1) := by decide +kernel
theorem d_R_store_21 : decode prog_10_method_18_code 21 = .ok (.if_icmp .ne 28, 3) := by decide +kernel
theorem d_R_store_24 : decode prog_10_method_18_code 24 = .ok (.aload_n 0, 1) := by decide +kernel
theorem d_R_store_25 : decode prog_10_method_18_code 25 = .ok (.getfield 26, 3) := by decide +kernel
theorem d_R_store_28 : decode prog_10_method_18_code 28 = .ok (.aload_n 0, 1) := by decide +kernel
theorem d_R_store_29 : decode prog_10_method_18_code 29 = .ok (.iload_n 1, 1) := by decide +kernel
theorem d_R_store_30 : decode prog_10_method_18_code 30 = .ok (.iload 4, 2) := by decide +kernel
theorem d_R_store_32 : decode prog_10_method_18_code 32 = .ok (.iload_n 2, 1) := by decide +kernel
theorem d_R_store_33 : decode prog_10_method_18_code 33 = .ok (.invokevirtual 146, 3) := by decide +kernel
theorem d_R_store_36 : decode prog_10_method_18_code 36 = .ok (.iload_n 3, 1) := by decide +kernel
theorem d_R_store_37 : decode prog_10_method_18_code 37 = .ok (.iastore, 1) := by decide +kernel
theorem d_R_store_38 : decode prog_10_method_18_code 38 = .ok (.aload_n 0, 1) := by decide +kernel
theorem d_R_store_39 : decode prog_10_method_18_code 39 = .ok (.iload_n 1, 1) := by decide +kernel
theorem d_R_store_40 : decode prog_10_method_18_code 40 = .ok (.iload 4, 2) := by decide +kernel
theorem d_R_store_42 : decode prog_10_method_18_code 42 = .ok (.iconst 1, 1) := by decide +kernel
theorem d_R_store_43 : decode prog_10_method_18_code 43 = .ok (.invokevirtual 150, 3) := by decide +kernel
theorem d_R_store_46 : decode prog_10_method_18_code 46 = .ok (.goto 17, 3) := by decide +kernel
theorem d_R_store_49 : decode prog_10_method_18_code 49 = .ok (.aload_n 0, 1) := by decide +kernel
theorem d_R_store_50 : decode prog_10_method_18_code 50 = .ok (.getfield 23, 3) := by decide +kernel
theorem d_R_store_53 : decode prog_10_method_18_code 53 = .ok (.aload_n 0, 1) := by decide +kernel
theorem d_R_store_54 : decode prog_10_method_18_code 54 = .ok (.iload_n 1, 1) := by decide +kernel
theorem d_R_store_55 : decode prog_10_method_18_code 55 = .ok (.iload 4, 2) := by decide +kernel
theorem d_R_store_57 : decode prog_10_method_18_code 57 = .ok (.iload_n 2, 1) := by decide +kernel
theorem d_R_store_58 : decode prog_10_method_18_code 58 = .ok (.invokevirtual 146, 3) := by decide +kernel
theorem d_R_store_61 : decode prog_10_method_18_code 61 = .ok (.iload_n 3, 1) := by decide +kernel
theorem d_R_store_62 : decode prog_10_method_18_code 62 = .ok (.iastore, 1) := by decide +kernel
theorem d_R_store_63 : decode prog_10_method_18_code 63 = .ok (.return_, 1) := by decide +kernel
theorem d_R_store_64 : decode prog_10_method_18_code 64 = .ok (.iload_n 2, 1) := by decide +kernel
theorem d_R_store_65 : decode prog_10_method_18_code 65 = .ok (.iconst 2, 1) := by decide +kernel
theorem d_R_store_66 : decode prog_10_method_18_code 66 = .ok (.if_icmp .eq 20, 3) := by decide +kernel
theorem d_R_store_69 : decode prog_10_method_18_code 69 = .ok (.iload_n 2, 1) := by decide +kernel
theorem d_R_store_70 : decode prog_10_method_18_code 70 = .ok (.iconst 3, 1) := by decide +kernel
theorem d_R_store_71 : decode prog_10_method_18_code 71 = .ok (.if_icmp .eq 15, 3) := by decide +kernel
theorem d_R_store_74 : decode prog_10_method_18_code 74 = .ok (.iload_n 2, 1) := by decide +kernel
theorem d_R_store_75 : decode prog_10_method_18_code 75 = .ok (.bipush 48, 2) := by decide +kernel
theorem d_R_store_77 : decode prog_10_method_18_code 77 = .ok (.if_icmp .lt 10, 3) := by decide +kernel
theorem d_R_store_80 : decode prog_10_method_18_code 80 = .ok (.iload_n 2, 1) := by decide +kernel
theorem d_R_store_81 : decode prog_10_method_18_code 81 = .ok (.bipush 51, 2) := by decide +kernel
theorem d_R_store_83 : decode prog_10_method_18_code 83 = .ok (.if_icmp .gt 4, 3) := by decide +kernel
theorem d_R_store_86 : decode prog_10_method_18_code 86 = .ok (.return_, 1) := by decide +kernel
theorem d_R_store_87 : decode prog_10_method_18_code 87 = .ok (.aload_n 0, 1) := by decide +kernel
theorem d_R_store_88 : decode prog_10_method_18_code 88 = .ok (.getfield 20, 3) := by decide +kernel
theorem d_R_store_91 : decode prog_10_method_18_code 91 = .ok (.sipush 128, 3) := by decide +kernel
theorem d_R_store_94 : decode prog_10_method_18_code 94 = .ok (.iload_n 1, 1) := by decide +kernel
theorem d_R_store_95 : decode prog_10_method_18_code 95 = .ok (.imul, 1) := by decide +kernel
theorem d_R_store_96 : decode prog_10_method_18_code 96 = .ok (.iload_n 2, 1) := by decide +kernel
theorem d_R_store_97 : decode prog_10_method_18_code 97 = .ok (.iadd, 1) := by decide +kernel
theorem d_R_store_98 : decode prog_10_method_18_code 98 = .ok (.iload_n 3, 1) := by decide +kernel
theorem d_R_store_99 : decode prog_10_method_18_code 99 = .ok (.iastore, 1) := by decide +kernel
theorem d_R_store_100 : decode prog_10_method_18_code 100 = .ok (.iload_n 2, 1) := by decide +kernel
theorem d_R_store_101 : decode prog_10_method_18_code 101 = .ok (.iconst 1, 1) := by decide +kernel
theorem d_R_store_102 : decode prog_10_method_18_code 102 = .ok (.if_icmp .ne 10, 3) := by decide +kernel
theorem d_R_store_105 : decode prog_10_method_18_code 105 = .ok (.aload_n 0, 1) := by decide +kernel
theorem d_R_store_106 : decode prog_10_method_18_code 106 = .ok (.getfield 41, 3) := by decide +kernel
theorem d_R_store_109 : decode prog_10_method_18_code 109 = .ok (.iload_n 1, 1) := by decide +kernel
theorem d_R_store_110 : decode prog_10_method_18_code 110 = .ok (.iconst 1, 1) := by decide +kernel
theorem d_R_store_111 : decode prog_10_method_18_code 111 = .ok (.bastore, 1) := by decide +kernel
theorem d_R_store_112 : decode prog_10_method_18_code 112 = .ok (.iload_n 2, 1) := by decide +kernel
theorem d_R_store_113 : decode prog_10_method_18_code 113 = .ok (.bipush 32, 2) := by decide +kernel
theorem d_R_store_115 : decode prog_10_method_18_code 115 = .ok (.if_icmp .lt 20, 3) := by decide +kernel
theorem d_R_store_118 : decode prog_10_method_18_code 118 = .ok (.iload_n 2, 1) := by decide +kernel
theorem d_R_store_119 : decode prog_10_method_18_code 119 = .ok (.bipush 47, 2) := by decide +kernel
theorem d_R_store_121 : decode prog_10_method_18_code 121 = .ok (.if_icmp .gt 14, 3) := by decide +kernel
theorem d_R_store_124 : decode prog_10_method_18_code 124 = .ok (.aload_n 0, 1) := by decide +kernel
theorem d_R_store_125 : decode prog_10_method_18_code 125 = .ok (.iload_n 1, 1) := by decide +kernel
theorem d_R_store_126 : decode prog_10_method_18_code 126 = .ok (.iload_n 2, 1) := by decide +kernel
theorem d_R_store_127 : decode prog_10_method_18_code 127 = .ok (.bipush 32, 2) := by decide +kernel
theorem d_R_store_129 : decode prog_10_method_18_code 129 = .ok (.isub, 1) := by decide +kernel
theorem d_R_store_130 : decode prog_10_method_18_code 130 = .ok (.iconst 4, 1) := by decide +kernel
theorem d_R_store_131 : decode prog_10_method_18_code 131 = .ok (.idiv, 1) := by decide +kernel
theorem d_R_store_132 : decode prog_10_method_18_code 132 = .ok (.invokevirtual 154, 3) := by decide +kernel
theorem d_R_store_135 : decode prog_10_method_18_code 135 = .ok (.return_, 1) := by decide +kernel
theorem d_R_writes_0 : decode prog_10_method_20_code 0 = .ok (.iload_n 2, 1) := by decide +kernel
theorem d_R_writes_1 : decode prog_10_method_20_code 1 = .ok (.istore 4, 2) := by decide +kernel
theorem d_R_writes_3 : decode prog_10_method_20_code 3 = .ok (.iload 4, 2) := by decide +kernel
theorem d_R_writes_5 : decode prog_10_method_20_code 5 = .ok (.iload_n 3, 1) := by decide +kernel
theorem d_R_writes_6 : decode prog_10_method_20_code 6 = .ok (.if_icmp .gt 25, 3) := by decide +kernel
theorem d_R_writes_9 : decode prog_10_method_20_code 9 = .ok (.aload_n 0, 1) := by decide +kernel
theorem d_R_writes_10 : decode prog_10_method_20_code 10 = .ok (.iload_n 1, 1) := by decide +kernel
theorem d_R_writes_11 : decode prog_10_method_20_code 11 = .ok (.iload 4, 2) := by decide +kernel
theorem d_R_writes_13 : decode prog_10_method_20_code 13 = .ok (.aload_n 0, 1) := by decide +kernel
theorem d_R_writes_14 : decode prog_10_method_20_code 14 = .ok (.getfield 84, 3) := by decide +kernel
theorem d_R_writes_17 : decode prog_10_method_20_code 17 = .ok (.iload 4, 2) := by decide +kernel
theorem d_R_writes_19 : decode prog_10_method_20_code 19 = .ok (.iload_n 2, 1) := by decide +kernel
theorem d_R_writes_20 : decode prog_10_method_20_code 20 = .ok (.isub, 1) := by decide +kernel
theorem d_R_writes_21 : decode prog_10_method_20_code 21 = .ok (.iaload, 1) := by decide +kernel
theorem d_R_writes_22 : decode prog_10_method_20_code 22 = .ok (.invokevirtual 158, 3) := by decide +kernel
theorem d_R_writes_25 : decode prog_10_method_20_code 25 = .ok (.iinc 4 1, 3) := by decide +kernel
theorem d_R_writes_28 : decode prog_10_method_20_code 28 = .ok (.goto (-25), 3) := by decide +kernel
theorem d_R_writes_31 : decode prog_10_method_20_code 31 = .ok (.iload_n 2, 1) := by decide +kernel
theorem d_R_writes_32 : decode prog_10_method_20_code 32 = .ok (.istore 4, 2) := by decide +kernel
theorem d_R_writes_34 : decode prog_10_method_20_code 34 = .ok (.iload 4, 2) := by decide +kernel
theorem d_R_writes_36 : decode prog_10_method_20_code 36 = .ok (.iload_n 3, 1) := by decide +kernel
theorem d_R_writes_37 : decode prog_10_method_20_code 37 = .ok (.if_icmp .gt 99, 3) := by decide +kernel
theorem d_R_writes_40 : decode prog_10_method_20_code 40 = .ok (.aload_n 0, 1) := by decide +kernel
theorem d_R_writes_41 : decode prog_10_method_20_code 41 = .ok (.iload_n 1, 1) := by decide +kernel
theorem d_R_writes_42 : decode prog_10_method_20_code 42 = .ok (.iload 4, 2) := by decide +kernel
theorem d_R_writes_44 : decode prog_10_method_20_code 44 = .ok (.invokevirtual 131, 3) := by decide +kernel
theorem d_R_writes_47 : decode prog_10_method_20_code 47 = .ok (.istore 5, 2) := by decide +kernel
theorem d_R_writes_49 : decode prog_10_method_20_code 49 = .ok (.iload 5, 2) := by decide +kernel
theorem d_R_writes_51 : decode prog_10_method_20_code 51 = .ok (.ifCond .lt 79, 3) := by decide +kernel
theorem d_R_writes_54 : decode prog_10_method_20_code 54 = .ok (.aload_n 0, 1) := by decide +kernel
theorem d_R_writes_55 : decode prog_10_method_20_code 55 = .ok (.iload_n 1, 1) := by decide +kernel
theorem d_R_writes_56 : decode prog_10_method_20_code 56 = .ok (.iload 5, 2) := by decide +kernel
theorem d_R_writes_58 : decode prog_10_method_20_code 58 = .ok (.invokevirtual 125, 3) := by decide +kernel
theorem d_R_writes_61 : decode prog_10_method_20_code 61 = .ok (.iconst 2, 1) := by decide +kernel
theorem d_R_writes_62 : decode prog_10_method_20_code 62 = .ok (.if_icmp .ne 68, 3) := by decide +kernel
theorem d_R_writes_65 : decode prog_10_method_20_code 65 = .ok (.iload 4, 2) := by decide +kernel
theorem d_R_writes_67 : decode prog_10_method_20_code 67 = .ok (.aload_n 0, 1) := by decide +kernel
theorem d_R_writes_68 : decode prog_10_method_20_code 68 = .ok (.iload_n 1, 1) := by decide +kernel
theorem d_R_writes_69 : decode prog_10_method_20_code 69 = .ok (.iload 5, 2) := by decide +kernel
theorem d_R_writes_71 : decode prog_10_method_20_code 71 = .ok (.invokevirtual 118, 3) := by decide +kernel
theorem d_R_writes_74 : decode prog_10_method_20_code 74 = .ok (.aload_n 0, 1) := by decide +kernel
theorem d_R_writes_75 : decode prog_10_method_20_code 75 = .ok (.iload_n 1, 1) := by decide +kernel
theorem d_R_writes_76 : decode prog_10_method_20_code 76 = .ok (.iload 5, 2) := by decide +kernel
theorem d_R_writes_78 : decode prog_10_method_20_code 78 = .ok (.invokevirtual 115, 3) := by decide +kernel
theorem d_R_writes_81 : decode prog_10_method_20_code 81 = .ok (.iadd, 1) := by decide +kernel
theorem d_R_writes_82 : decode prog_10_method_20_code 82 = .ok (.iconst 1, 1) := by decide +kernel
theorem d_R_writes_83 : decode prog_10_method_20_code 83 = .ok (.isub, 1) := by decide +kernel
theorem d_R_writes_84 : decode prog_10_method_20_code 84 = .ok (.if_icmp .eq 6, 3) := by decide +kernel
theorem d_R_writes_87 : decode prog_10_method_20_code 87 = .ok (.goto 43, 3) := by decide +kernel
theorem d_R_writes_90 : decode prog_10_method_20_code 90 = .ok (.aload_n 0, 1) := by decide +kernel
theorem d_R_writes_91 : decode prog_10_method_20_code 91 = .ok (.iload_n 1, 1) := by decide +kernel
theorem d_R_writes_92 : decode prog_10_method_20_code 92 = .ok (.iload 5, 2) := by decide +kernel
theorem d_R_writes_94 : decode prog_10_method_20_code 94 = .ok (.iconst 1, 1) := by decide +kernel
theorem d_R_writes_95 : decode prog_10_method_20_code 95 = .ok (.invokevirtual 142, 3) := by decide +kernel
theorem d_R_writes_98 : decode prog_10_method_20_code 98 = .ok (.aload_n 0, 1) := by decide +kernel
theorem d_R_writes_99 : decode prog_10_method_20_code 99 = .ok (.getfield 29, 3) := by decide +kernel
theorem d_R_writes_102 : decode prog_10_method_20_code 102 = .ok (.iconst 4, 1) := by decide +kernel
theorem d_R_writes_103 : decode prog_10_method_20_code 103 = .ok (.iload_n 1, 1) := by decide +kernel
theorem d_R_writes_104 : decode prog_10_method_20_code 104 = .ok (.imul, 1) := by decide +kernel
theorem d_R_writes_105 : decode prog_10_method_20_code 105 = .ok (.iload 5, 2) := by decide +kernel
theorem d_R_writes_107 : decode prog_10_method_20_code 107 = .ok (.iadd, 1) := by decide +kernel
theorem d_R_writes_108 : decode prog_10_method_20_code 108 = .ok (.iconst 1, 1) := by decide +kernel
theorem d_R_writes_109 : decode prog_10_method_20_code 109 = .ok (.bastore, 1) := by decide +kernel
theorem d_R_writes_110 : decode prog_10_method_20_code 110 = .ok (.iload 5, 2) := by decide +kernel
theorem d_R_writes_112 : decode prog_10_method_20_code 112 = .ok (.iconst 2, 1) := by decide +kernel
theorem d_R_writes_113 : decode prog_10_method_20_code 113 = .ok (.if_icmp .ne 17, 3) := by decide +kernel
theorem d_R_writes_116 : decode prog_10_method_20_code 116 = .ok (.aload_n 0, 1) := by decide +kernel
theorem d_R_writes_117 : decode prog_10_method_20_code 117 = .ok (.getfield 47, 3) := by decide +kernel
theorem d_R_writes_120 : decode prog_10_method_20_code 120 = .ok (.iload_n 1, 1) := by decide +kernel
theorem d_R_writes_121 : decode prog_10_method_20_code 121 = .ok (.iconst 0, 1) := by decide +kernel
theorem d_R_writes_122 : decode prog_10_method_20_code 122 = .ok (.iastore, 1) := by decide +kernel
theorem d_R_writes_123 : decode prog_10_method_20_code 123 = .ok (.aload_n 0, 1) := by decide +kernel
theorem d_R_writes_124 : decode prog_10_method_20_code 124 = .ok (.getfield 44, 3) := by decide +kernel
theorem d_R_writes_127 : decode prog_10_method_20_code 127 = .ok (.iload_n 1, 1) := by decide +kernel
theorem d_R_writes_128 : decode prog_10_method_20_code 128 = .ok (.iconst 1, 1) := by decide +kernel
theorem d_R_writes_129 : decode prog_10_method_20_code 129 = .ok (.bastore, 1) := by decide +kernel
theorem d_R_writes_130 : decode prog_10_method_20_code 130 = .ok (.iinc 4 1, 3) := by decide +kernel
theorem d_R_writes_133 : decode prog_10_method_20_code 133 = .ok (.goto (-99), 3) := by decide +kernel
theorem d_R_writes_136 : decode prog_10_method_20_code 136 = .ok (.return_, 1) := by decide +kernel
theorem d_R_map_0 : decode prog_10_method_23_code 0 = .ok (.bipush 8, 2) := by decide +kernel
theorem d_R_map_2 : decode prog_10_method_23_code 2 = .ok (.bipush 6, 2) := by decide +kernel
theorem d_R_map_4 : decode prog_10_method_23_code 4 = .ok (.iload_n 3, 1) := by decide +kernel
theorem d_R_map_5 : decode prog_10_method_23_code 5 = .ok (.imul, 1) := by decide +kernel
theorem d_R_map_6 : decode prog_10_method_23_code 6 = .ok (.iadd, 1) := by decide +kernel
theorem d_R_map_7 : decode prog_10_method_23_code 7 = .ok (.istore 4, 2) := by decide +kernel
theorem d_R_map_9 : decode prog_10_method_23_code 9 = .ok (.aload_n 0, 1) := by decide +kernel
theorem d_R_map_10 : decode prog_10_method_23_code 10 = .ok (.iload_n 1, 1) := by decide +kernel
theorem d_R_map_11 : decode prog_10_method_23_code 11 = .ok (.iload 4, 2) := by decide +kernel
theorem d_R_map_13 : decode prog_10_method_23_code 13 = .ok (.iconst 2, 1) := by decide +kernel
theorem d_R_map_14 : decode prog_10_method_23_code 14 = .ok (.iadd, 1) := by decide +kernel
theorem d_R_map_15 : decode prog_10_method_23_code 15 = .ok (.invokevirtual 111, 3) := by decide +kernel
theorem d_R_map_18 : decode prog_10_method_23_code 18 = .ok (.istore 5, 2) := by decide +kernel
theorem d_R_map_20 : decode prog_10_method_23_code 20 = .ok (.iload 5, 2) := by decide +kernel
theorem d_R_map_22 : decode prog_10_method_23_code 22 = .ok (.iconst 1, 1) := by decide +kernel
theorem d_R_map_23 : decode prog_10_method_23_code 23 = .ok (.if_icmp .lt 10, 3) := by decide +kernel
theorem d_R_map_26 : decode prog_10_method_23_code 26 = .ok (.iload 5, 2) := by decide +kernel
theorem d_R_map_28 : decode prog_10_method_23_code 28 = .ok (.bipush 64, 2) := by decide +kernel
theorem d_R_map_30 : decode prog_10_method_23_code 30 = .ok (.if_icmp .le 4, 3) := by decide +kernel
theorem d_R_map_33 : decode prog_10_method_23_code 33 = .ok (.return_, 1) := by decide +kernel
theorem d_R_map_34 : decode prog_10_method_23_code 34 = .ok (.bipush 8, 2) := by decide +kernel
theorem d_R_map_36 : decode prog_10_method_23_code 36 = .ok (.aload_n 0, 1) := by decide +kernel
theorem d_R_map_37 : decode prog_10_method_23_code 37 = .ok (.iload_n 1, 1) := by decide +kernel
theorem d_R_map_38 : decode prog_10_method_23_code 38 = .ok (.iload 4, 2) := by decide +kernel
theorem d_R_map_40 : decode prog_10_method_23_code 40 = .ok (.invokevirtual 111, 3) := by decide +kernel
theorem d_R_map_43 : decode prog_10_method_23_code 43 = .ok (.imul, 1) := by decide +kernel
theorem d_R_map_44 : decode prog_10_method_23_code 44 = .ok (.aload_n 0, 1) := by decide +kernel
theorem d_R_map_45 : decode prog_10_method_23_code 45 = .ok (.iload_n 1, 1) := by decide +kernel
theorem d_R_map_46 : decode prog_10_method_23_code 46 = .ok (.iload 4, 2) := by decide +kernel
theorem d_R_map_48 : decode prog_10_method_23_code 48 = .ok (.iconst 1, 1) := by decide +kernel
theorem d_R_map_49 : decode prog_10_method_23_code 49 = .ok (.iadd, 1) := by decide +kernel
theorem d_R_map_50 : decode prog_10_method_23_code 50 = .ok (.invokevirtual 111, 3) := by decide +kernel
theorem d_R_map_53 : decode prog_10_method_23_code 53 = .ok (.bipush 7, 2) := by decide +kernel
theorem d_R_map_55 : decode prog_10_method_23_code 55 = .ok (.iand, 1) := by decide +kernel
theorem d_R_map_56 : decode prog_10_method_23_code 56 = .ok (.iadd, 1) := by decide +kernel
theorem d_R_map_57 : decode prog_10_method_23_code 57 = .ok (.istore 6, 2) := by decide +kernel
theorem d_R_map_59 : decode prog_10_method_23_code 59 = .ok (.bipush 8, 2) := by decide +kernel
theorem d_R_map_61 : decode prog_10_method_23_code 61 = .ok (.aload_n 0, 1) := by decide +kernel
theorem d_R_map_62 : decode prog_10_method_23_code 62 = .ok (.iload_n 1, 1) := by decide +kernel
theorem d_R_map_63 : decode prog_10_method_23_code 63 = .ok (.iload 4, 2) := by decide +kernel
theorem d_R_map_65 : decode prog_10_method_23_code 65 = .ok (.iconst 3, 1) := by decide +kernel
theorem d_R_map_66 : decode prog_10_method_23_code 66 = .ok (.iadd, 1) := by decide +kernel
theorem d_R_map_67 : decode prog_10_method_23_code 67 = .ok (.invokevirtual 111, 3) := by decide +kernel
theorem d_R_map_70 : decode prog_10_method_23_code 70 = .ok (.imul, 1) := by decide +kernel
theorem d_R_map_71 : decode prog_10_method_23_code 71 = .ok (.aload_n 0, 1) := by decide +kernel
theorem d_R_map_72 : decode prog_10_method_23_code 72 = .ok (.iload_n 1, 1) := by decide +kernel
theorem d_R_map_73 : decode prog_10_method_23_code 73 = .ok (.iload 4, 2) := by decide +kernel
theorem d_R_map_75 : decode prog_10_method_23_code 75 = .ok (.iconst 4, 1) := by decide +kernel
theorem d_R_map_76 : decode prog_10_method_23_code 76 = .ok (.iadd, 1) := by decide +kernel
theorem d_R_map_77 : decode prog_10_method_23_code 77 = .ok (.invokevirtual 111, 3) := by decide +kernel
theorem d_R_map_80 : decode prog_10_method_23_code 80 = .ok (.bipush 7, 2) := by decide +kernel
theorem d_R_map_82 : decode prog_10_method_23_code 82 = .ok (.iand, 1) := by decide +kernel
theorem d_R_map_83 : decode prog_10_method_23_code 83 = .ok (.iadd, 1) := by decide +kernel
theorem d_R_map_84 : decode prog_10_method_23_code 84 = .ok (.istore 7, 2) := by decide +kernel
theorem d_R_map_86 : decode prog_10_method_23_code 86 = .ok (.bipush 8, 2) := by decide +kernel
theorem d_R_map_88 : decode prog_10_method_23_code 88 = .ok (.aload_n 0, 1) := by decide +kernel
theorem d_R_map_89 : decode prog_10_method_23_code 89 = .ok (.getfield 69, 3) := by decide +kernel
theorem d_R_map_92 : decode prog_10_method_23_code 92 = .ok (.iload_n 2, 1) := by decide +kernel
theorem d_R_map_93 : decode prog_10_method_23_code 93 = .ok (.iaload, 1) := by decide +kernel
theorem d_R_map_94 : decode prog_10_method_23_code 94 = .ok (.imul, 1) := by decide +kernel
theorem d_R_map_95 : decode prog_10_method_23_code 95 = .ok (.istore 8, 2) := by decide +kernel
theorem d_R_map_97 : decode prog_10_method_23_code 97 = .ok (.iload 6, 2) := by decide +kernel
theorem d_R_map_99 : decode prog_10_method_23_code 99 = .ok (.iload 8, 2) := by decide +kernel
theorem d_R_map_101 : decode prog_10_method_23_code 101 = .ok (.if_icmp .le 8, 3) := by decide +kernel
theorem d_R_map_104 : decode prog_10_method_23_code 104 = .ok (.iload 6, 2) := by decide +kernel
theorem d_R_map_106 : decode prog_10_method_23_code 106 = .ok (.goto 5, 3) := by decide +kernel
theorem d_R_map_109 : decode prog_10_method_23_code 109 = .ok (.iload 8, 2) := by decide +kernel
theorem d_R_map_111 : decode prog_10_method_23_code 111 = .ok (.istore 9, 2) := by decide +kernel
theorem d_R_map_113 : decode prog_10_method_23_code 113 = .ok (.iload 8, 2) := by decide +kernel
theorem d_R_map_115 : decode prog_10_method_23_code 115 = .ok (.bipush 8, 2) := by decide +kernel
theorem d_R_map_117 : decode prog_10_method_23_code 117 = .ok (.aload_n 0, 1) := by decide +kernel
theorem d_R_map_118 : decode prog_10_method_23_code 118 = .ok (.getfield 75, 3) := by decide +kernel
theorem d_R_map_121 : decode prog_10_method_23_code 121 = .ok (.iload_n 2, 1) := by decide +kernel
theorem d_R_map_122 : decode prog_10_method_23_code 122 = .ok (.iaload, 1) := by decide +kernel
theorem d_R_map_123 : decode prog_10_method_23_code 123 = .ok (.imul, 1) := by decide +kernel
theorem d_R_map_124 : decode prog_10_method_23_code 124 = .ok (.iadd, 1) := by decide +kernel
theorem d_R_map_125 : decode prog_10_method_23_code 125 = .ok (.istore 10, 2) := by decide +kernel
theorem d_R_map_127 : decode prog_10_method_23_code 127 = .ok (.iload 6, 2) := by decide +kernel
theorem d_R_map_129 : decode prog_10_method_23_code 129 = .ok (.iload 5, 2) := by decide +kernel
theorem d_R_map_131 : decode prog_10_method_23_code 131 = .ok (.iadd, 1) := by decide +kernel
theorem d_R_map_132 : decode prog_10_method_23_code 132 = .ok (.iload 10, 2) := by decide +kernel
theorem d_R_map_134 : decode prog_10_method_23_code 134 = .ok (.if_icmp .ge 11, 3) := by decide +kernel
theorem d_R_map_137 : decode prog_10_method_23_code 137 = .ok (.iload 6, 2) := by decide +kernel
theorem d_R_map_139 : decode prog_10_method_23_code 139 = .ok (.iload 5, 2) := by decide +kernel
theorem d_R_map_141 : decode prog_10_method_23_code 141 = .ok (.iadd, 1) := by decide +kernel
theorem d_R_map_142 : decode prog_10_method_23_code 142 = .ok (.goto 5, 3) := by decide +kernel
theorem d_R_map_145 : decode prog_10_method_23_code 145 = .ok (.iload 10, 2) := by decide +kernel
theorem d_R_map_147 : decode prog_10_method_23_code 147 = .ok (.istore 11, 2) := by decide +kernel
theorem d_R_map_149 : decode prog_10_method_23_code 149 = .ok (.iload 9, 2) := by decide +kernel
theorem d_R_map_151 : decode prog_10_method_23_code 151 = .ok (.iload 11, 2) := by decide +kernel
theorem d_R_map_153 : decode prog_10_method_23_code 153 = .ok (.if_icmp .lt 4, 3) := by decide +kernel
theorem d_R_map_156 : decode prog_10_method_23_code 156 = .ok (.return_, 1) := by decide +kernel
theorem d_R_map_157 : decode prog_10_method_23_code 157 = .ok (.iload 7, 2) := by decide +kernel
theorem d_R_map_159 : decode prog_10_method_23_code 159 = .ok (.iload 9, 2) := by decide +kernel
theorem d_R_map_161 : decode prog_10_method_23_code 161 = .ok (.iadd, 1) := by decide +kernel
theorem d_R_map_162 : decode prog_10_method_23_code 162 = .ok (.iload 6, 2) := by decide +kernel
theorem d_R_map_164 : decode prog_10_method_23_code 164 = .ok (.isub, 1) := by decide +kernel
theorem d_R_map_165 : decode prog_10_method_23_code 165 = .ok (.bipush 8, 2) := by decide +kernel
theorem d_R_map_167 : decode prog_10_method_23_code 167 = .ok (.idiv, 1) := by decide +kernel
theorem d_R_map_168 : decode prog_10_method_23_code 168 = .ok (.istore 12, 2) := by decide +kernel
theorem d_R_map_170 : decode prog_10_method_23_code 170 = .ok (.iload 7, 2) := by decide +kernel
theorem d_R_map_172 : decode prog_10_method_23_code 172 = .ok (.iload 11, 2) := by decide +kernel
theorem d_R_map_174 : decode prog_10_method_23_code 174 = .ok (.iadd, 1) := by decide +kernel
theorem d_R_map_175 : decode prog_10_method_23_code 175 = .ok (.iconst 1, 1) := by decide +kernel
theorem d_R_map_176 : decode prog_10_method_23_code 176 = .ok (.isub, 1) := by decide +kernel
theorem d_R_map_177 : decode prog_10_method_23_code 177 = .ok (.iload 6, 2) := by decide +kernel
theorem d_R_map_179 : decode prog_10_method_23_code 179 = .ok (.isub, 1) := by decide +kernel
theorem d_R_map_180 : decode prog_10_method_23_code 180 = .ok (.bipush 8, 2) := by decide +kernel
theorem d_R_map_182 : decode prog_10_method_23_code 182 = .ok (.idiv, 1) := by decide +kernel
theorem d_R_map_183 : decode prog_10_method_23_code 183 = .ok (.istore 13, 2) := by decide +kernel
theorem d_R_map_185 : decode prog_10_method_23_code 185 = .ok (.iload 13, 2) := by decide +kernel
theorem d_R_map_187 : decode prog_10_method_23_code 187 = .ok (.bipush 127, 2) := by decide +kernel
theorem d_R_map_189 : decode prog_10_method_23_code 189 = .ok (.if_icmp .le 4, 3) := by decide +kernel
theorem d_R_map_192 : decode prog_10_method_23_code 192 = .ok (.return_, 1) := by decide +kernel
theorem d_R_map_193 : decode prog_10_method_23_code 193 = .ok (.iload 7, 2) := by decide +kernel
theorem d_R_map_195 : decode prog_10_method_23_code 195 = .ok (.iload 6, 2) := by decide +kernel
theorem d_R_map_197 : decode prog_10_method_23_code 197 = .ok (.isub, 1) := by decide +kernel
theorem d_R_map_198 : decode prog_10_method_23_code 198 = .ok (.istore 14, 2) := by decide +kernel
theorem d_R_map_200 : decode prog_10_method_23_code 200 = .ok (.aload_n 0, 1) := by decide +kernel
theorem d_R_map_201 : decode prog_10_method_23_code 201 = .ok (.iload_n 1, 1) := by decide +kernel
theorem d_R_map_202 : decode prog_10_method_23_code 202 = .ok (.iload 4, 2) := by decide +kernel
theorem d_R_map_204 : decode prog_10_method_23_code 204 = .ok (.iconst 5, 1) := by decide +kernel
theorem d_R_map_205 : decode prog_10_method_23_code 205 = .ok (.iadd, 1) := by decide +kernel
theorem d_R_map_206 : decode prog_10_method_23_code 206 = .ok (.invokevirtual 111, 3) := by decide +kernel
theorem d_R_map_209 : decode prog_10_method_23_code 209 = .ok (.iconst 1, 1) := by decide +kernel
theorem d_R_map_210 : decode prog_10_method_23_code 210 = .ok (.iand, 1) := by decide +kernel
theorem d_R_map_211 : decode prog_10_method_23_code 211 = .ok (.iconst 1, 1) := by decide +kernel
theorem d_R_map_212 : decode prog_10_method_23_code 212 = .ok (.if_icmp .ne 132, 3) := by decide +kernel
theorem d_R_map_215 : decode prog_10_method_23_code 215 = .ok (.aload_n 0, 1) := by decide +kernel
theorem d_R_map_216 : decode prog_10_method_23_code 216 = .ok (.getfield 66, 3) := by decide +kernel
theorem d_R_map_219 : decode prog_10_method_23_code 219 = .ok (.iload_n 2, 1) := by decide +kernel
theorem d_R_map_220 : decode prog_10_method_23_code 220 = .ok (.iaload, 1) := by decide +kernel
theorem d_R_map_221 : decode prog_10_method_23_code 221 = .ok (.bipush 11, 2) := by decide +kernel
theorem d_R_map_223 : decode prog_10_method_23_code 223 = .ok (.if_icmp .eq 121, 3) := by decide +kernel
theorem d_R_map_226 : decode prog_10_method_23_code 226 = .ok (.aload_n 0, 1) := by decide +kernel
theorem d_R_map_227 : decode prog_10_method_23_code 227 = .ok (.iload_n 1, 1) := by decide +kernel
theorem d_R_map_228 : decode prog_10_method_23_code 228 = .ok (.iload 12, 2) := by decide +kernel
theorem d_R_map_230 : decode prog_10_method_23_code 230 = .ok (.iload 13, 2) := by decide +kernel
theorem d_R_map_232 : decode prog_10_method_23_code 232 = .ok (.invokevirtual 161, 3) := by decide +kernel
theorem d_R_map_235 : decode prog_10_method_23_code 235 = .ok (.ifCond .eq 109, 3) := by decide +kernel
theorem d_R_map_238 : decode prog_10_method_23_code 238 = .ok (.aload_n 0, 1) := by decide +kernel
theorem d_R_map_239 : decode prog_10_method_23_code 239 = .ok (.iconst 1, 1) := by decide +kernel
theorem d_R_map_240 : decode prog_10_method_23_code 240 = .ok (.putfield 168, 3) := by decide +kernel
theorem d_R_map_243 : decode prog_10_method_23_code 243 = .ok (.iload 9, 2) := by decide +kernel
theorem d_R_map_245 : decode prog_10_method_23_code 245 = .ok (.istore 15, 2) := by decide +kernel
theorem d_R_map_247 : decode prog_10_method_23_code 247 = .ok (.iload 15, 2) := by decide +kernel
theorem d_R_map_249 : decode prog_10_method_23_code 249 = .ok (.iload 11, 2) := by decide +kernel
theorem d_R_map_251 : decode prog_10_method_23_code 251 = .ok (.if_icmp .ge 93, 3) := by decide +kernel
theorem d_R_map_254 : decode prog_10_method_23_code 254 = .ok (.iload 15, 2) := by decide +kernel
theorem d_R_map_256 : decode prog_10_method_23_code 256 = .ok (.iload 14, 2) := by decide +kernel
theorem d_R_map_258 : decode prog_10_method_23_code 258 = .ok (.iadd, 1) := by decide +kernel
theorem d_R_map_259 : decode prog_10_method_23_code 259 = .ok (.istore 16, 2) := by decide +kernel
theorem d_R_map_261 : decode prog_10_method_23_code 261 = .ok (.aload_n 0, 1) := by decide +kernel
theorem d_R_map_262 : decode prog_10_method_23_code 262 = .ok (.getfield 84, 3) := by decide +kernel
theorem d_R_map_265 : decode prog_10_method_23_code 265 = .ok (.iload 16, 2) := by decide +kernel
theorem d_R_map_267 : decode prog_10_method_23_code 267 = .ok (.bipush 8, 2) := by decide +kernel
theorem d_R_map_269 : decode prog_10_method_23_code 269 = .ok (.idiv, 1) := by decide +kernel
theorem d_R_map_270 : decode prog_10_method_23_code 270 = .ok (.iload 12, 2) := by decide +kernel
theorem d_R_map_272 : decode prog_10_method_23_code 272 = .ok (.isub, 1) := by decide +kernel
theorem d_R_map_273 : decode prog_10_method_23_code 273 = .ok (.iaload, 1) := by decide +kernel
theorem d_R_map_274 : decode prog_10_method_23_code 274 = .ok (.iload 16, 2) := by decide +kernel
theorem d_R_map_276 : decode prog_10_method_23_code 276 = .ok (.bipush 8, 2) := by decide +kernel
theorem d_R_map_278 : decode prog_10_method_23_code 278 = .ok (.irem, 1) := by decide +kernel
theorem d_R_map_279 : decode prog_10_method_23_code 279 = .ok (.ishr, 1) := by decide +kernel
theorem d_R_map_280 : decode prog_10_method_23_code 280 = .ok (.iconst 1, 1) := by decide +kernel
theorem d_R_map_281 : decode prog_10_method_23_code 281 = .ok (.iand, 1) := by decide +kernel
theorem d_R_map_282 : decode prog_10_method_23_code 282 = .ok (.istore 17, 2) := by decide +kernel
theorem d_R_map_284 : decode prog_10_method_23_code 284 = .ok (.bipush 8, 2) := by decide +kernel
theorem d_R_map_286 : decode prog_10_method_23_code 286 = .ok (.iload_n 2, 1) := by decide +kernel
theorem d_R_map_287 : decode prog_10_method_23_code 287 = .ok (.imul, 1) := by decide +kernel
theorem d_R_map_288 : decode prog_10_method_23_code 288 = .ok (.iload 15, 2) := by decide +kernel
theorem d_R_map_290 : decode prog_10_method_23_code 290 = .ok (.iload 8, 2) := by decide +kernel
theorem d_R_map_292 : decode prog_10_method_23_code 292 = .ok (.isub, 1) := by decide +kernel
theorem d_R_map_293 : decode prog_10_method_23_code 293 = .ok (.bipush 8, 2) := by decide +kernel
theorem d_R_map_295 : decode prog_10_method_23_code 295 = .ok (.idiv, 1) := by decide +kernel
theorem d_R_map_296 : decode prog_10_method_23_code 296 = .ok (.iadd, 1) := by decide +kernel
theorem d_R_map_297 : decode prog_10_method_23_code 297 = .ok (.istore 18, 2) := by decide +kernel
theorem d_R_map_299 : decode prog_10_method_23_code 299 = .ok (.aload_n 0, 1) := by decide +kernel
theorem d_R_map_300 : decode prog_10_method_23_code 300 = .ok (.getfield 81, 3) := by decide +kernel
theorem d_R_map_303 : decode prog_10_method_23_code 303 = .ok (.iload 18, 2) := by decide +kernel
theorem d_R_map_305 : decode prog_10_method_23_code 305 = .ok (.aload_n 0, 1) := by decide +kernel
theorem d_R_map_306 : decode prog_10_method_23_code 306 = .ok (.getfield 81, 3) := by decide +kernel
theorem d_R_map_309 : decode prog_10_method_23_code 309 = .ok (.iload 18, 2) := by decide +kernel
theorem d_R_map_311 : decode prog_10_method_23_code 311 = .ok (.iaload, 1) := by decide +kernel
theorem d_R_map_312 : decode prog_10_method_23_code 312 = .ok (.iconst 1, 1) := by decide +kernel
theorem d_R_map_313 : decode prog_10_method_23_code 313 = .ok (.iload 15, 2) := by decide +kernel
theorem d_R_map_315 : decode prog_10_method_23_code 315 = .ok (.iload 8, 2) := by decide +kernel
theorem d_R_map_317 : decode prog_10_method_23_code 317 = .ok (.isub, 1) := by decide +kernel
theorem d_R_map_318 : decode prog_10_method_23_code 318 = .ok (.bipush 8, 2) := by decide +kernel
theorem d_R_map_320 : decode prog_10_method_23_code 320 = .ok (.irem, 1) := by decide +kernel
theorem d_R_map_321 : decode prog_10_method_23_code 321 = .ok (.ishl, 1) := by decide +kernel
theorem d_R_map_322 : decode prog_10_method_23_code 322 = .ok (.iconst (-1), 1) := by decide +kernel
theorem d_R_map_323 : decode prog_10_method_23_code 323 = .ok (.ixor, 1) := by decide +kernel
theorem d_R_map_324 : decode prog_10_method_23_code 324 = .ok (.iand, 1) := by decide +kernel
theorem d_R_map_325 : decode prog_10_method_23_code 325 = .ok (.iload 17, 2) := by decide +kernel
theorem d_R_map_327 : decode prog_10_method_23_code 327 = .ok (.iload 15, 2) := by decide +kernel
theorem d_R_map_329 : decode prog_10_method_23_code 329 = .ok (.iload 8, 2) := by decide +kernel
theorem d_R_map_331 : decode prog_10_method_23_code 331 = .ok (.isub, 1) := by decide +kernel
theorem d_R_map_332 : decode prog_10_method_23_code 332 = .ok (.bipush 8, 2) := by decide +kernel
theorem d_R_map_334 : decode prog_10_method_23_code 334 = .ok (.irem, 1) := by decide +kernel
theorem d_R_map_335 : decode prog_10_method_23_code 335 = .ok (.ishl, 1) := by decide +kernel
theorem d_R_map_336 : decode prog_10_method_23_code 336 = .ok (.ior, 1) := by decide +kernel
theorem d_R_map_337 : decode prog_10_method_23_code 337 = .ok (.iastore, 1) := by decide +kernel
theorem d_R_map_338 : decode prog_10_method_23_code 338 = .ok (.iinc 15 1, 3) := by decide +kernel
theorem d_R_map_341 : decode prog_10_method_23_code 341 = .ok (.goto (-94), 3) := by decide +kernel
theorem d_R_map_344 : decode prog_10_method_23_code 344 = .ok (.aload_n 0, 1) := by decide +kernel
theorem d_R_map_345 : decode prog_10_method_23_code 345 = .ok (.iload_n 1, 1) := by decide +kernel
theorem d_R_map_346 : decode prog_10_method_23_code 346 = .ok (.iload 4, 2) := by decide +kernel
theorem d_R_map_348 : decode prog_10_method_23_code 348 = .ok (.iconst 5, 1) := by decide +kernel
theorem d_R_map_349 : decode prog_10_method_23_code 349 = .ok (.iadd, 1) := by decide +kernel
theorem d_R_map_350 : decode prog_10_method_23_code 350 = .ok (.invokevirtual 111, 3) := by decide +kernel
theorem d_R_map_353 : decode prog_10_method_23_code 353 = .ok (.iconst 2, 1) := by decide +kernel
theorem d_R_map_354 : decode prog_10_method_23_code 354 = .ok (.iand, 1) := by decide +kernel
theorem d_R_map_355 : decode prog_10_method_23_code 355 = .ok (.iconst 2, 1) := by decide +kernel
theorem d_R_map_356 : decode prog_10_method_23_code 356 = .ok (.if_icmp .ne 170, 3) := by decide +kernel
theorem d_R_map_359 : decode prog_10_method_23_code 359 = .ok (.aload_n 0, 1) := by decide +kernel
theorem d_R_map_360 : decode prog_10_method_23_code 360 = .ok (.getfield 66, 3) := by decide +kernel
theorem d_R_map_363 : decode prog_10_method_23_code 363 = .ok (.iload_n 2, 1) := by decide +kernel
theorem d_R_map_364 : decode prog_10_method_23_code 364 = .ok (.iaload, 1) := by decide +kernel
theorem d_R_map_365 : decode prog_10_method_23_code 365 = .ok (.bipush 10, 2) := by decide +kernel
theorem d_R_map_367 : decode prog_10_method_23_code 367 = .ok (.if_icmp .eq 159, 3) := by decide +kernel
theorem d_R_map_370 : decode prog_10_method_23_code 370 = .ok (.aload_n 0, 1) := by decide +kernel
theorem d_R_map_371 : decode prog_10_method_23_code 371 = .ok (.iload_n 1, 1) := by decide +kernel
theorem d_R_map_372 : decode prog_10_method_23_code 372 = .ok (.iload 12, 2) := by decide +kernel
theorem d_R_map_374 : decode prog_10_method_23_code 374 = .ok (.iload 13, 2) := by decide +kernel
theorem d_R_map_376 : decode prog_10_method_23_code 376 = .ok (.iconst 1, 1) := by decide +kernel
theorem d_R_map_377 : decode prog_10_method_23_code 377 = .ok (.invokevirtual 138, 3) := by decide +kernel
theorem d_R_map_380 : decode prog_10_method_23_code 380 = .ok (.ifCond .eq 146, 3) := by decide +kernel
theorem d_R_map_383 : decode prog_10_method_23_code 383 = .ok (.aload_n 0, 1) := by decide +kernel
theorem d_R_map_384 : decode prog_10_method_23_code 384 = .ok (.iconst 1, 1) := by decide +kernel
theorem d_R_map_385 : decode prog_10_method_23_code 385 = .ok (.putfield 172, 3) := by decide +kernel
theorem d_R_map_388 : decode prog_10_method_23_code 388 = .ok (.iload 12, 2) := by decide +kernel
theorem d_R_map_390 : decode prog_10_method_23_code 390 = .ok (.istore 15, 2) := by decide +kernel
theorem d_R_map_392 : decode prog_10_method_23_code 392 = .ok (.iload 15, 2) := by decide +kernel
theorem d_R_map_394 : decode prog_10_method_23_code 394 = .ok (.iload 13, 2) := by decide +kernel
theorem d_R_map_396 : decode prog_10_method_23_code 396 = .ok (.if_icmp .gt 26, 3) := by decide +kernel
theorem d_R_map_399 : decode prog_10_method_23_code 399 = .ok (.aload_n 0, 1) := by decide +kernel
theorem d_R_map_400 : decode prog_10_method_23_code 400 = .ok (.getfield 84, 3) := by decide +kernel
theorem d_R_map_403 : decode prog_10_method_23_code 403 = .ok (.iload 15, 2) := by decide +kernel
theorem d_R_map_405 : decode prog_10_method_23_code 405 = .ok (.iload 12, 2) := by decide +kernel
theorem d_R_map_407 : decode prog_10_method_23_code 407 = .ok (.isub, 1) := by decide +kernel
theorem d_R_map_408 : decode prog_10_method_23_code 408 = .ok (.aload_n 0, 1) := by decide +kernel
theorem d_R_map_409 : decode prog_10_method_23_code 409 = .ok (.iload_n 1, 1) := by decide +kernel
theorem d_R_map_410 : decode prog_10_method_23_code 410 = .ok (.iload 15, 2) := by decide +kernel
theorem d_R_map_412 : decode prog_10_method_23_code 412 = .ok (.invokevirtual 175, 3) := by decide +kernel
theorem d_R_map_415 : decode prog_10_method_23_code 415 = .ok (.iastore, 1) := by decide +kernel
theorem d_R_map_416 : decode prog_10_method_23_code 416 = .ok (.iinc 15 1, 3) := by decide +kernel
theorem d_R_map_419 : decode prog_10_method_23_code 419 = .ok (.goto (-27), 3) := by decide +kernel
theorem d_R_map_422 : decode prog_10_method_23_code 422 = .ok (.iload 9, 2) := by decide +kernel
theorem d_R_map_424 : decode prog_10_method_23_code 424 = .ok (.istore 15, 2) := by decide +kernel
theorem d_R_map_426 : decode prog_10_method_23_code 426 = .ok (.iload 15, 2) := by decide +kernel
theorem d_R_map_428 : decode prog_10_method_23_code 428 = .ok (.iload 11, 2) := by decide +kernel
theorem d_R_map_430 : decode prog_10_method_23_code 430 = .ok (.if_icmp .ge 87, 3) := by decide +kernel
theorem d_R_map_433 : decode prog_10_method_23_code 433 = .ok (.iload 15, 2) := by decide +kernel
theorem d_R_map_435 : decode prog_10_method_23_code 435 = .ok (.iload 14, 2) := by decide +kernel
theorem d_R_map_437 : decode prog_10_method_23_code 437 = .ok (.iadd, 1) := by decide +kernel
theorem d_R_map_438 : decode prog_10_method_23_code 438 = .ok (.istore 16, 2) := by decide +kernel
theorem d_R_map_440 : decode prog_10_method_23_code 440 = .ok (.aload_n 0, 1) := by decide +kernel
theorem d_R_map_441 : decode prog_10_method_23_code 441 = .ok (.getfield 87, 3) := by decide +kernel
theorem d_R_map_444 : decode prog_10_method_23_code 444 = .ok (.iload 15, 2) := by decide +kernel
theorem d_R_map_446 : decode prog_10_method_23_code 446 = .ok (.iload 8, 2) := by decide +kernel
theorem d_R_map_448 : decode prog_10_method_23_code 448 = .ok (.isub, 1) := by decide +kernel
theorem d_R_map_449 : decode prog_10_method_23_code 449 = .ok (.bipush 8, 2) := by decide +kernel
theorem d_R_map_451 : decode prog_10_method_23_code 451 = .ok (.idiv, 1) := by decide +kernel
theorem d_R_map_452 : decode prog_10_method_23_code 452 = .ok (.iaload, 1) := by decide +kernel
theorem d_R_map_453 : decode prog_10_method_23_code 453 = .ok (.iload 15, 2) := by decide +kernel
theorem d_R_map_455 : decode prog_10_method_23_code 455 = .ok (.iload 8, 2) := by decide +kernel
theorem d_R_map_457 : decode prog_10_method_23_code 457 = .ok (.isub, 1) := by decide +kernel
theorem d_R_map_458 : decode prog_10_method_23_code 458 = .ok (.bipush 8, 2) := by decide +kernel
theorem d_R_map_460 : decode prog_10_method_23_code 460 = .ok (.irem, 1) := by decide +kernel
theorem d_R_map_461 : decode prog_10_method_23_code 461 = .ok (.ishr, 1) := by decide +kernel
theorem d_R_map_462 : decode prog_10_method_23_code 462 = .ok (.iconst 1, 1) := by decide +kernel
theorem d_R_map_463 : decode prog_10_method_23_code 463 = .ok (.iand, 1) := by decide +kernel
theorem d_R_map_464 : decode prog_10_method_23_code 464 = .ok (.istore 17, 2) := by decide +kernel
theorem d_R_map_466 : decode prog_10_method_23_code 466 = .ok (.aload_n 0, 1) := by decide +kernel
theorem d_R_map_467 : decode prog_10_method_23_code 467 = .ok (.getfield 84, 3) := by decide +kernel
theorem d_R_map_470 : decode prog_10_method_23_code 470 = .ok (.iload 16, 2) := by decide +kernel
theorem d_R_map_472 : decode prog_10_method_23_code 472 = .ok (.bipush 8, 2) := by decide +kernel
theorem d_R_map_474 : decode prog_10_method_23_code 474 = .ok (.idiv, 1) := by decide +kernel
theorem d_R_map_475 : decode prog_10_method_23_code 475 = .ok (.iload 12, 2) := by decide +kernel
theorem d_R_map_477 : decode prog_10_method_23_code 477 = .ok (.isub, 1) := by decide +kernel
theorem d_R_map_478 : decode prog_10_method_23_code 478 = .ok (.aload_n 0, 1) := by decide +kernel
theorem d_R_map_479 : decode prog_10_method_23_code 479 = .ok (.getfield 84, 3) := by decide +kernel
theorem d_R_map_482 : decode prog_10_method_23_code 482 = .ok (.iload 16, 2) := by decide +kernel
theorem d_R_map_484 : decode prog_10_method_23_code 484 = .ok (.bipush 8, 2) := by decide +kernel
theorem d_R_map_486 : decode prog_10_method_23_code 486 = .ok (.idiv, 1) := by decide +kernel
theorem d_R_map_487 : decode prog_10_method_23_code 487 = .ok (.iload 12, 2) := by decide +kernel
theorem d_R_map_489 : decode prog_10_method_23_code 489 = .ok (.isub, 1) := by decide +kernel
theorem d_R_map_490 : decode prog_10_method_23_code 490 = .ok (.iaload, 1) := by decide +kernel
theorem d_R_map_491 : decode prog_10_method_23_code 491 = .ok (.iconst 1, 1) := by decide +kernel
theorem d_R_map_492 : decode prog_10_method_23_code 492 = .ok (.iload 16, 2) := by decide +kernel
theorem d_R_map_494 : decode prog_10_method_23_code 494 = .ok (.bipush 8, 2) := by decide +kernel
theorem d_R_map_496 : decode prog_10_method_23_code 496 = .ok (.irem, 1) := by decide +kernel
theorem d_R_map_497 : decode prog_10_method_23_code 497 = .ok (.ishl, 1) := by decide +kernel
theorem d_R_map_498 : decode prog_10_method_23_code 498 = .ok (.iconst (-1), 1) := by decide +kernel
theorem d_R_map_499 : decode prog_10_method_23_code 499 = .ok (.ixor, 1) := by decide +kernel
theorem d_R_map_500 : decode prog_10_method_23_code 500 = .ok (.iand, 1) := by decide +kernel
theorem d_R_map_501 : decode prog_10_method_23_code 501 = .ok (.iload 17, 2) := by decide +kernel
theorem d_R_map_503 : decode prog_10_method_23_code 503 = .ok (.iload 16, 2) := by decide +kernel
theorem d_R_map_505 : decode prog_10_method_23_code 505 = .ok (.bipush 8, 2) := by decide +kernel
theorem d_R_map_507 : decode prog_10_method_23_code 507 = .ok (.irem, 1) := by decide +kernel
theorem d_R_map_508 : decode prog_10_method_23_code 508 = .ok (.ishl, 1) := by decide +kernel
theorem d_R_map_509 : decode prog_10_method_23_code 509 = .ok (.ior, 1) := by decide +kernel
theorem d_R_map_510 : decode prog_10_method_23_code 510 = .ok (.iastore, 1) := by decide +kernel
theorem d_R_map_511 : decode prog_10_method_23_code 511 = .ok (.iinc 15 1, 3) := by decide +kernel
theorem d_R_map_514 : decode prog_10_method_23_code 514 = .ok (.goto (-88), 3) := by decide +kernel
theorem d_R_map_517 : decode prog_10_method_23_code 517 = .ok (.aload_n 0, 1) := by decide +kernel
theorem d_R_map_518 : decode prog_10_method_23_code 518 = .ok (.iload_n 1, 1) := by decide +kernel
theorem d_R_map_519 : decode prog_10_method_23_code 519 = .ok (.iload 12, 2) := by decide +kernel
theorem d_R_map_521 : decode prog_10_method_23_code 521 = .ok (.iload 13, 2) := by decide +kernel
theorem d_R_map_523 : decode prog_10_method_23_code 523 = .ok (.invokevirtual 165, 3) := by decide +kernel
theorem d_R_map_526 : decode prog_10_method_23_code 526 = .ok (.return_, 1) := by decide +kernel
theorem d_R_touch_0 : decode prog_10_method_21_code 0 = .ok (.aload_n 0, 1) := by decide +kernel
theorem d_R_touch_1 : decode prog_10_method_21_code 1 = .ok (.getfield 72, 3) := by decide +kernel
theorem d_R_touch_4 : decode prog_10_method_21_code 4 = .ok (.iload_n 2, 1) := by decide +kernel
theorem d_R_touch_5 : decode prog_10_method_21_code 5 = .ok (.iaload, 1) := by decide +kernel
theorem d_R_touch_6 : decode prog_10_method_21_code 6 = .ok (.istore_n 3, 1) := by decide +kernel
theorem d_R_touch_7 : decode prog_10_method_21_code 7 = .ok (.iload_n 3, 1) := by decide +kernel
theorem d_R_touch_8 : decode prog_10_method_21_code 8 = .ok (.aload_n 0, 1) := by decide +kernel
theorem d_R_touch_9 : decode prog_10_method_21_code 9 = .ok (.getfield 75, 3) := by decide +kernel
theorem d_R_touch_12 : decode prog_10_method_21_code 12 = .ok (.iload_n 2, 1) := by decide +kernel
theorem d_R_touch_13 : decode prog_10_method_21_code 13 = .ok (.iaload, 1) := by decide +kernel
theorem d_R_touch_14 : decode prog_10_method_21_code 14 = .ok (.iadd, 1) := by decide +kernel
theorem d_R_touch_15 : decode prog_10_method_21_code 15 = .ok (.iconst 1, 1) := by decide +kernel
theorem d_R_touch_16 : decode prog_10_method_21_code 16 = .ok (.isub, 1) := by decide +kernel
theorem d_R_touch_17 : decode prog_10_method_21_code 17 = .ok (.istore 4, 2) := by decide +kernel
theorem d_R_touch_19 : decode prog_10_method_21_code 19 = .ok (.aload_n 0, 1) := by decide +kernel
theorem d_R_touch_20 : decode prog_10_method_21_code 20 = .ok (.getfield 66, 3) := by decide +kernel
theorem d_R_touch_23 : decode prog_10_method_21_code 23 = .ok (.iload_n 2, 1) := by decide +kernel
theorem d_R_touch_24 : decode prog_10_method_21_code 24 = .ok (.iaload, 1) := by decide +kernel
theorem d_R_touch_25 : decode prog_10_method_21_code 25 = .ok (.iconst 1, 1) := by decide +kernel
theorem d_R_touch_26 : decode prog_10_method_21_code 26 = .ok (.if_icmp .eq 24, 3) := by decide +kernel
theorem d_R_touch_29 : decode prog_10_method_21_code 29 = .ok (.aload_n 0, 1) := by decide +kernel
theorem d_R_touch_30 : decode prog_10_method_21_code 30 = .ok (.getfield 66, 3) := by decide +kernel
theorem d_R_touch_33 : decode prog_10_method_21_code 33 = .ok (.iload_n 2, 1) := by decide +kernel
theorem d_R_touch_34 : decode prog_10_method_21_code 34 = .ok (.iaload, 1) := by decide +kernel
theorem d_R_touch_35 : decode prog_10_method_21_code 35 = .ok (.iconst 4, 1) := by decide +kernel
theorem d_R_touch_36 : decode prog_10_method_21_code 36 = .ok (.if_icmp .eq 14, 3) := by decide +kernel
theorem d_R_touch_39 : decode prog_10_method_21_code 39 = .ok (.aload_n 0, 1) := by decide +kernel
theorem d_R_touch_40 : decode prog_10_method_21_code 40 = .ok (.getfield 66, 3) := by decide +kernel
theorem d_R_touch_43 : decode prog_10_method_21_code 43 = .ok (.iload_n 2, 1) := by decide +kernel
theorem d_R_touch_44 : decode prog_10_method_21_code 44 = .ok (.iaload, 1) := by decide +kernel
theorem d_R_touch_45 : decode prog_10_method_21_code 45 = .ok (.bipush 7, 2) := by decide +kernel
theorem d_R_touch_47 : decode prog_10_method_21_code 47 = .ok (.if_icmp .ne 7, 3) := by decide +kernel
theorem d_R_touch_50 : decode prog_10_method_21_code 50 = .ok (.iconst 1, 1) := by decide +kernel
theorem d_R_touch_51 : decode prog_10_method_21_code 51 = .ok (.goto 4, 3) := by decide +kernel
theorem d_R_touch_54 : decode prog_10_method_21_code 54 = .ok (.iconst 0, 1) := by decide +kernel
theorem d_R_touch_55 : decode prog_10_method_21_code 55 = .ok (.istore 5, 2) := by decide +kernel
theorem d_R_touch_57 : decode prog_10_method_21_code 57 = .ok (.iload 5, 2) := by decide +kernel
theorem d_R_touch_59 : decode prog_10_method_21_code 59 = .ok (.ifCond .eq 91, 3) := by decide +kernel
theorem d_R_touch_62 : decode prog_10_method_21_code 62 = .ok (.aload_n 0, 1) := by decide +kernel
theorem d_R_touch_63 : decode prog_10_method_21_code 63 = .ok (.iload_n 1, 1) := by decide +kernel
theorem d_R_touch_64 : decode prog_10_method_21_code 64 = .ok (.iload_n 3, 1) := by decide +kernel
theorem d_R_touch_65 : decode prog_10_method_21_code 65 = .ok (.iload 4, 2) := by decide +kernel
theorem d_R_touch_67 : decode prog_10_method_21_code 67 = .ok (.invokevirtual 161, 3) := by decide +kernel
theorem d_R_touch_70 : decode prog_10_method_21_code 70 = .ok (.ifCond .ne 4, 3) := by decide +kernel
theorem d_R_touch_73 : decode prog_10_method_21_code 73 = .ok (.return_, 1) := by decide +kernel
theorem d_R_touch_74 : decode prog_10_method_21_code 74 = .ok (.iconst 0, 1) := by decide +kernel
theorem d_R_touch_75 : decode prog_10_method_21_code 75 = .ok (.istore 6, 2) := by decide +kernel
theorem d_R_touch_77 : decode prog_10_method_21_code 77 = .ok (.iload 6, 2) := by decide +kernel
theorem d_R_touch_79 : decode prog_10_method_21_code 79 = .ok (.aload_n 0, 1) := by decide +kernel
theorem d_R_touch_80 : decode prog_10_method_21_code 80 = .ok (.getfield 75, 3) := by decide +kernel
theorem d_R_touch_83 : decode prog_10_method_21_code 83 = .ok (.iload_n 2, 1) := by decide +kernel
theorem d_R_touch_84 : decode prog_10_method_21_code 84 = .ok (.iaload, 1) := by decide +kernel
theorem d_R_touch_85 : decode prog_10_method_21_code 85 = .ok (.if_icmp .ge 62, 3) := by decide +kernel
theorem d_R_touch_88 : decode prog_10_method_21_code 88 = .ok (.aload_n 0, 1) := by decide +kernel
theorem d_R_touch_89 : decode prog_10_method_21_code 89 = .ok (.getfield 81, 3) := by decide +kernel
theorem d_R_touch_92 : decode prog_10_method_21_code 92 = .ok (.bipush 8, 2) := by decide +kernel
theorem d_R_touch_94 : decode prog_10_method_21_code 94 = .ok (.iload_n 2, 1) := by decide +kernel
theorem d_R_touch_95 : decode prog_10_method_21_code 95 = .ok (.imul, 1) := by decide +kernel
theorem d_R_touch_96 : decode prog_10_method_21_code 96 = .ok (.iload 6, 2) := by decide +kernel
theorem d_R_touch_98 : decode prog_10_method_21_code 98 = .ok (.iadd, 1) := by decide +kernel
theorem d_R_touch_99 : decode prog_10_method_21_code 99 = .ok (.aload_n 0, 1) := by decide +kernel
theorem d_R_touch_100 : decode prog_10_method_21_code 100 = .ok (.getfield 66, 3) := by decide +kernel
theorem d_R_touch_103 : decode prog_10_method_21_code 103 = .ok (.iload_n 2, 1) := by decide +kernel
theorem d_R_touch_104 : decode prog_10_method_21_code 104 = .ok (.iaload, 1) := by decide +kernel
theorem d_R_touch_105 : decode prog_10_method_21_code 105 = .ok (.bipush 7, 2) := by decide +kernel
theorem d_R_touch_107 : decode prog_10_method_21_code 107 = .ok (.if_icmp .ne 26, 3) := by decide +kernel
theorem d_R_touch_110 : decode prog_10_method_21_code 110 = .ok (.aload_n 0, 1) := by decide +kernel
theorem d_R_touch_111 : decode prog_10_method_21_code 111 = .ok (.getfield 81, 3) := by decide +kernel
theorem d_R_touch_114 : decode prog_10_method_21_code 114 = .ok (.bipush 8, 2) := by decide +kernel
theorem d_R_touch_116 : decode prog_10_method_21_code 116 = .ok (.iload_n 2, 1) := by decide +kernel
theorem d_R_touch_117 : decode prog_10_method_21_code 117 = .ok (.imul, 1) := by decide +kernel
theorem d_R_touch_118 : decode prog_10_method_21_code 118 = .ok (.iload 6, 2) := by decide +kernel
theorem d_R_touch_120 : decode prog_10_method_21_code 120 = .ok (.iadd, 1) := by decide +kernel
theorem d_R_touch_121 : decode prog_10_method_21_code 121 = .ok (.iaload, 1) := by decide +kernel
theorem d_R_touch_122 : decode prog_10_method_21_code 122 = .ok (.aload_n 0, 1) := by decide +kernel
theorem d_R_touch_123 : decode prog_10_method_21_code 123 = .ok (.getfield 84, 3) := by decide +kernel
theorem d_R_touch_126 : decode prog_10_method_21_code 126 = .ok (.iload 6, 2) := by decide +kernel
theorem d_R_touch_128 : decode prog_10_method_21_code 128 = .ok (.iaload, 1) := by decide +kernel
theorem d_R_touch_129 : decode prog_10_method_21_code 129 = .ok (.ior, 1) := by decide +kernel
theorem d_R_touch_130 : decode prog_10_method_21_code 130 = .ok (.goto 10, 3) := by decide +kernel
theorem d_R_touch_133 : decode prog_10_method_21_code 133 = .ok (.aload_n 0, 1) := by decide +kernel
theorem d_R_touch_134 : decode prog_10_method_21_code 134 = .ok (.getfield 84, 3) := by decide +kernel
theorem d_R_touch_137 : decode prog_10_method_21_code 137 = .ok (.iload 6, 2) := by decide +kernel
theorem d_R_touch_139 : decode prog_10_method_21_code 139 = .ok (.iaload, 1) := by decide +kernel
theorem d_R_touch_140 : decode prog_10_method_21_code 140 = .ok (.iastore, 1) := by decide +kernel
theorem d_R_touch_141 : decode prog_10_method_21_code 141 = .ok (.iinc 6 1, 3) := by decide +kernel
theorem d_R_touch_144 : decode prog_10_method_21_code 144 = .ok (.goto (-67), 3) := by decide +kernel
theorem d_R_touch_147 : decode prog_10_method_21_code 147 = .ok (.goto 63, 3) := by decide +kernel
theorem d_R_touch_150 : decode prog_10_method_21_code 150 = .ok (.aload_n 0, 1) := by decide +kernel
theorem d_R_touch_151 : decode prog_10_method_21_code 151 = .ok (.iload_n 1, 1) := by decide +kernel
theorem d_R_touch_152 : decode prog_10_method_21_code 152 = .ok (.iload_n 3, 1) := by decide +kernel
theorem d_R_touch_153 : decode prog_10_method_21_code 153 = .ok (.iload 4, 2) := by decide +kernel
theorem d_R_touch_155 : decode prog_10_method_21_code 155 = .ok (.iconst 1, 1) := by decide +kernel
theorem d_R_touch_156 : decode prog_10_method_21_code 156 = .ok (.invokevirtual 138, 3) := by decide +kernel
theorem d_R_touch_159 : decode prog_10_method_21_code 159 = .ok (.ifCond .ne 4, 3) := by decide +kernel
theorem d_R_touch_162 : decode prog_10_method_21_code 162 = .ok (.return_, 1) := by decide +kernel
theorem d_R_touch_163 : decode prog_10_method_21_code 163 = .ok (.iconst 0, 1) := by decide +kernel
theorem d_R_touch_164 : decode prog_10_method_21_code 164 = .ok (.istore 6, 2) := by decide +kernel
theorem d_R_touch_166 : decode prog_10_method_21_code 166 = .ok (.iload 6, 2) := by decide +kernel
theorem d_R_touch_168 : decode prog_10_method_21_code 168 = .ok (.aload_n 0, 1) := by decide +kernel
theorem d_R_touch_169 : decode prog_10_method_21_code 169 = .ok (.getfield 75, 3) := by decide +kernel
theorem d_R_touch_172 : decode prog_10_method_21_code 172 = .ok (.iload_n 2, 1) := by decide +kernel
theorem d_R_touch_173 : decode prog_10_method_21_code 173 = .ok (.iaload, 1) := by decide +kernel
theorem d_R_touch_174 : decode prog_10_method_21_code 174 = .ok (.if_icmp .ge 28, 3) := by decide +kernel
theorem d_R_touch_177 : decode prog_10_method_21_code 177 = .ok (.aload_n 0, 1) := by decide +kernel
theorem d_R_touch_178 : decode prog_10_method_21_code 178 = .ok (.getfield 84, 3) := by decide +kernel
theorem d_R_touch_181 : decode prog_10_method_21_code 181 = .ok (.iload 6, 2) := by decide +kernel
theorem d_R_touch_183 : decode prog_10_method_21_code 183 = .ok (.aload_n 0, 1) := by decide +kernel
theorem d_R_touch_184 : decode prog_10_method_21_code 184 = .ok (.getfield 81, 3) := by decide +kernel
theorem d_R_touch_187 : decode prog_10_method_21_code 187 = .ok (.bipush 8, 2) := by decide +kernel
theorem d_R_touch_189 : decode prog_10_method_21_code 189 = .ok (.iload_n 2, 1) := by decide +kernel
theorem d_R_touch_190 : decode prog_10_method_21_code 190 = .ok (.imul, 1) := by decide +kernel
theorem d_R_touch_191 : decode prog_10_method_21_code 191 = .ok (.iload 6, 2) := by decide +kernel
theorem d_R_touch_193 : decode prog_10_method_21_code 193 = .ok (.iadd, 1) := by decide +kernel
theorem d_R_touch_194 : decode prog_10_method_21_code 194 = .ok (.iaload, 1) := by decide +kernel
theorem d_R_touch_195 : decode prog_10_method_21_code 195 = .ok (.iastore, 1) := by decide +kernel
theorem d_R_touch_196 : decode prog_10_method_21_code 196 = .ok (.iinc 6 1, 3) := by decide +kernel
theorem d_R_touch_199 : decode prog_10_method_21_code 199 = .ok (.goto (-33), 3) := by decide +kernel
theorem d_R_touch_202 : decode prog_10_method_21_code 202 = .ok (.aload_n 0, 1) := by decide +kernel
theorem d_R_touch_203 : decode prog_10_method_21_code 203 = .ok (.iload_n 1, 1) := by decide +kernel
theorem d_R_touch_204 : decode prog_10_method_21_code 204 = .ok (.iload_n 3, 1) := by decide +kernel
theorem d_R_touch_205 : decode prog_10_method_21_code 205 = .ok (.iload 4, 2) := by decide +kernel
theorem d_R_touch_207 : decode prog_10_method_21_code 207 = .ok (.invokevirtual 165, 3) := by decide +kernel
theorem d_R_touch_210 : decode prog_10_method_21_code 210 = .ok (.aload_n 0, 1) := by decide +kernel
theorem d_R_touch_211 : decode prog_10_method_21_code 211 = .ok (.getfield 78, 3) := by decide +kernel
theorem d_R_touch_214 : decode prog_10_method_21_code 214 = .ok (.iload_n 2, 1) := by decide +kernel
theorem d_R_touch_215 : decode prog_10_method_21_code 215 = .ok (.dup2, 1) := by decide +kernel
theorem d_R_touch_216 : decode prog_10_method_21_code 216 = .ok (.iaload, 1) := by decide +kernel
theorem d_R_touch_217 : decode prog_10_method_21_code 217 = .ok (.iconst 1, 1) := by decide +kernel
theorem d_R_touch_218 : decode prog_10_method_21_code 218 = .ok (.iadd, 1) := by decide +kernel
theorem d_R_touch_219 : decode prog_10_method_21_code 219 = .ok (.iastore, 1) := by decide +kernel
theorem d_R_touch_220 : decode prog_10_method_21_code 220 = .ok (.return_, 1) := by decide +kernel
theorem d_R_handle_0 : decode prog_10_method_24_code 0 = .ok (.aload_n 0, 1) := by decide +kernel
theorem d_R_handle_1 : decode prog_10_method_24_code 1 = .ok (.getfield 66, 3) := by decide +kernel
theorem d_R_handle_4 : decode prog_10_method_24_code 4 = .ok (.iload_n 2, 1) := by decide +kernel
theorem d_R_handle_5 : decode prog_10_method_24_code 5 = .ok (.iaload, 1) := by decide +kernel
theorem d_R_handle_6 : decode prog_10_method_24_code 6 = .ok (.istore_n 3, 1) := by decide +kernel
theorem d_R_handle_7 : decode prog_10_method_24_code 7 = .ok (.iload_n 3, 1) := by decide +kernel
theorem d_R_handle_8 : decode prog_10_method_24_code 8 = .ok (.bipush 10, 2) := by decide +kernel
theorem d_R_handle_10 : decode prog_10_method_24_code 10 = .ok (.if_icmp .lt 116, 3) := by decide +kernel
theorem d_R_handle_13 : decode prog_10_method_24_code 13 = .ok (.aload_n 0, 1) := by decide +kernel
theorem d_R_handle_14 : decode prog_10_method_24_code 14 = .ok (.iconst 0, 1) := by decide +kernel
theorem d_R_handle_15 : decode prog_10_method_24_code 15 = .ok (.putfield 168, 3) := by decide +kernel
theorem d_R_handle_18 : decode prog_10_method_24_code 18 = .ok (.aload_n 0, 1) := by decide +kernel
theorem d_R_handle_19 : decode prog_10_method_24_code 19 = .ok (.iconst 0, 1) := by decide +kernel
theorem d_R_handle_20 : decode prog_10_method_24_code 20 = .ok (.putfield 172, 3) := by decide +kernel
theorem d_R_handle_23 : decode prog_10_method_24_code 23 = .ok (.iconst 0, 1) := by decide +kernel
theorem d_R_handle_24 : decode prog_10_method_24_code 24 = .ok (.istore 4, 2) := by decide +kernel
theorem d_R_handle_26 : decode prog_10_method_24_code 26 = .ok (.iload 4, 2) := by decide +kernel
theorem d_R_handle_28 : decode prog_10_method_24_code 28 = .ok (.bipush 8, 2) := by decide +kernel
theorem d_R_handle_30 : decode prog_10_method_24_code 30 = .ok (.if_icmp .ge 28, 3) := by decide +kernel
theorem d_R_handle_33 : decode prog_10_method_24_code 33 = .ok (.aload_n 0, 1) := by decide +kernel
theorem d_R_handle_34 : decode prog_10_method_24_code 34 = .ok (.getfield 87, 3) := by decide +kernel
theorem d_R_handle_37 : decode prog_10_method_24_code 37 = .ok (.iload 4, 2) := by decide +kernel
theorem d_R_handle_39 : decode prog_10_method_24_code 39 = .ok (.aload_n 0, 1) := by decide +kernel
theorem d_R_handle_40 : decode prog_10_method_24_code 40 = .ok (.getfield 81, 3) := by decide +kernel
theorem d_R_handle_43 : decode prog_10_method_24_code 43 = .ok (.bipush 8, 2) := by decide +kernel
theorem d_R_handle_45 : decode prog_10_method_24_code 45 = .ok (.iload_n 2, 1) := by decide +kernel
theorem d_R_handle_46 : decode prog_10_method_24_code 46 = .ok (.imul, 1) := by decide +kernel
theorem d_R_handle_47 : decode prog_10_method_24_code 47 = .ok (.iload 4, 2) := by decide +kernel
theorem d_R_handle_49 : decode prog_10_method_24_code 49 = .ok (.iadd, 1) := by decide +kernel
theorem d_R_handle_50 : decode prog_10_method_24_code 50 = .ok (.iaload, 1) := by decide +kernel
theorem d_R_handle_51 : decode prog_10_method_24_code 51 = .ok (.iastore, 1) := by decide +kernel
theorem d_R_handle_52 : decode prog_10_method_24_code 52 = .ok (.iinc 4 1, 3) := by decide +kernel
theorem d_R_handle_55 : decode prog_10_method_24_code 55 = .ok (.goto (-29), 3) := by decide +kernel
theorem d_R_handle_58 : decode prog_10_method_24_code 58 = .ok (.iconst 0, 1) := by decide +kernel
theorem d_R_handle_59 : decode prog_10_method_24_code 59 = .ok (.istore 4, 2) := by decide +kernel
theorem d_R_handle_61 : decode prog_10_method_24_code 61 = .ok (.iload 4, 2) := by decide +kernel
theorem d_R_handle_63 : decode prog_10_method_24_code 63 = .ok (.iconst 4, 1) := by decide +kernel
theorem d_R_handle_64 : decode prog_10_method_24_code 64 = .ok (.if_icmp .ge 17, 3) := by decide +kernel
theorem d_R_handle_67 : decode prog_10_method_24_code 67 = .ok (.aload_n 0, 1) := by decide +kernel
theorem d_R_handle_68 : decode prog_10_method_24_code 68 = .ok (.iload_n 1, 1) := by decide +kernel
theorem d_R_handle_69 : decode prog_10_method_24_code 69 = .ok (.iload_n 2, 1) := by decide +kernel
theorem d_R_handle_70 : decode prog_10_method_24_code 70 = .ok (.iload 4, 2) := by decide +kernel
theorem d_R_handle_72 : decode prog_10_method_24_code 72 = .ok (.invokevirtual 178, 3) := by decide +kernel
theorem d_R_handle_75 : decode prog_10_method_24_code 75 = .ok (.iinc 4 1, 3) := by decide +kernel
theorem d_R_handle_78 : decode prog_10_method_24_code 78 = .ok (.goto (-17), 3) := by decide +kernel
theorem d_R_handle_81 : decode prog_10_method_24_code 81 = .ok (.aload_n 0, 1) := by decide +kernel
theorem d_R_handle_82 : decode prog_10_method_24_code 82 = .ok (.getfield 78, 3) := by decide +kernel
theorem d_R_handle_85 : decode prog_10_method_24_code 85 = .ok (.iload_n 2, 1) := by decide +kernel
theorem d_R_handle_86 : decode prog_10_method_24_code 86 = .ok (.dup2, 1) := by decide +kernel
theorem d_R_handle_87 : decode prog_10_method_24_code 87 = .ok (.iaload, 1) := by decide +kernel
theorem d_R_handle_88 : decode prog_10_method_24_code 88 = .ok (.aload_n 0, 1) := by decide +kernel
theorem d_R_handle_89 : decode prog_10_method_24_code 89 = .ok (.getfield 168, 3) := by decide +kernel
theorem d_R_handle_92 : decode prog_10_method_24_code 92 = .ok (.ifCond .eq 7, 3) := by decide +kernel
theorem d_R_handle_95 : decode prog_10_method_24_code 95 = .ok (.iconst 1, 1) := by decide +kernel
theorem d_R_handle_96 : decode prog_10_method_24_code 96 = .ok (.goto 4, 3) := by decide +kernel
theorem d_R_handle_99 : decode prog_10_method_24_code 99 = .ok (.iconst 0, 1) := by decide +kernel
theorem d_R_handle_100 : decode prog_10_method_24_code 100 = .ok (.aload_n 0, 1) := by decide +kernel
theorem d_R_handle_101 : decode prog_10_method_24_code 101 = .ok (.getfield 172, 3) := by decide +kernel
theorem d_R_handle_104 : decode prog_10_method_24_code 104 = .ok (.ifCond .ne 7, 3) := by decide +kernel
theorem d_R_handle_107 : decode prog_10_method_24_code 107 = .ok (.iconst 0, 1) := by decide +kernel
theorem d_R_handle_108 : decode prog_10_method_24_code 108 = .ok (.goto 14, 3) := by decide +kernel
theorem d_R_handle_111 : decode prog_10_method_24_code 111 = .ok (.iload_n 3, 1) := by decide +kernel
theorem d_R_handle_112 : decode prog_10_method_24_code 112 = .ok (.bipush 12, 2) := by decide +kernel
theorem d_R_handle_114 : decode prog_10_method_24_code 114 = .ok (.if_icmp .ne 7, 3) := by decide +kernel
theorem d_R_handle_117 : decode prog_10_method_24_code 117 = .ok (.iconst 2, 1) := by decide +kernel
theorem d_R_handle_118 : decode prog_10_method_24_code 118 = .ok (.goto 4, 3) := by decide +kernel
theorem d_R_handle_121 : decode prog_10_method_24_code 121 = .ok (.iconst 1, 1) := by decide +kernel
theorem d_R_handle_122 : decode prog_10_method_24_code 122 = .ok (.iadd, 1) := by decide +kernel
theorem d_R_handle_123 : decode prog_10_method_24_code 123 = .ok (.iadd, 1) := by decide +kernel
theorem d_R_handle_124 : decode prog_10_method_24_code 124 = .ok (.iastore, 1) := by decide +kernel
theorem d_R_handle_125 : decode prog_10_method_24_code 125 = .ok (.return_, 1) := by decide +kernel
theorem d_R_handle_126 : decode prog_10_method_24_code 126 = .ok (.iload_n 3, 1) := by decide +kernel
theorem d_R_handle_127 : decode prog_10_method_24_code 127 = .ok (.bipush 7, 2) := by decide +kernel
theorem d_R_handle_129 : decode prog_10_method_24_code 129 = .ok (.if_icmp .ge 35, 3) := by decide +kernel
theorem d_R_handle_132 : decode prog_10_method_24_code 132 = .ok (.iload_n 3, 1) := by decide +kernel
theorem d_R_handle_133 : decode prog_10_method_24_code 133 = .ok (.iconst 2, 1) := by decide +kernel
theorem d_R_handle_134 : decode prog_10_method_24_code 134 = .ok (.if_icmp .gt 15, 3) := by decide +kernel
theorem d_R_handle_137 : decode prog_10_method_24_code 137 = .ok (.aload_n 0, 1) := by decide +kernel
theorem d_R_handle_138 : decode prog_10_method_24_code 138 = .ok (.getfield 69, 3) := by decide +kernel
theorem d_R_handle_141 : decode prog_10_method_24_code 141 = .ok (.iload_n 2, 1) := by decide +kernel
theorem d_R_handle_142 : decode prog_10_method_24_code 142 = .ok (.iaload, 1) := by decide +kernel
theorem d_R_handle_143 : decode prog_10_method_24_code 143 = .ok (.ifCond .ne 25, 3) := by decide +kernel
theorem d_R_handle_146 : decode prog_10_method_24_code 146 = .ok (.goto 18, 3) := by decide +kernel
theorem d_R_handle_149 : decode prog_10_method_24_code 149 = .ok (.aload_n 0, 1) := by decide +kernel
theorem d_R_handle_150 : decode prog_10_method_24_code 150 = .ok (.getfield 69, 3) := by decide +kernel
theorem d_R_handle_153 : decode prog_10_method_24_code 153 = .ok (.iload_n 2, 1) := by decide +kernel
theorem d_R_handle_154 : decode prog_10_method_24_code 154 = .ok (.iaload, 1) := by decide +kernel
theorem d_R_handle_155 : decode prog_10_method_24_code 155 = .ok (.aload_n 0, 1) := by decide +kernel
theorem d_R_handle_156 : decode prog_10_method_24_code 156 = .ok (.iload_n 1, 1) := by decide +kernel
theorem d_R_handle_157 : decode prog_10_method_24_code 157 = .ok (.iconst 0, 1) := by decide +kernel
theorem d_R_handle_158 : decode prog_10_method_24_code 158 = .ok (.invokevirtual 111, 3) := by decide +kernel
theorem d_R_handle_161 : decode prog_10_method_24_code 161 = .ok (.if_icmp .ne 7, 3) := by decide +kernel
theorem d_R_handle_164 : decode prog_10_method_24_code 164 = .ok (.iconst 1, 1) := by decide +kernel
theorem d_R_handle_165 : decode prog_10_method_24_code 165 = .ok (.goto 4, 3) := by decide +kernel
theorem d_R_handle_168 : decode prog_10_method_24_code 168 = .ok (.iconst 0, 1) := by decide +kernel
theorem d_R_handle_169 : decode prog_10_method_24_code 169 = .ok (.istore 4, 2) := by decide +kernel
theorem d_R_handle_171 : decode prog_10_method_24_code 171 = .ok (.iload 4, 2) := by decide +kernel
theorem d_R_handle_173 : decode prog_10_method_24_code 173 = .ok (.ifCond .eq 9, 3) := by decide +kernel
theorem d_R_handle_176 : decode prog_10_method_24_code 176 = .ok (.aload_n 0, 1) := by decide +kernel
theorem d_R_handle_177 : decode prog_10_method_24_code 177 = .ok (.iload_n 1, 1) := by decide +kernel
theorem d_R_handle_178 : decode prog_10_method_24_code 178 = .ok (.iload_n 2, 1) := by decide +kernel
theorem d_R_handle_179 : decode prog_10_method_24_code 179 = .ok (.invokevirtual 181, 3) := by decide +kernel
theorem d_R_handle_182 : decode prog_10_method_24_code 182 = .ok (.iload_n 3, 1) := by decide +kernel
theorem d_R_handle_183 : decode prog_10_method_24_code 183 = .ok (.iconst 4, 1) := by decide +kernel
theorem d_R_handle_184 : decode prog_10_method_24_code 184 = .ok (.if_icmp .eq 25, 3) := by decide +kernel
theorem d_R_handle_187 : decode prog_10_method_24_code 187 = .ok (.iload_n 3, 1) := by decide +kernel
theorem d_R_handle_188 : decode prog_10_method_24_code 188 = .ok (.iconst 5, 1) := by decide +kernel
theorem d_R_handle_189 : decode prog_10_method_24_code 189 = .ok (.if_icmp .eq 20, 3) := by decide +kernel
theorem d_R_handle_192 : decode prog_10_method_24_code 192 = .ok (.aload_n 0, 1) := by decide +kernel
theorem d_R_handle_193 : decode prog_10_method_24_code 193 = .ok (.getfield 69, 3) := by decide +kernel
theorem d_R_handle_196 : decode prog_10_method_24_code 196 = .ok (.iload_n 2, 1) := by decide +kernel
theorem d_R_handle_197 : decode prog_10_method_24_code 197 = .ok (.aload_n 0, 1) := by decide +kernel
theorem d_R_handle_198 : decode prog_10_method_24_code 198 = .ok (.getfield 69, 3) := by decide +kernel
theorem d_R_handle_201 : decode prog_10_method_24_code 201 = .ok (.iload_n 2, 1) := by decide +kernel
theorem d_R_handle_202 : decode prog_10_method_24_code 202 = .ok (.iaload, 1) := by decide +kernel
theorem d_R_handle_203 : decode prog_10_method_24_code 203 = .ok (.iconst 1, 1) := by decide +kernel
theorem d_R_handle_204 : decode prog_10_method_24_code 204 = .ok (.iadd, 1) := by decide +kernel
theorem d_R_handle_205 : decode prog_10_method_24_code 205 = .ok (.ldc 184, 2) := by decide +kernel
theorem d_R_handle_207 : decode prog_10_method_24_code 207 = .ok (.iand, 1) := by decide +kernel
theorem d_R_handle_208 : decode prog_10_method_24_code 208 = .ok (.iastore, 1) := by decide +kernel
theorem d_R_handle_209 : decode prog_10_method_24_code 209 = .ok (.return_, 1) := by decide +kernel
theorem d_R_travel_0 : decode prog_10_method_26_code 0 = .ok (.iconst 0, 1) := by decide +kernel
theorem d_R_travel_1 : decode prog_10_method_26_code 1 = .ok (.istore_n 1, 1) := by decide +kernel
theorem d_R_travel_2 : decode prog_10_method_26_code 2 = .ok (.iload_n 1, 1) := by decide +kernel
theorem d_R_travel_3 : decode prog_10_method_26_code 3 = .ok (.aload_n 0, 1) := by decide +kernel
theorem d_R_travel_4 : decode prog_10_method_26_code 4 = .ok (.getfield 108, 3) := by decide +kernel
theorem d_R_travel_7 : decode prog_10_method_26_code 7 = .ok (.if_icmp .ge 18, 3) := by decide +kernel
theorem d_R_travel_10 : decode prog_10_method_26_code 10 = .ok (.aload_n 0, 1) := by decide +kernel
theorem d_R_travel_11 : decode prog_10_method_26_code 11 = .ok (.getfield 16, 3) := by decide +kernel
theorem d_R_travel_14 : decode prog_10_method_26_code 14 = .ok (.iload_n 1, 1) := by decide +kernel
theorem d_R_travel_15 : decode prog_10_method_26_code 15 = .ok (.baload, 1) := by decide +kernel
theorem d_R_travel_16 : decode prog_10_method_26_code 16 = .ok (.ifCond .ne 9, 3) := by decide +kernel
theorem d_R_travel_19 : decode prog_10_method_26_code 19 = .ok (.iinc 1 1, 3) := by decide +kernel
theorem d_R_travel_22 : decode prog_10_method_26_code 22 = .ok (.goto (-20), 3) := by decide +kernel
theorem d_R_travel_25 : decode prog_10_method_26_code 25 = .ok (.aload_n 0, 1) := by decide +kernel
theorem d_R_travel_26 : decode prog_10_method_26_code 26 = .ok (.getfield 62, 3) := by decide +kernel
theorem d_R_travel_29 : decode prog_10_method_26_code 29 = .ok (.istore_n 2, 1) := by decide +kernel
theorem d_R_travel_30 : decode prog_10_method_26_code 30 = .ok (.aload_n 0, 1) := by decide +kernel
theorem d_R_travel_31 : decode prog_10_method_26_code 31 = .ok (.iconst (-1), 1) := by decide +kernel
theorem d_R_travel_32 : decode prog_10_method_26_code 32 = .ok (.putfield 62, 3) := by decide +kernel
theorem d_R_travel_35 : decode prog_10_method_26_code 35 = .ok (.iload_n 2, 1) := by decide +kernel
theorem d_R_travel_36 : decode prog_10_method_26_code 36 = .ok (.ifCond .lt 25, 3) := by decide +kernel
theorem d_R_travel_39 : decode prog_10_method_26_code 39 = .ok (.iload_n 2, 1) := by decide +kernel
theorem d_R_travel_40 : decode prog_10_method_26_code 40 = .ok (.iload_n 1, 1) := by decide +kernel
theorem d_R_travel_41 : decode prog_10_method_26_code 41 = .ok (.if_icmp .lt 16, 3) := by decide +kernel
theorem d_R_travel_44 : decode prog_10_method_26_code 44 = .ok (.iload_n 2, 1) := by decide +kernel
theorem d_R_travel_45 : decode prog_10_method_26_code 45 = .ok (.iload_n 1, 1) := by decide +kernel
theorem d_R_travel_46 : decode prog_10_method_26_code 46 = .ok (.if_icmp .ne 15, 3) := by decide +kernel
theorem d_R_travel_49 : decode prog_10_method_26_code 49 = .ok (.iload_n 1, 1) := by decide +kernel
theorem d_R_travel_50 : decode prog_10_method_26_code 50 = .ok (.aload_n 0, 1) := by decide +kernel
theorem d_R_travel_51 : decode prog_10_method_26_code 51 = .ok (.getfield 108, 3) := by decide +kernel
theorem d_R_travel_54 : decode prog_10_method_26_code 54 = .ok (.if_icmp .ne 7, 3) := by decide +kernel
theorem d_R_travel_57 : decode prog_10_method_26_code 57 = .ok (.iconst 1, 1) := by decide +kernel
theorem d_R_travel_58 : decode prog_10_method_26_code 58 = .ok (.goto 4, 3) := by decide +kernel
theorem d_R_travel_61 : decode prog_10_method_26_code 61 = .ok (.iconst 0, 1) := by decide +kernel
theorem d_R_travel_62 : decode prog_10_method_26_code 62 = .ok (.istore_n 3, 1) := by decide +kernel
theorem d_R_travel_63 : decode prog_10_method_26_code 63 = .ok (.iload_n 3, 1) := by decide +kernel
theorem d_R_travel_64 : decode prog_10_method_26_code 64 = .ok (.ifCond .eq 7, 3) := by decide +kernel
theorem d_R_travel_67 : decode prog_10_method_26_code 67 = .ok (.iload_n 2, 1) := by decide +kernel
theorem d_R_travel_68 : decode prog_10_method_26_code 68 = .ok (.goto 4, 3) := by decide +kernel
theorem d_R_travel_71 : decode prog_10_method_26_code 71 = .ok (.iload_n 1, 1) := by decide +kernel
theorem d_R_travel_72 : decode prog_10_method_26_code 72 = .ok (.istore 4, 2) := by decide +kernel
theorem d_R_travel_74 : decode prog_10_method_26_code 74 = .ok (.iconst 0, 1) := by decide +kernel
theorem d_R_travel_75 : decode prog_10_method_26_code 75 = .ok (.istore 5, 2) := by decide +kernel
theorem d_R_travel_77 : decode prog_10_method_26_code 77 = .ok (.iload 5, 2) := by decide +kernel
theorem d_R_travel_79 : decode prog_10_method_26_code 79 = .ok (.iload 4, 2) := by decide +kernel
theorem d_R_travel_81 : decode prog_10_method_26_code 81 = .ok (.if_icmp .ge 37, 3) := by decide +kernel
theorem d_R_travel_84 : decode prog_10_method_26_code 84 = .ok (.iconst 3, 1) := by decide +kernel
theorem d_R_travel_85 : decode prog_10_method_26_code 85 = .ok (.istore 6, 2) := by decide +kernel
theorem d_R_travel_87 : decode prog_10_method_26_code 87 = .ok (.iload 6, 2) := by decide +kernel
theorem d_R_travel_89 : decode prog_10_method_26_code 89 = .ok (.iconst 3, 1) := by decide +kernel
theorem d_R_travel_90 : decode prog_10_method_26_code 90 = .ok (.aload_n 0, 1) := by decide +kernel
theorem d_R_travel_91 : decode prog_10_method_26_code 91 = .ok (.getfield 185, 3) := by decide +kernel
theorem d_R_travel_94 : decode prog_10_method_26_code 94 = .ok (.iadd, 1) := by decide +kernel
theorem d_R_travel_95 : decode prog_10_method_26_code 95 = .ok (.if_icmp .ge 17, 3) := by decide +kernel
theorem d_R_travel_98 : decode prog_10_method_26_code 98 = .ok (.aload_n 0, 1) := by decide +kernel
theorem d_R_travel_99 : decode prog_10_method_26_code 99 = .ok (.iload 5, 2) := by decide +kernel
theorem d_R_travel_101 : decode prog_10_method_26_code 101 = .ok (.iload 6, 2) := by decide +kernel
theorem d_R_travel_103 : decode prog_10_method_26_code 103 = .ok (.invokevirtual 188, 3) := by decide +kernel
theorem d_R_travel_106 : decode prog_10_method_26_code 106 = .ok (.iinc 6 1, 3) := by decide +kernel
theorem d_R_travel_109 : decode prog_10_method_26_code 109 = .ok (.goto (-22), 3) := by decide +kernel
theorem d_R_travel_112 : decode prog_10_method_26_code 112 = .ok (.iinc 5 1, 3) := by decide +kernel
theorem d_R_travel_115 : decode prog_10_method_26_code 115 = .ok (.goto (-38), 3) := by decide +kernel
theorem d_R_travel_118 : decode prog_10_method_26_code 118 = .ok (.iload_n 3, 1) := by decide +kernel
theorem d_R_travel_119 : decode prog_10_method_26_code 119 = .ok (.ifCond .ne 18, 3) := by decide +kernel
theorem d_R_travel_122 : decode prog_10_method_26_code 122 = .ok (.aload_n 0, 1) := by decide +kernel
theorem d_R_travel_123 : decode prog_10_method_26_code 123 = .ok (.getfield 108, 3) := by decide +kernel
theorem d_R_travel_126 : decode prog_10_method_26_code 126 = .ok (.ifCond .eq 7, 3) := by decide +kernel
theorem d_R_travel_129 : decode prog_10_method_26_code 129 = .ok (.iload_n 1, 1) := by decide +kernel
theorem d_R_travel_130 : decode prog_10_method_26_code 130 = .ok (.ifCond .le 7, 3) := by decide +kernel
theorem d_R_travel_133 : decode prog_10_method_26_code 133 = .ok (.iconst 1, 1) := by decide +kernel
theorem d_R_travel_134 : decode prog_10_method_26_code 134 = .ok (.goto 4, 3) := by decide +kernel
theorem d_R_travel_137 : decode prog_10_method_26_code 137 = .ok (.iconst 0, 1) := by decide +kernel
theorem d_R_travel_138 : decode prog_10_method_26_code 138 = .ok (.istore 5, 2) := by decide +kernel
theorem d_R_travel_140 : decode prog_10_method_26_code 140 = .ok (.aload_n 0, 1) := by decide +kernel
theorem d_R_travel_141 : decode prog_10_method_26_code 141 = .ok (.iload 5, 2) := by decide +kernel
theorem d_R_travel_143 : decode prog_10_method_26_code 143 = .ok (.ifCond .eq 10, 3) := by decide +kernel
theorem d_R_travel_146 : decode prog_10_method_26_code 146 = .ok (.aload_n 0, 1) := by decide +kernel
theorem d_R_travel_147 : decode prog_10_method_26_code 147 = .ok (.getfield 185, 3) := by decide +kernel
theorem d_R_travel_150 : decode prog_10_method_26_code 150 = .ok (.goto 4, 3) := by decide +kernel
theorem d_R_travel_153 : decode prog_10_method_26_code 153 = .ok (.iconst 0, 1) := by decide +kernel
theorem d_R_travel_154 : decode prog_10_method_26_code 154 = .ok (.putfield 191, 3) := by decide +kernel
theorem d_R_travel_157 : decode prog_10_method_26_code 157 = .ok (.iconst 0, 1) := by decide +kernel
theorem d_R_travel_158 : decode prog_10_method_26_code 158 = .ok (.istore 6, 2) := by decide +kernel
theorem d_R_travel_160 : decode prog_10_method_26_code 160 = .ok (.iload 6, 2) := by decide +kernel
theorem d_R_travel_162 : decode prog_10_method_26_code 162 = .ok (.aload_n 0, 1) := by decide +kernel
theorem d_R_travel_163 : decode prog_10_method_26_code 163 = .ok (.getfield 191, 3) := by decide +kernel
theorem d_R_travel_166 : decode prog_10_method_26_code 166 = .ok (.if_icmp .ge 22, 3) := by decide +kernel
theorem d_R_travel_169 : decode prog_10_method_26_code 169 = .ok (.aload_n 0, 1) := by decide +kernel
theorem d_R_travel_170 : decode prog_10_method_26_code 170 = .ok (.iconst 3, 1) := by decide +kernel
theorem d_R_travel_171 : decode prog_10_method_26_code 171 = .ok (.iload 6, 2) := by decide +kernel
theorem d_R_travel_173 : decode prog_10_method_26_code 173 = .ok (.iadd, 1) := by decide +kernel
theorem d_R_travel_174 : decode prog_10_method_26_code 174 = .ok (.bipush 6, 2) := by decide +kernel
theorem d_R_travel_176 : decode prog_10_method_26_code 176 = .ok (.iload 6, 2) := by decide +kernel
theorem d_R_travel_178 : decode prog_10_method_26_code 178 = .ok (.iadd, 1) := by decide +kernel
theorem d_R_travel_179 : decode prog_10_method_26_code 179 = .ok (.invokevirtual 194, 3) := by decide +kernel
theorem d_R_travel_182 : decode prog_10_method_26_code 182 = .ok (.iinc 6 1, 3) := by decide +kernel
theorem d_R_travel_185 : decode prog_10_method_26_code 185 = .ok (.goto (-25), 3) := by decide +kernel
theorem d_R_travel_188 : decode prog_10_method_26_code 188 = .ok (.aload_n 0, 1) := by decide +kernel
theorem d_R_travel_189 : decode prog_10_method_26_code 189 = .ok (.iconst 0, 1) := by decide +kernel
theorem d_R_travel_190 : decode prog_10_method_26_code 190 = .ok (.putfield 185, 3) := by decide +kernel
theorem d_R_travel_193 : decode prog_10_method_26_code 193 = .ok (.iload 5, 2) := by decide +kernel
theorem d_R_travel_195 : decode prog_10_method_26_code 195 = .ok (.ireturn, 1) := by decide +kernel
theorem d_R_answer_0 : decode prog_10_method_58_code 0 = .ok (.aload_n 0, 1) := by decide +kernel
theorem d_R_answer_1 : decode prog_10_method_58_code 1 = .ok (.iload_n 1, 1) := by decide +kernel
theorem d_R_answer_2 : decode prog_10_method_58_code 2 = .ok (.invokevirtual 208, 3) := by decide +kernel
theorem d_R_answer_5 : decode prog_10_method_58_code 5 = .ok (.ifCond .ne 5, 3) := by decide +kernel
theorem d_R_answer_8 : decode prog_10_method_58_code 8 = .ok (.iconst (-1), 1) := by decide +kernel
theorem d_R_answer_9 : decode prog_10_method_58_code 9 = .ok (.ireturn, 1) := by decide +kernel
theorem d_R_answer_10 : decode prog_10_method_58_code 10 = .ok (.aload_n 0, 1) := by decide +kernel
theorem d_R_answer_11 : decode prog_10_method_58_code 11 = .ok (.iconst 3, 1) := by decide +kernel
theorem d_R_answer_12 : decode prog_10_method_58_code 12 = .ok (.iconst 4, 1) := by decide +kernel
theorem d_R_answer_13 : decode prog_10_method_58_code 13 = .ok (.iload_n 1, 1) := by decide +kernel
theorem d_R_answer_14 : decode prog_10_method_58_code 14 = .ok (.iconst 1, 1) := by decide +kernel
theorem d_R_answer_15 : decode prog_10_method_58_code 15 = .ok (.iadd, 1) := by decide +kernel
theorem d_R_answer_16 : decode prog_10_method_58_code 16 = .ok (.bipush 72, 2) := by decide +kernel
theorem d_R_answer_18 : decode prog_10_method_58_code 18 = .ok (.bipush 6, 2) := by decide +kernel
theorem d_R_answer_20 : decode prog_10_method_58_code 20 = .ok (.invokevirtual 200, 3) := by decide +kernel
theorem d_R_answer_23 : decode prog_10_method_58_code 23 = .ok (.aload_n 0, 1) := by decide +kernel
theorem d_R_answer_24 : decode prog_10_method_58_code 24 = .ok (.iconst 1, 1) := by decide +kernel
theorem d_R_answer_25 : decode prog_10_method_58_code 25 = .ok (.putfield 185, 3) := by decide +kernel
theorem d_R_answer_28 : decode prog_10_method_58_code 28 = .ok (.aload_n 0, 1) := by decide +kernel
theorem d_R_answer_29 : decode prog_10_method_58_code 29 = .ok (.invokevirtual 204, 3) := by decide +kernel
theorem d_R_answer_32 : decode prog_10_method_58_code 32 = .ok (.ifCond .eq 13, 3) := by decide +kernel
theorem d_R_answer_35 : decode prog_10_method_58_code 35 = .ok (.aload_n 0, 1) := by decide +kernel
theorem d_R_answer_36 : decode prog_10_method_58_code 36 = .ok (.getfield 78, 3) := by decide +kernel
theorem d_R_answer_39 : decode prog_10_method_58_code 39 = .ok (.bipush 6, 2) := by decide +kernel
theorem d_R_answer_41 : decode prog_10_method_58_code 41 = .ok (.iaload, 1) := by decide +kernel
theorem d_R_answer_42 : decode prog_10_method_58_code 42 = .ok (.goto 4, 3) := by decide +kernel
theorem d_R_answer_45 : decode prog_10_method_58_code 45 = .ok (.iconst (-1), 1) := by decide +kernel
theorem d_R_answer_46 : decode prog_10_method_58_code 46 = .ok (.ireturn, 1) := by decide +kernel
theorem d_R_six_0 : decode prog_10_method_48_code 0 = .ok (.aload_n 0, 1) := by decide +kernel
theorem d_R_six_1 : decode prog_10_method_48_code 1 = .ok (.getfield 81, 3) := by decide +kernel
theorem d_R_six_4 : decode prog_10_method_48_code 4 = .ok (.bipush 8, 2) := by decide +kernel
theorem d_R_six_6 : decode prog_10_method_48_code 6 = .ok (.iload_n 1, 1) := by decide +kernel
theorem d_R_six_7 : decode prog_10_method_48_code 7 = .ok (.imul, 1) := by decide +kernel
theorem d_R_six_8 : decode prog_10_method_48_code 8 = .ok (.iload_n 2, 1) := by decide +kernel
theorem d_R_six_9 : decode prog_10_method_48_code 9 = .ok (.iastore, 1) := by decide +kernel
theorem d_R_six_10 : decode prog_10_method_48_code 10 = .ok (.aload_n 0, 1) := by decide +kernel
theorem d_R_six_11 : decode prog_10_method_48_code 11 = .ok (.getfield 81, 3) := by decide +kernel
theorem d_R_six_14 : decode prog_10_method_48_code 14 = .ok (.bipush 8, 2) := by decide +kernel
theorem d_R_six_16 : decode prog_10_method_48_code 16 = .ok (.iload_n 1, 1) := by decide +kernel
theorem d_R_six_17 : decode prog_10_method_48_code 17 = .ok (.imul, 1) := by decide +kernel
theorem d_R_six_18 : decode prog_10_method_48_code 18 = .ok (.iconst 1, 1) := by decide +kernel
theorem d_R_six_19 : decode prog_10_method_48_code 19 = .ok (.iadd, 1) := by decide +kernel
theorem d_R_six_20 : decode prog_10_method_48_code 20 = .ok (.iload_n 3, 1) := by decide +kernel
theorem d_R_six_21 : decode prog_10_method_48_code 21 = .ok (.iastore, 1) := by decide +kernel
theorem d_R_six_22 : decode prog_10_method_48_code 22 = .ok (.aload_n 0, 1) := by decide +kernel
theorem d_R_six_23 : decode prog_10_method_48_code 23 = .ok (.getfield 81, 3) := by decide +kernel
theorem d_R_six_26 : decode prog_10_method_48_code 26 = .ok (.bipush 8, 2) := by decide +kernel
theorem d_R_six_28 : decode prog_10_method_48_code 28 = .ok (.iload_n 1, 1) := by decide +kernel
theorem d_R_six_29 : decode prog_10_method_48_code 29 = .ok (.imul, 1) := by decide +kernel
theorem d_R_six_30 : decode prog_10_method_48_code 30 = .ok (.iconst 2, 1) := by decide +kernel
theorem d_R_six_31 : decode prog_10_method_48_code 31 = .ok (.iadd, 1) := by decide +kernel
theorem d_R_six_32 : decode prog_10_method_48_code 32 = .ok (.iload 4, 2) := by decide +kernel
theorem d_R_six_34 : decode prog_10_method_48_code 34 = .ok (.iastore, 1) := by decide +kernel
theorem d_R_six_35 : decode prog_10_method_48_code 35 = .ok (.aload_n 0, 1) := by decide +kernel
theorem d_R_six_36 : decode prog_10_method_48_code 36 = .ok (.getfield 81, 3) := by decide +kernel
theorem d_R_six_39 : decode prog_10_method_48_code 39 = .ok (.bipush 8, 2) := by decide +kernel
theorem d_R_six_41 : decode prog_10_method_48_code 41 = .ok (.iload_n 1, 1) := by decide +kernel
theorem d_R_six_42 : decode prog_10_method_48_code 42 = .ok (.imul, 1) := by decide +kernel
theorem d_R_six_43 : decode prog_10_method_48_code 43 = .ok (.iconst 3, 1) := by decide +kernel
theorem d_R_six_44 : decode prog_10_method_48_code 44 = .ok (.iadd, 1) := by decide +kernel
theorem d_R_six_45 : decode prog_10_method_48_code 45 = .ok (.iload 5, 2) := by decide +kernel
theorem d_R_six_47 : decode prog_10_method_48_code 47 = .ok (.iastore, 1) := by decide +kernel
theorem d_R_six_48 : decode prog_10_method_48_code 48 = .ok (.aload_n 0, 1) := by decide +kernel
theorem d_R_six_49 : decode prog_10_method_48_code 49 = .ok (.getfield 81, 3) := by decide +kernel
theorem d_R_six_52 : decode prog_10_method_48_code 52 = .ok (.bipush 8, 2) := by decide +kernel
theorem d_R_six_54 : decode prog_10_method_48_code 54 = .ok (.iload_n 1, 1) := by decide +kernel
theorem d_R_six_55 : decode prog_10_method_48_code 55 = .ok (.imul, 1) := by decide +kernel
theorem d_R_six_56 : decode prog_10_method_48_code 56 = .ok (.iconst 4, 1) := by decide +kernel
theorem d_R_six_57 : decode prog_10_method_48_code 57 = .ok (.iadd, 1) := by decide +kernel
theorem d_R_six_58 : decode prog_10_method_48_code 58 = .ok (.iload 6, 2) := by decide +kernel
theorem d_R_six_60 : decode prog_10_method_48_code 60 = .ok (.iastore, 1) := by decide +kernel
theorem d_R_six_61 : decode prog_10_method_48_code 61 = .ok (.aload_n 0, 1) := by decide +kernel
theorem d_R_six_62 : decode prog_10_method_48_code 62 = .ok (.getfield 81, 3) := by decide +kernel
theorem d_R_six_65 : decode prog_10_method_48_code 65 = .ok (.bipush 8, 2) := by decide +kernel
theorem d_R_six_67 : decode prog_10_method_48_code 67 = .ok (.iload_n 1, 1) := by decide +kernel
theorem d_R_six_68 : decode prog_10_method_48_code 68 = .ok (.imul, 1) := by decide +kernel
theorem d_R_six_69 : decode prog_10_method_48_code 69 = .ok (.iconst 5, 1) := by decide +kernel
theorem d_R_six_70 : decode prog_10_method_48_code 70 = .ok (.iadd, 1) := by decide +kernel
theorem d_R_six_71 : decode prog_10_method_48_code 71 = .ok (.iload 7, 2) := by decide +kernel
theorem d_R_six_73 : decode prog_10_method_48_code 73 = .ok (.iastore, 1) := by decide +kernel
theorem d_R_six_74 : decode prog_10_method_48_code 74 = .ok (.return_, 1) := by decide +kernel
theorem d_R_ask_0 : decode prog_10_method_57_code 0 = .ok (.aload_n 0, 1) := by decide +kernel
theorem d_R_ask_1 : decode prog_10_method_57_code 1 = .ok (.iload_n 1, 1) := by decide +kernel
theorem d_R_ask_2 : decode prog_10_method_57_code 2 = .ok (.invokevirtual 208, 3) := by decide +kernel
theorem d_R_ask_5 : decode prog_10_method_57_code 5 = .ok (.ifCond .ne 5, 3) := by decide +kernel
theorem d_R_ask_8 : decode prog_10_method_57_code 8 = .ok (.iconst (-1), 1) := by decide +kernel
theorem d_R_ask_9 : decode prog_10_method_57_code 9 = .ok (.ireturn, 1) := by decide +kernel
theorem d_R_ask_10 : decode prog_10_method_57_code 10 = .ok (.aload_n 0, 1) := by decide +kernel
theorem d_R_ask_11 : decode prog_10_method_57_code 11 = .ok (.iconst 3, 1) := by decide +kernel
theorem d_R_ask_12 : decode prog_10_method_57_code 12 = .ok (.iconst 5, 1) := by decide +kernel
theorem d_R_ask_13 : decode prog_10_method_57_code 13 = .ok (.iload_n 1, 1) := by decide +kernel
theorem d_R_ask_14 : decode prog_10_method_57_code 14 = .ok (.iconst 1, 1) := by decide +kernel
theorem d_R_ask_15 : decode prog_10_method_57_code 15 = .ok (.iadd, 1) := by decide +kernel
theorem d_R_ask_16 : decode prog_10_method_57_code 16 = .ok (.bipush 64, 2) := by decide +kernel
theorem d_R_ask_18 : decode prog_10_method_57_code 18 = .ok (.bipush 6, 2) := by decide +kernel
theorem d_R_ask_20 : decode prog_10_method_57_code 20 = .ok (.invokevirtual 200, 3) := by decide +kernel
theorem d_R_ask_23 : decode prog_10_method_57_code 23 = .ok (.aload_n 0, 1) := by decide +kernel
theorem d_R_ask_24 : decode prog_10_method_57_code 24 = .ok (.iconst 3, 1) := by decide +kernel
theorem d_R_ask_25 : decode prog_10_method_57_code 25 = .ok (.iload_n 2, 1) := by decide +kernel
theorem d_R_ask_26 : decode prog_10_method_57_code 26 = .ok (.sipush 255, 3) := by decide +kernel
theorem d_R_ask_29 : decode prog_10_method_57_code 29 = .ok (.iand, 1) := by decide +kernel
theorem d_R_ask_30 : decode prog_10_method_57_code 30 = .ok (.iload_n 3, 1) := by decide +kernel
theorem d_R_ask_31 : decode prog_10_method_57_code 31 = .ok (.sipush 255, 3) := by decide +kernel
theorem d_R_ask_34 : decode prog_10_method_57_code 34 = .ok (.iand, 1) := by decide +kernel
theorem d_R_ask_35 : decode prog_10_method_57_code 35 = .ok (.iload 4, 2) := by decide +kernel
theorem d_R_ask_37 : decode prog_10_method_57_code 37 = .ok (.sipush 255, 3) := by decide +kernel
theorem d_R_ask_40 : decode prog_10_method_57_code 40 = .ok (.iand, 1) := by decide +kernel
theorem d_R_ask_41 : decode prog_10_method_57_code 41 = .ok (.iload 4, 2) := by decide +kernel
theorem d_R_ask_43 : decode prog_10_method_57_code 43 = .ok (.bipush 8, 2) := by decide +kernel
theorem d_R_ask_45 : decode prog_10_method_57_code 45 = .ok (.ishr, 1) := by decide +kernel
theorem d_R_ask_46 : decode prog_10_method_57_code 46 = .ok (.sipush 255, 3) := by decide +kernel
theorem d_R_ask_49 : decode prog_10_method_57_code 49 = .ok (.iand, 1) := by decide +kernel
theorem d_R_ask_50 : decode prog_10_method_57_code 50 = .ok (.iload 4, 2) := by decide +kernel
theorem d_R_ask_52 : decode prog_10_method_57_code 52 = .ok (.bipush 16, 2) := by decide +kernel
theorem d_R_ask_54 : decode prog_10_method_57_code 54 = .ok (.ishr, 1) := by decide +kernel
theorem d_R_ask_55 : decode prog_10_method_57_code 55 = .ok (.sipush 255, 3) := by decide +kernel
theorem d_R_ask_58 : decode prog_10_method_57_code 58 = .ok (.iand, 1) := by decide +kernel
theorem d_R_ask_59 : decode prog_10_method_57_code 59 = .ok (.iload 4, 2) := by decide +kernel
theorem d_R_ask_61 : decode prog_10_method_57_code 61 = .ok (.bipush 24, 2) := by decide +kernel
theorem d_R_ask_63 : decode prog_10_method_57_code 63 = .ok (.ishr, 1) := by decide +kernel
theorem d_R_ask_64 : decode prog_10_method_57_code 64 = .ok (.sipush 255, 3) := by decide +kernel
theorem d_R_ask_67 : decode prog_10_method_57_code 67 = .ok (.iand, 1) := by decide +kernel
theorem d_R_ask_68 : decode prog_10_method_57_code 68 = .ok (.invokevirtual 254, 3) := by decide +kernel
theorem d_R_ask_71 : decode prog_10_method_57_code 71 = .ok (.aload_n 0, 1) := by decide +kernel
theorem d_R_ask_72 : decode prog_10_method_57_code 72 = .ok (.iconst 1, 1) := by decide +kernel
theorem d_R_ask_73 : decode prog_10_method_57_code 73 = .ok (.putfield 185, 3) := by decide +kernel
theorem d_R_ask_76 : decode prog_10_method_57_code 76 = .ok (.aload_n 0, 1) := by decide +kernel
theorem d_R_ask_77 : decode prog_10_method_57_code 77 = .ok (.invokevirtual 204, 3) := by decide +kernel
theorem d_R_ask_80 : decode prog_10_method_57_code 80 = .ok (.ifCond .eq 13, 3) := by decide +kernel
theorem d_R_ask_83 : decode prog_10_method_57_code 83 = .ok (.aload_n 0, 1) := by decide +kernel
theorem d_R_ask_84 : decode prog_10_method_57_code 84 = .ok (.getfield 78, 3) := by decide +kernel
theorem d_R_ask_87 : decode prog_10_method_57_code 87 = .ok (.bipush 6, 2) := by decide +kernel
theorem d_R_ask_89 : decode prog_10_method_57_code 89 = .ok (.iaload, 1) := by decide +kernel
theorem d_R_ask_90 : decode prog_10_method_57_code 90 = .ok (.goto 4, 3) := by decide +kernel
theorem d_R_ask_93 : decode prog_10_method_57_code 93 = .ok (.iconst (-1), 1) := by decide +kernel
theorem d_R_ask_94 : decode prog_10_method_57_code 94 = .ok (.ireturn, 1) := by decide +kernel
theorem d_R_cut_0 : decode prog_10_method_32_code 0 = .ok (.aload_n 0, 1) := by decide +kernel
theorem d_R_cut_1 : decode prog_10_method_32_code 1 = .ok (.iload_n 1, 1) := by decide +kernel
theorem d_R_cut_2 : decode prog_10_method_32_code 2 = .ok (.invokevirtual 208, 3) := by decide +kernel
theorem d_R_cut_5 : decode prog_10_method_32_code 5 = .ok (.ifCond .ne 5, 3) := by decide +kernel
theorem d_R_cut_8 : decode prog_10_method_32_code 8 = .ok (.iconst 0, 1) := by decide +kernel
theorem d_R_cut_9 : decode prog_10_method_32_code 9 = .ok (.ireturn, 1) := by decide +kernel
theorem d_R_cut_10 : decode prog_10_method_32_code 10 = .ok (.aload_n 0, 1) := by decide +kernel
theorem d_R_cut_11 : decode prog_10_method_32_code 11 = .ok (.getfield 16, 3) := by decide +kernel
theorem d_R_cut_14 : decode prog_10_method_32_code 14 = .ok (.iload_n 1, 1) := by decide +kernel
theorem d_R_cut_15 : decode prog_10_method_32_code 15 = .ok (.iload_n 2, 1) := by decide +kernel
theorem d_R_cut_16 : decode prog_10_method_32_code 16 = .ok (.bastore, 1) := by decide +kernel
theorem d_R_cut_17 : decode prog_10_method_32_code 17 = .ok (.iconst 1, 1) := by decide +kernel
theorem d_R_cut_18 : decode prog_10_method_32_code 18 = .ok (.ireturn, 1) := by decide +kernel
theorem d_R_lies_0 : decode prog_10_method_53_code 0 = .ok (.iload_n 1, 1) := by decide +kernel
theorem d_R_lies_1 : decode prog_10_method_53_code 1 = .ok (.ifCond .le 28, 3) := by decide +kernel
theorem d_R_lies_4 : decode prog_10_method_53_code 4 = .ok (.iload_n 0, 1) := by decide +kernel
theorem d_R_lies_5 : decode prog_10_method_53_code 5 = .ok (.bipush 8, 2) := by decide +kernel
theorem d_R_lies_7 : decode prog_10_method_53_code 7 = .ok (.iload_n 2, 1) := by decide +kernel
theorem d_R_lies_8 : decode prog_10_method_53_code 8 = .ok (.imul, 1) := by decide +kernel
theorem d_R_lies_9 : decode prog_10_method_53_code 9 = .ok (.bipush 8, 2) := by decide +kernel
theorem d_R_lies_11 : decode prog_10_method_53_code 11 = .ok (.iadd, 1) := by decide +kernel
theorem d_R_lies_12 : decode prog_10_method_53_code 12 = .ok (.if_icmp .ge 17, 3) := by decide +kernel
theorem d_R_lies_15 : decode prog_10_method_53_code 15 = .ok (.iload_n 0, 1) := by decide +kernel
theorem d_R_lies_16 : decode prog_10_method_53_code 16 = .ok (.iload_n 1, 1) := by decide +kernel
theorem d_R_lies_17 : decode prog_10_method_53_code 17 = .ok (.iadd, 1) := by decide +kernel
theorem d_R_lies_18 : decode prog_10_method_53_code 18 = .ok (.bipush 8, 2) := by decide +kernel
theorem d_R_lies_20 : decode prog_10_method_53_code 20 = .ok (.iload_n 2, 1) := by decide +kernel
theorem d_R_lies_21 : decode prog_10_method_53_code 21 = .ok (.imul, 1) := by decide +kernel
theorem d_R_lies_22 : decode prog_10_method_53_code 22 = .ok (.if_icmp .le 7, 3) := by decide +kernel
theorem d_R_lies_25 : decode prog_10_method_53_code 25 = .ok (.iconst 1, 1) := by decide +kernel
theorem d_R_lies_26 : decode prog_10_method_53_code 26 = .ok (.goto 4, 3) := by decide +kernel
theorem d_R_lies_29 : decode prog_10_method_53_code 29 = .ok (.iconst 0, 1) := by decide +kernel
theorem d_R_lies_30 : decode prog_10_method_53_code 30 = .ok (.ireturn, 1) := by decide +kernel
theorem d_R_expected_0 : decode prog_10_method_54_code 0 = .ok (.iconst 0, 1) := by decide +kernel
theorem d_R_expected_1 : decode prog_10_method_54_code 1 = .ok (.istore_n 2, 1) := by decide +kernel
theorem d_R_expected_2 : decode prog_10_method_54_code 2 = .ok (.iconst 0, 1) := by decide +kernel
theorem d_R_expected_3 : decode prog_10_method_54_code 3 = .ok (.istore_n 3, 1) := by decide +kernel
theorem d_R_expected_4 : decode prog_10_method_54_code 4 = .ok (.iload_n 3, 1) := by decide +kernel
theorem d_R_expected_5 : decode prog_10_method_54_code 5 = .ok (.aload_n 0, 1) := by decide +kernel
theorem d_R_expected_6 : decode prog_10_method_54_code 6 = .ok (.getfield 244, 3) := by decide +kernel
theorem d_R_expected_9 : decode prog_10_method_54_code 9 = .ok (.if_icmp .ge 61, 3) := by decide +kernel
theorem d_R_expected_12 : decode prog_10_method_54_code 12 = .ok (.iload_n 2, 1) := by decide +kernel
theorem d_R_expected_13 : decode prog_10_method_54_code 13 = .ok (.aload_n 0, 1) := by decide +kernel
theorem d_R_expected_14 : decode prog_10_method_54_code 14 = .ok (.getfield 90, 3) := by decide +kernel
theorem d_R_expected_17 : decode prog_10_method_54_code 17 = .ok (.iload_n 3, 1) := by decide +kernel
theorem d_R_expected_18 : decode prog_10_method_54_code 18 = .ok (.iaload, 1) := by decide +kernel
theorem d_R_expected_19 : decode prog_10_method_54_code 19 = .ok (.aload_n 0, 1) := by decide +kernel
theorem d_R_expected_20 : decode prog_10_method_54_code 20 = .ok (.getfield 96, 3) := by decide +kernel
theorem d_R_expected_23 : decode prog_10_method_54_code 23 = .ok (.iload_n 3, 1) := by decide +kernel
theorem d_R_expected_24 : decode prog_10_method_54_code 24 = .ok (.iaload, 1) := by decide +kernel
theorem d_R_expected_25 : decode prog_10_method_54_code 25 = .ok (.iload_n 1, 1) := by decide +kernel
theorem d_R_expected_26 : decode prog_10_method_54_code 26 = .ok (.invokestatic 261, 3) := by decide +kernel
theorem d_R_expected_29 : decode prog_10_method_54_code 29 = .ok (.ifCond .eq 7, 3) := by decide +kernel
theorem d_R_expected_32 : decode prog_10_method_54_code 32 = .ok (.iconst 2, 1) := by decide +kernel
theorem d_R_expected_33 : decode prog_10_method_54_code 33 = .ok (.goto 4, 3) := by decide +kernel
theorem d_R_expected_36 : decode prog_10_method_54_code 36 = .ok (.iconst 0, 1) := by decide +kernel
theorem d_R_expected_37 : decode prog_10_method_54_code 37 = .ok (.aload_n 0, 1) := by decide +kernel
theorem d_R_expected_38 : decode prog_10_method_54_code 38 = .ok (.getfield 93, 3) := by decide +kernel
theorem d_R_expected_41 : decode prog_10_method_54_code 41 = .ok (.iload_n 3, 1) := by decide +kernel
theorem d_R_expected_42 : decode prog_10_method_54_code 42 = .ok (.iaload, 1) := by decide +kernel
theorem d_R_expected_43 : decode prog_10_method_54_code 43 = .ok (.aload_n 0, 1) := by decide +kernel
theorem d_R_expected_44 : decode prog_10_method_54_code 44 = .ok (.getfield 99, 3) := by decide +kernel
theorem d_R_expected_47 : decode prog_10_method_54_code 47 = .ok (.iload_n 3, 1) := by decide +kernel
theorem d_R_expected_48 : decode prog_10_method_54_code 48 = .ok (.iaload, 1) := by decide +kernel
theorem d_R_expected_49 : decode prog_10_method_54_code 49 = .ok (.iload_n 1, 1) := by decide +kernel
theorem d_R_expected_50 : decode prog_10_method_54_code 50 = .ok (.invokestatic 261, 3) := by decide +kernel
theorem d_R_expected_53 : decode prog_10_method_54_code 53 = .ok (.ifCond .eq 7, 3) := by decide +kernel
theorem d_R_expected_56 : decode prog_10_method_54_code 56 = .ok (.iconst 1, 1) := by decide +kernel
theorem d_R_expected_57 : decode prog_10_method_54_code 57 = .ok (.goto 4, 3) := by decide +kernel
theorem d_R_expected_60 : decode prog_10_method_54_code 60 = .ok (.iconst 0, 1) := by decide +kernel
theorem d_R_expected_61 : decode prog_10_method_54_code 61 = .ok (.iadd, 1) := by decide +kernel
theorem d_R_expected_62 : decode prog_10_method_54_code 62 = .ok (.iadd, 1) := by decide +kernel
theorem d_R_expected_63 : decode prog_10_method_54_code 63 = .ok (.istore_n 2, 1) := by decide +kernel
theorem d_R_expected_64 : decode prog_10_method_54_code 64 = .ok (.iinc 3 1, 3) := by decide +kernel
theorem d_R_expected_67 : decode prog_10_method_54_code 67 = .ok (.goto (-63), 3) := by decide +kernel
theorem d_R_expected_70 : decode prog_10_method_54_code 70 = .ok (.iload_n 2, 1) := by decide +kernel
theorem d_R_expected_71 : decode prog_10_method_54_code 71 = .ok (.ireturn, 1) := by decide +kernel
theorem d_R_cycle_0 : decode prog_10_method_55_code 0 = .ok (.aload_n 0, 1) := by decide +kernel
theorem d_R_cycle_1 : decode prog_10_method_55_code 1 = .ok (.getfield 244, 3) := by decide +kernel
theorem d_R_cycle_4 : decode prog_10_method_55_code 4 = .ok (.ifCond .eq 10, 3) := by decide +kernel
theorem d_R_cycle_7 : decode prog_10_method_55_code 7 = .ok (.aload_n 0, 1) := by decide +kernel
theorem d_R_cycle_8 : decode prog_10_method_55_code 8 = .ok (.getfield 247, 3) := by decide +kernel
theorem d_R_cycle_11 : decode prog_10_method_55_code 11 = .ok (.ifCond .ne 5, 3) := by decide +kernel
theorem d_R_cycle_14 : decode prog_10_method_55_code 14 = .ok (.iconst (-1), 1) := by decide +kernel
theorem d_R_cycle_15 : decode prog_10_method_55_code 15 = .ok (.ireturn, 1) := by decide +kernel
theorem d_R_cycle_16 : decode prog_10_method_55_code 16 = .ok (.aload_n 0, 1) := by decide +kernel
theorem d_R_cycle_17 : decode prog_10_method_55_code 17 = .ok (.getfield 247, 3) := by decide +kernel
theorem d_R_cycle_20 : decode prog_10_method_55_code 20 = .ok (.bipush 7, 2) := by decide +kernel
theorem d_R_cycle_22 : decode prog_10_method_55_code 22 = .ok (.iadd, 1) := by decide +kernel
theorem d_R_cycle_23 : decode prog_10_method_55_code 23 = .ok (.bipush 8, 2) := by decide +kernel
theorem d_R_cycle_25 : decode prog_10_method_55_code 25 = .ok (.idiv, 1) := by decide +kernel
theorem d_R_cycle_26 : decode prog_10_method_55_code 26 = .ok (.istore_n 1, 1) := by decide +kernel
theorem d_R_cycle_27 : decode prog_10_method_55_code 27 = .ok (.iconst 0, 1) := by decide +kernel
theorem d_R_cycle_28 : decode prog_10_method_55_code 28 = .ok (.istore_n 2, 1) := by decide +kernel
theorem d_R_cycle_29 : decode prog_10_method_55_code 29 = .ok (.iload_n 2, 1) := by decide +kernel
theorem d_R_cycle_30 : decode prog_10_method_55_code 30 = .ok (.iload_n 1, 1) := by decide +kernel
theorem d_R_cycle_31 : decode prog_10_method_55_code 31 = .ok (.if_icmp .ge 45, 3) := by decide +kernel
theorem d_R_cycle_34 : decode prog_10_method_55_code 34 = .ok (.aload_n 0, 1) := by decide +kernel
theorem d_R_cycle_35 : decode prog_10_method_55_code 35 = .ok (.getfield 247, 3) := by decide +kernel
theorem d_R_cycle_38 : decode prog_10_method_55_code 38 = .ok (.bipush 8, 2) := by decide +kernel
theorem d_R_cycle_40 : decode prog_10_method_55_code 40 = .ok (.iload_n 2, 1) := by decide +kernel
theorem d_R_cycle_41 : decode prog_10_method_55_code 41 = .ok (.imul, 1) := by decide +kernel
theorem d_R_cycle_42 : decode prog_10_method_55_code 42 = .ok (.isub, 1) := by decide +kernel
theorem d_R_cycle_43 : decode prog_10_method_55_code 43 = .ok (.istore_n 3, 1) := by decide +kernel
theorem d_R_cycle_44 : decode prog_10_method_55_code 44 = .ok (.aload_n 0, 1) := by decide +kernel
theorem d_R_cycle_45 : decode prog_10_method_55_code 45 = .ok (.iconst 3, 1) := by decide +kernel
theorem d_R_cycle_46 : decode prog_10_method_55_code 46 = .ok (.iload_n 2, 1) := by decide +kernel
theorem d_R_cycle_47 : decode prog_10_method_55_code 47 = .ok (.iadd, 1) := by decide +kernel
theorem d_R_cycle_48 : decode prog_10_method_55_code 48 = .ok (.bipush 12, 2) := by decide +kernel
theorem d_R_cycle_50 : decode prog_10_method_55_code 50 = .ok (.bipush 8, 2) := by decide +kernel
theorem d_R_cycle_52 : decode prog_10_method_55_code 52 = .ok (.iload_n 2, 1) := by decide +kernel
theorem d_R_cycle_53 : decode prog_10_method_55_code 53 = .ok (.imul, 1) := by decide +kernel
theorem d_R_cycle_54 : decode prog_10_method_55_code 54 = .ok (.iconst 0, 1) := by decide +kernel
theorem d_R_cycle_55 : decode prog_10_method_55_code 55 = .ok (.iload_n 3, 1) := by decide +kernel
theorem d_R_cycle_56 : decode prog_10_method_55_code 56 = .ok (.bipush 8, 2) := by decide +kernel
theorem d_R_cycle_58 : decode prog_10_method_55_code 58 = .ok (.if_icmp .ge 7, 3) := by decide +kernel
theorem d_R_cycle_61 : decode prog_10_method_55_code 61 = .ok (.iload_n 3, 1) := by decide +kernel
theorem d_R_cycle_62 : decode prog_10_method_55_code 62 = .ok (.goto 5, 3) := by decide +kernel
theorem d_R_cycle_65 : decode prog_10_method_55_code 65 = .ok (.bipush 8, 2) := by decide +kernel
theorem d_R_cycle_67 : decode prog_10_method_55_code 67 = .ok (.invokevirtual 200, 3) := by decide +kernel
theorem d_R_cycle_70 : decode prog_10_method_55_code 70 = .ok (.iinc 2 1, 3) := by decide +kernel
theorem d_R_cycle_73 : decode prog_10_method_55_code 73 = .ok (.goto (-44), 3) := by decide +kernel
theorem d_R_cycle_76 : decode prog_10_method_55_code 76 = .ok (.iconst 0, 1) := by decide +kernel
theorem d_R_cycle_77 : decode prog_10_method_55_code 77 = .ok (.istore_n 2, 1) := by decide +kernel
theorem d_R_cycle_78 : decode prog_10_method_55_code 78 = .ok (.iload_n 2, 1) := by decide +kernel
theorem d_R_cycle_79 : decode prog_10_method_55_code 79 = .ok (.aload_n 0, 1) := by decide +kernel
theorem d_R_cycle_80 : decode prog_10_method_55_code 80 = .ok (.getfield 247, 3) := by decide +kernel
theorem d_R_cycle_83 : decode prog_10_method_55_code 83 = .ok (.if_icmp .ge 24, 3) := by decide +kernel
theorem d_R_cycle_86 : decode prog_10_method_55_code 86 = .ok (.aload_n 0, 1) := by decide +kernel
theorem d_R_cycle_87 : decode prog_10_method_55_code 87 = .ok (.getfield 81, 3) := by decide +kernel
theorem d_R_cycle_90 : decode prog_10_method_55_code 90 = .ok (.bipush 24, 2) := by decide +kernel
theorem d_R_cycle_92 : decode prog_10_method_55_code 92 = .ok (.iload_n 2, 1) := by decide +kernel
theorem d_R_cycle_93 : decode prog_10_method_55_code 93 = .ok (.iadd, 1) := by decide +kernel
theorem d_R_cycle_94 : decode prog_10_method_55_code 94 = .ok (.aload_n 0, 1) := by decide +kernel
theorem d_R_cycle_95 : decode prog_10_method_55_code 95 = .ok (.getfield 102, 3) := by decide +kernel
theorem d_R_cycle_98 : decode prog_10_method_55_code 98 = .ok (.iload_n 2, 1) := by decide +kernel
theorem d_R_cycle_99 : decode prog_10_method_55_code 99 = .ok (.iaload, 1) := by decide +kernel
theorem d_R_cycle_100 : decode prog_10_method_55_code 100 = .ok (.iastore, 1) := by decide +kernel
theorem d_R_cycle_101 : decode prog_10_method_55_code 101 = .ok (.iinc 2 1, 3) := by decide +kernel
theorem d_R_cycle_104 : decode prog_10_method_55_code 104 = .ok (.goto (-26), 3) := by decide +kernel
theorem d_R_cycle_107 : decode prog_10_method_55_code 107 = .ok (.aload_n 0, 1) := by decide +kernel
theorem d_R_cycle_108 : decode prog_10_method_55_code 108 = .ok (.iload_n 1, 1) := by decide +kernel
theorem d_R_cycle_109 : decode prog_10_method_55_code 109 = .ok (.putfield 185, 3) := by decide +kernel
theorem d_R_cycle_112 : decode prog_10_method_55_code 112 = .ok (.aload_n 0, 1) := by decide +kernel
theorem d_R_cycle_113 : decode prog_10_method_55_code 113 = .ok (.invokevirtual 204, 3) := by decide +kernel
theorem d_R_cycle_116 : decode prog_10_method_55_code 116 = .ok (.ifCond .ne 5, 3) := by decide +kernel
theorem d_R_cycle_119 : decode prog_10_method_55_code 119 = .ok (.iconst 1, 1) := by decide +kernel
theorem d_R_cycle_120 : decode prog_10_method_55_code 120 = .ok (.ireturn, 1) := by decide +kernel
theorem d_R_cycle_121 : decode prog_10_method_55_code 121 = .ok (.iconst 0, 1) := by decide +kernel
theorem d_R_cycle_122 : decode prog_10_method_55_code 122 = .ok (.istore_n 2, 1) := by decide +kernel
theorem d_R_cycle_123 : decode prog_10_method_55_code 123 = .ok (.iload_n 2, 1) := by decide +kernel
theorem d_R_cycle_124 : decode prog_10_method_55_code 124 = .ok (.iload_n 1, 1) := by decide +kernel
theorem d_R_cycle_125 : decode prog_10_method_55_code 125 = .ok (.if_icmp .ge 30, 3) := by decide +kernel
theorem d_R_cycle_128 : decode prog_10_method_55_code 128 = .ok (.aload_n 0, 1) := by decide +kernel
theorem d_R_cycle_129 : decode prog_10_method_55_code 129 = .ok (.getfield 78, 3) := by decide +kernel
theorem d_R_cycle_132 : decode prog_10_method_55_code 132 = .ok (.bipush 6, 2) := by decide +kernel
theorem d_R_cycle_134 : decode prog_10_method_55_code 134 = .ok (.iload_n 2, 1) := by decide +kernel
theorem d_R_cycle_135 : decode prog_10_method_55_code 135 = .ok (.iadd, 1) := by decide +kernel
theorem d_R_cycle_136 : decode prog_10_method_55_code 136 = .ok (.iaload, 1) := by decide +kernel
theorem d_R_cycle_137 : decode prog_10_method_55_code 137 = .ok (.aload_n 0, 1) := by decide +kernel
theorem d_R_cycle_138 : decode prog_10_method_55_code 138 = .ok (.iload_n 2, 1) := by decide +kernel
theorem d_R_cycle_139 : decode prog_10_method_55_code 139 = .ok (.invokevirtual 264, 3) := by decide +kernel
theorem d_R_cycle_142 : decode prog_10_method_55_code 142 = .ok (.if_icmp .eq 7, 3) := by decide +kernel
theorem d_R_cycle_145 : decode prog_10_method_55_code 145 = .ok (.iconst 2, 1) := by decide +kernel
theorem d_R_cycle_146 : decode prog_10_method_55_code 146 = .ok (.iload_n 2, 1) := by decide +kernel
theorem d_R_cycle_147 : decode prog_10_method_55_code 147 = .ok (.iadd, 1) := by decide +kernel
theorem d_R_cycle_148 : decode prog_10_method_55_code 148 = .ok (.ireturn, 1) := by decide +kernel
theorem d_R_cycle_149 : decode prog_10_method_55_code 149 = .ok (.iinc 2 1, 3) := by decide +kernel
theorem d_R_cycle_152 : decode prog_10_method_55_code 152 = .ok (.goto (-29), 3) := by decide +kernel
theorem d_R_cycle_155 : decode prog_10_method_55_code 155 = .ok (.iconst 0, 1) := by decide +kernel
theorem d_R_cycle_156 : decode prog_10_method_55_code 156 = .ok (.istore_n 2, 1) := by decide +kernel
theorem d_R_cycle_157 : decode prog_10_method_55_code 157 = .ok (.iload_n 2, 1) := by decide +kernel
theorem d_R_cycle_158 : decode prog_10_method_55_code 158 = .ok (.aload_n 0, 1) := by decide +kernel
theorem d_R_cycle_159 : decode prog_10_method_55_code 159 = .ok (.getfield 247, 3) := by decide +kernel
theorem d_R_cycle_162 : decode prog_10_method_55_code 162 = .ok (.if_icmp .ge 24, 3) := by decide +kernel
theorem d_R_cycle_165 : decode prog_10_method_55_code 165 = .ok (.aload_n 0, 1) := by decide +kernel
theorem d_R_cycle_166 : decode prog_10_method_55_code 166 = .ok (.getfield 105, 3) := by decide +kernel
theorem d_R_cycle_169 : decode prog_10_method_55_code 169 = .ok (.iload_n 2, 1) := by decide +kernel
theorem d_R_cycle_170 : decode prog_10_method_55_code 170 = .ok (.aload_n 0, 1) := by decide +kernel
theorem d_R_cycle_171 : decode prog_10_method_55_code 171 = .ok (.getfield 81, 3) := by decide +kernel
theorem d_R_cycle_174 : decode prog_10_method_55_code 174 = .ok (.bipush 48, 2) := by decide +kernel
theorem d_R_cycle_176 : decode prog_10_method_55_code 176 = .ok (.iload_n 2, 1) := by decide +kernel
theorem d_R_cycle_177 : decode prog_10_method_55_code 177 = .ok (.iadd, 1) := by decide +kernel
theorem d_R_cycle_178 : decode prog_10_method_55_code 178 = .ok (.iaload, 1) := by decide +kernel
theorem d_R_cycle_179 : decode prog_10_method_55_code 179 = .ok (.iastore, 1) := by decide +kernel
theorem d_R_cycle_180 : decode prog_10_method_55_code 180 = .ok (.iinc 2 1, 3) := by decide +kernel
theorem d_R_cycle_183 : decode prog_10_method_55_code 183 = .ok (.goto (-26), 3) := by decide +kernel
theorem d_R_cycle_186 : decode prog_10_method_55_code 186 = .ok (.iconst 0, 1) := by decide +kernel
theorem d_R_cycle_187 : decode prog_10_method_55_code 187 = .ok (.ireturn, 1) := by decide +kernel
theorem d_R_data_0 : decode prog_10_method_29_code 0 = .ok (.iload_n 1, 1) := by decide +kernel
theorem d_R_data_1 : decode prog_10_method_29_code 1 = .ok (.ifCond .lt 25, 3) := by decide +kernel
theorem d_R_data_4 : decode prog_10_method_29_code 4 = .ok (.iload_n 1, 1) := by decide +kernel
theorem d_R_data_5 : decode prog_10_method_29_code 5 = .ok (.aload_n 0, 1) := by decide +kernel
theorem d_R_data_6 : decode prog_10_method_29_code 6 = .ok (.getfield 197, 3) := by decide +kernel
theorem d_R_data_9 : decode prog_10_method_29_code 9 = .ok (.if_icmp .ge 17, 3) := by decide +kernel
theorem d_R_data_12 : decode prog_10_method_29_code 12 = .ok (.iload_n 2, 1) := by decide +kernel
theorem d_R_data_13 : decode prog_10_method_29_code 13 = .ok (.ifCond .lt 13, 3) := by decide +kernel
theorem d_R_data_16 : decode prog_10_method_29_code 16 = .ok (.iload_n 2, 1) := by decide +kernel
theorem d_R_data_17 : decode prog_10_method_29_code 17 = .ok (.aload_n 0, 1) := by decide +kernel
theorem d_R_data_18 : decode prog_10_method_29_code 18 = .ok (.getfield 75, 3) := by decide +kernel
theorem d_R_data_21 : decode prog_10_method_29_code 21 = .ok (.iload_n 1, 1) := by decide +kernel
theorem d_R_data_22 : decode prog_10_method_29_code 22 = .ok (.iaload, 1) := by decide +kernel
theorem d_R_data_23 : decode prog_10_method_29_code 23 = .ok (.if_icmp .lt 5, 3) := by decide +kernel
theorem d_R_data_26 : decode prog_10_method_29_code 26 = .ok (.iconst 0, 1) := by decide +kernel
theorem d_R_data_27 : decode prog_10_method_29_code 27 = .ok (.ireturn, 1) := by decide +kernel
theorem d_R_data_28 : decode prog_10_method_29_code 28 = .ok (.aload_n 0, 1) := by decide +kernel
theorem d_R_data_29 : decode prog_10_method_29_code 29 = .ok (.getfield 81, 3) := by decide +kernel
theorem d_R_data_32 : decode prog_10_method_29_code 32 = .ok (.bipush 8, 2) := by decide +kernel
theorem d_R_data_34 : decode prog_10_method_29_code 34 = .ok (.iload_n 1, 1) := by decide +kernel
theorem d_R_data_35 : decode prog_10_method_29_code 35 = .ok (.imul, 1) := by decide +kernel
theorem d_R_data_36 : decode prog_10_method_29_code 36 = .ok (.iload_n 2, 1) := by decide +kernel
theorem d_R_data_37 : decode prog_10_method_29_code 37 = .ok (.iadd, 1) := by decide +kernel
theorem d_R_data_38 : decode prog_10_method_29_code 38 = .ok (.iload_n 3, 1) := by decide +kernel
theorem d_R_data_39 : decode prog_10_method_29_code 39 = .ok (.sipush 255, 3) := by decide +kernel
theorem d_R_data_42 : decode prog_10_method_29_code 42 = .ok (.iand, 1) := by decide +kernel
theorem d_R_data_43 : decode prog_10_method_29_code 43 = .ok (.iastore, 1) := by decide +kernel
theorem d_R_data_44 : decode prog_10_method_29_code 44 = .ok (.iconst 1, 1) := by decide +kernel
theorem d_R_data_45 : decode prog_10_method_29_code 45 = .ok (.ireturn, 1) := by decide +kernel
theorem d_R_datagram_0 : decode prog_10_method_27_code 0 = .ok (.iload_n 1, 1) := by decide +kernel
theorem d_R_datagram_1 : decode prog_10_method_27_code 1 = .ok (.iconst 1, 1) := by decide +kernel
theorem d_R_datagram_2 : decode prog_10_method_27_code 2 = .ok (.if_icmp .eq 42, 3) := by decide +kernel
theorem d_R_datagram_5 : decode prog_10_method_27_code 5 = .ok (.iload_n 1, 1) := by decide +kernel
theorem d_R_datagram_6 : decode prog_10_method_27_code 6 = .ok (.iconst 2, 1) := by decide +kernel
theorem d_R_datagram_7 : decode prog_10_method_27_code 7 = .ok (.if_icmp .eq 37, 3) := by decide +kernel
theorem d_R_datagram_10 : decode prog_10_method_27_code 10 = .ok (.iload_n 1, 1) := by decide +kernel
theorem d_R_datagram_11 : decode prog_10_method_27_code 11 = .ok (.iconst 4, 1) := by decide +kernel
theorem d_R_datagram_12 : decode prog_10_method_27_code 12 = .ok (.if_icmp .eq 32, 3) := by decide +kernel
theorem d_R_datagram_15 : decode prog_10_method_27_code 15 = .ok (.iload_n 1, 1) := by decide +kernel
theorem d_R_datagram_16 : decode prog_10_method_27_code 16 = .ok (.iconst 5, 1) := by decide +kernel
theorem d_R_datagram_17 : decode prog_10_method_27_code 17 = .ok (.if_icmp .eq 27, 3) := by decide +kernel
theorem d_R_datagram_20 : decode prog_10_method_27_code 20 = .ok (.iload_n 1, 1) := by decide +kernel
theorem d_R_datagram_21 : decode prog_10_method_27_code 21 = .ok (.bipush 7, 2) := by decide +kernel
theorem d_R_datagram_23 : decode prog_10_method_27_code 23 = .ok (.if_icmp .eq 21, 3) := by decide +kernel
theorem d_R_datagram_26 : decode prog_10_method_27_code 26 = .ok (.iload_n 1, 1) := by decide +kernel
theorem d_R_datagram_27 : decode prog_10_method_27_code 27 = .ok (.bipush 8, 2) := by decide +kernel
theorem d_R_datagram_29 : decode prog_10_method_27_code 29 = .ok (.if_icmp .eq 15, 3) := by decide +kernel
theorem d_R_datagram_32 : decode prog_10_method_27_code 32 = .ok (.iload_n 1, 1) := by decide +kernel
theorem d_R_datagram_33 : decode prog_10_method_27_code 33 = .ok (.bipush 10, 2) := by decide +kernel
theorem d_R_datagram_35 : decode prog_10_method_27_code 35 = .ok (.if_icmp .lt 13, 3) := by decide +kernel
theorem d_R_datagram_38 : decode prog_10_method_27_code 38 = .ok (.iload_n 1, 1) := by decide +kernel
theorem d_R_datagram_39 : decode prog_10_method_27_code 39 = .ok (.bipush 12, 2) := by decide +kernel
theorem d_R_datagram_41 : decode prog_10_method_27_code 41 = .ok (.if_icmp .gt 7, 3) := by decide +kernel
theorem d_R_datagram_44 : decode prog_10_method_27_code 44 = .ok (.iconst 1, 1) := by decide +kernel
theorem d_R_datagram_45 : decode prog_10_method_27_code 45 = .ok (.goto 4, 3) := by decide +kernel
theorem d_R_datagram_48 : decode prog_10_method_27_code 48 = .ok (.iconst 0, 1) := by decide +kernel
theorem d_R_datagram_49 : decode prog_10_method_27_code 49 = .ok (.istore 5, 2) := by decide +kernel
theorem d_R_datagram_51 : decode prog_10_method_27_code 51 = .ok (.aload_n 0, 1) := by decide +kernel
theorem d_R_datagram_52 : decode prog_10_method_27_code 52 = .ok (.getfield 197, 3) := by decide +kernel
theorem d_R_datagram_55 : decode prog_10_method_27_code 55 = .ok (.iconst 3, 1) := by decide +kernel
theorem d_R_datagram_56 : decode prog_10_method_27_code 56 = .ok (.if_icmp .eq 47, 3) := by decide +kernel
theorem d_R_datagram_59 : decode prog_10_method_27_code 59 = .ok (.iload 5, 2) := by decide +kernel
theorem d_R_datagram_61 : decode prog_10_method_27_code 61 = .ok (.ifCond .eq 42, 3) := by decide +kernel
theorem d_R_datagram_64 : decode prog_10_method_27_code 64 = .ok (.iload_n 2, 1) := by decide +kernel
theorem d_R_datagram_65 : decode prog_10_method_27_code 65 = .ok (.ifCond .lt 38, 3) := by decide +kernel
theorem d_R_datagram_68 : decode prog_10_method_27_code 68 = .ok (.iload_n 2, 1) := by decide +kernel
theorem d_R_datagram_69 : decode prog_10_method_27_code 69 = .ok (.ldc 184, 2) := by decide +kernel
theorem d_R_datagram_71 : decode prog_10_method_27_code 71 = .ok (.if_icmp .gt 32, 3) := by decide +kernel
theorem d_R_datagram_74 : decode prog_10_method_27_code 74 = .ok (.iload_n 1, 1) := by decide +kernel
theorem d_R_datagram_75 : decode prog_10_method_27_code 75 = .ok (.bipush 10, 2) := by decide +kernel
theorem d_R_datagram_77 : decode prog_10_method_27_code 77 = .ok (.if_icmp .ge 13, 3) := by decide +kernel
theorem d_R_datagram_80 : decode prog_10_method_27_code 80 = .ok (.iload_n 3, 1) := by decide +kernel
theorem d_R_datagram_81 : decode prog_10_method_27_code 81 = .ok (.ifCond .lt 22, 3) := by decide +kernel
theorem d_R_datagram_84 : decode prog_10_method_27_code 84 = .ok (.iload_n 3, 1) := by decide +kernel
theorem d_R_datagram_85 : decode prog_10_method_27_code 85 = .ok (.bipush 127, 2) := by decide +kernel
theorem d_R_datagram_87 : decode prog_10_method_27_code 87 = .ok (.if_icmp .gt 16, 3) := by decide +kernel
theorem d_R_datagram_90 : decode prog_10_method_27_code 90 = .ok (.iload 4, 2) := by decide +kernel
theorem d_R_datagram_92 : decode prog_10_method_27_code 92 = .ok (.iconst 1, 1) := by decide +kernel
theorem d_R_datagram_93 : decode prog_10_method_27_code 93 = .ok (.if_icmp .lt 10, 3) := by decide +kernel
theorem d_R_datagram_96 : decode prog_10_method_27_code 96 = .ok (.iload 4, 2) := by decide +kernel
theorem d_R_datagram_98 : decode prog_10_method_27_code 98 = .ok (.bipush 8, 2) := by decide +kernel
theorem d_R_datagram_100 : decode prog_10_method_27_code 100 = .ok (.if_icmp .le 5, 3) := by decide +kernel
theorem d_R_datagram_103 : decode prog_10_method_27_code 103 = .ok (.iconst (-1), 1) := by decide +kernel
theorem d_R_datagram_104 : decode prog_10_method_27_code 104 = .ok (.ireturn, 1) := by decide +kernel
theorem d_R_datagram_105 : decode prog_10_method_27_code 105 = .ok (.aload_n 0, 1) := by decide +kernel
theorem d_R_datagram_106 : decode prog_10_method_27_code 106 = .ok (.aload_n 0, 1) := by decide +kernel
theorem d_R_datagram_107 : decode prog_10_method_27_code 107 = .ok (.getfield 197, 3) := by decide +kernel
theorem d_R_datagram_110 : decode prog_10_method_27_code 110 = .ok (.iload_n 1, 1) := by decide +kernel
theorem d_R_datagram_111 : decode prog_10_method_27_code 111 = .ok (.iload_n 2, 1) := by decide +kernel
theorem d_R_datagram_112 : decode prog_10_method_27_code 112 = .ok (.iload_n 3, 1) := by decide +kernel
theorem d_R_datagram_113 : decode prog_10_method_27_code 113 = .ok (.iload 4, 2) := by decide +kernel
theorem d_R_datagram_115 : decode prog_10_method_27_code 115 = .ok (.invokevirtual 200, 3) := by decide +kernel
theorem d_R_datagram_118 : decode prog_10_method_27_code 118 = .ok (.aload_n 0, 1) := by decide +kernel
theorem d_R_datagram_119 : decode prog_10_method_27_code 119 = .ok (.dup, 1) := by decide +kernel
theorem d_R_datagram_120 : decode prog_10_method_27_code 120 = .ok (.getfield 197, 3) := by decide +kernel
theorem d_R_datagram_123 : decode prog_10_method_27_code 123 = .ok (.iconst 1, 1) := by decide +kernel
theorem d_R_datagram_124 : decode prog_10_method_27_code 124 = .ok (.iadd, 1) := by decide +kernel
theorem d_R_datagram_125 : decode prog_10_method_27_code 125 = .ok (.putfield 197, 3) := by decide +kernel
theorem d_R_datagram_128 : decode prog_10_method_27_code 128 = .ok (.aload_n 0, 1) := by decide +kernel
theorem d_R_datagram_129 : decode prog_10_method_27_code 129 = .ok (.getfield 197, 3) := by decide +kernel
theorem d_R_datagram_132 : decode prog_10_method_27_code 132 = .ok (.iconst 1, 1) := by decide +kernel
theorem d_R_datagram_133 : decode prog_10_method_27_code 133 = .ok (.isub, 1) := by decide +kernel
theorem d_R_datagram_134 : decode prog_10_method_27_code 134 = .ok (.ireturn, 1) := by decide +kernel
theorem d_R_input_0 : decode prog_10_method_56_code 0 = .ok (.aload_n 0, 1) := by decide +kernel
theorem d_R_input_1 : decode prog_10_method_56_code 1 = .ok (.getfield 244, 3) := by decide +kernel
theorem d_R_input_4 : decode prog_10_method_56_code 4 = .ok (.ifCond .le 24, 3) := by decide +kernel
theorem d_R_input_7 : decode prog_10_method_56_code 7 = .ok (.iload_n 1, 1) := by decide +kernel
theorem d_R_input_8 : decode prog_10_method_56_code 8 = .ok (.ifCond .lt 20, 3) := by decide +kernel
theorem d_R_input_11 : decode prog_10_method_56_code 11 = .ok (.iload_n 1, 1) := by decide +kernel
theorem d_R_input_12 : decode prog_10_method_56_code 12 = .ok (.aload_n 0, 1) := by decide +kernel
theorem d_R_input_13 : decode prog_10_method_56_code 13 = .ok (.getfield 247, 3) := by decide +kernel
theorem d_R_input_16 : decode prog_10_method_56_code 16 = .ok (.if_icmp .ge 12, 3) := by decide +kernel
theorem d_R_input_19 : decode prog_10_method_56_code 19 = .ok (.aload_n 0, 1) := by decide +kernel
theorem d_R_input_20 : decode prog_10_method_56_code 20 = .ok (.getfield 105, 3) := by decide +kernel
theorem d_R_input_23 : decode prog_10_method_56_code 23 = .ok (.iload_n 1, 1) := by decide +kernel
theorem d_R_input_24 : decode prog_10_method_56_code 24 = .ok (.iaload, 1) := by decide +kernel
theorem d_R_input_25 : decode prog_10_method_56_code 25 = .ok (.goto 4, 3) := by decide +kernel
theorem d_R_input_28 : decode prog_10_method_56_code 28 = .ok (.iconst (-1), 1) := by decide +kernel
theorem d_R_input_29 : decode prog_10_method_56_code 29 = .ok (.ireturn, 1) := by decide +kernel
theorem d_R_output_0 : decode prog_10_method_52_code 0 = .ok (.aload_n 0, 1) := by decide +kernel
theorem d_R_output_1 : decode prog_10_method_52_code 1 = .ok (.getfield 244, 3) := by decide +kernel
theorem d_R_output_4 : decode prog_10_method_52_code 4 = .ok (.ifCond .eq 15, 3) := by decide +kernel
theorem d_R_output_7 : decode prog_10_method_52_code 7 = .ok (.iload_n 1, 1) := by decide +kernel
theorem d_R_output_8 : decode prog_10_method_52_code 8 = .ok (.ifCond .lt 11, 3) := by decide +kernel
theorem d_R_output_11 : decode prog_10_method_52_code 11 = .ok (.iload_n 1, 1) := by decide +kernel
theorem d_R_output_12 : decode prog_10_method_52_code 12 = .ok (.aload_n 0, 1) := by decide +kernel
theorem d_R_output_13 : decode prog_10_method_52_code 13 = .ok (.getfield 247, 3) := by decide +kernel
theorem d_R_output_16 : decode prog_10_method_52_code 16 = .ok (.if_icmp .lt 5, 3) := by decide +kernel
theorem d_R_output_19 : decode prog_10_method_52_code 19 = .ok (.iconst 0, 1) := by decide +kernel
theorem d_R_output_20 : decode prog_10_method_52_code 20 = .ok (.ireturn, 1) := by decide +kernel
theorem d_R_output_21 : decode prog_10_method_52_code 21 = .ok (.aload_n 0, 1) := by decide +kernel
theorem d_R_output_22 : decode prog_10_method_52_code 22 = .ok (.getfield 102, 3) := by decide +kernel
theorem d_R_output_25 : decode prog_10_method_52_code 25 = .ok (.iload_n 1, 1) := by decide +kernel
theorem d_R_output_26 : decode prog_10_method_52_code 26 = .ok (.iload_n 2, 1) := by decide +kernel
theorem d_R_output_27 : decode prog_10_method_52_code 27 = .ok (.sipush 255, 3) := by decide +kernel
theorem d_R_output_30 : decode prog_10_method_52_code 30 = .ok (.iand, 1) := by decide +kernel
theorem d_R_output_31 : decode prog_10_method_52_code 31 = .ok (.iastore, 1) := by decide +kernel
theorem d_R_output_32 : decode prog_10_method_52_code 32 = .ok (.iconst 1, 1) := by decide +kernel
theorem d_R_output_33 : decode prog_10_method_52_code 33 = .ok (.ireturn, 1) := by decide +kernel
theorem d_R_single_0 : decode prog_10_method_46_code 0 = .ok (.aload_n 0, 1) := by decide +kernel
theorem d_R_single_1 : decode prog_10_method_46_code 1 = .ok (.iconst 3, 1) := by decide +kernel
theorem d_R_single_2 : decode prog_10_method_46_code 2 = .ok (.iload_n 1, 1) := by decide +kernel
theorem d_R_single_3 : decode prog_10_method_46_code 3 = .ok (.iload_n 2, 1) := by decide +kernel
theorem d_R_single_4 : decode prog_10_method_46_code 4 = .ok (.iload_n 3, 1) := by decide +kernel
theorem d_R_single_5 : decode prog_10_method_46_code 5 = .ok (.iconst 1, 1) := by decide +kernel
theorem d_R_single_6 : decode prog_10_method_46_code 6 = .ok (.invokevirtual 200, 3) := by decide +kernel
theorem d_R_single_9 : decode prog_10_method_46_code 9 = .ok (.aload_n 0, 1) := by decide +kernel
theorem d_R_single_10 : decode prog_10_method_46_code 10 = .ok (.getfield 81, 3) := by decide +kernel
theorem d_R_single_13 : decode prog_10_method_46_code 13 = .ok (.bipush 24, 2) := by decide +kernel
theorem d_R_single_15 : decode prog_10_method_46_code 15 = .ok (.iload 4, 2) := by decide +kernel
theorem d_R_single_17 : decode prog_10_method_46_code 17 = .ok (.sipush 255, 3) := by decide +kernel
theorem d_R_single_20 : decode prog_10_method_46_code 20 = .ok (.iand, 1) := by decide +kernel
theorem d_R_single_21 : decode prog_10_method_46_code 21 = .ok (.iastore, 1) := by decide +kernel
theorem d_R_single_22 : decode prog_10_method_46_code 22 = .ok (.aload_n 0, 1) := by decide +kernel
theorem d_R_single_23 : decode prog_10_method_46_code 23 = .ok (.iconst 1, 1) := by decide +kernel
theorem d_R_single_24 : decode prog_10_method_46_code 24 = .ok (.putfield 185, 3) := by decide +kernel
theorem d_R_single_27 : decode prog_10_method_46_code 27 = .ok (.aload_n 0, 1) := by decide +kernel
theorem d_R_single_28 : decode prog_10_method_46_code 28 = .ok (.invokevirtual 204, 3) := by decide +kernel
theorem d_R_single_31 : decode prog_10_method_46_code 31 = .ok (.ireturn, 1) := by decide +kernel
theorem d_R_request_0 : decode prog_10_method_51_code 0 = .ok (.aload_n 0, 1) := by decide +kernel
theorem d_R_request_1 : decode prog_10_method_51_code 1 = .ok (.bipush 8, 2) := by decide +kernel
theorem d_R_request_3 : decode prog_10_method_51_code 3 = .ok (.iconst 0, 1) := by decide +kernel
theorem d_R_request_4 : decode prog_10_method_51_code 4 = .ok (.iconst 1, 1) := by decide +kernel
theorem d_R_request_5 : decode prog_10_method_51_code 5 = .ok (.iload_n 1, 1) := by decide +kernel
theorem d_R_request_6 : decode prog_10_method_51_code 6 = .ok (.invokevirtual 250, 3) := by decide +kernel
theorem d_R_request_9 : decode prog_10_method_51_code 9 = .ok (.ifCond .eq 13, 3) := by decide +kernel
