theorem d_E_isOpenAs_27 : decode prog_7_method_3_code 27 = .ok (.goto 4, 3) := by decide +kernel
theorem d_E_isOpenAs_30 : decode prog_7_method_3_code 30 = .ok (.iconst 0, 1) := by decide +kernel
theorem d_E_isOpenAs_31 : decode prog_7_method_3_code 31 = .ok (.ireturn, 1) := by decide +kernel
theorem d_S_present_0 : decode prog_8_method_6_code 0 = .ok (.aload_n 0, 1) := by decide +kernel
theorem d_S_present_1 : decode prog_8_method_6_code 1 = .ok (.getfield 21, 3) := by decide +kernel
theorem d_S_present_4 : decode prog_8_method_6_code 4 = .ok (.getfield 45, 3) := by decide +kernel
theorem d_S_present_7 : decode prog_8_method_6_code 7 = .ok (.iconst 2, 1) := by decide +kernel
theorem d_S_present_8 : decode prog_8_method_6_code 8 = .ok (.iaload, 1) := by decide +kernel
theorem d_S_present_9 : decode prog_8_method_6_code 9 = .ok (.bipush (-17), 2) := by decide +kernel
theorem d_S_present_11 : decode prog_8_method_6_code 11 = .ok (.iand, 1) := by decide +kernel
theorem d_S_present_12 : decode prog_8_method_6_code 12 = .ok (.ireturn, 1) := by decide +kernel
theorem d_S_moveActuators_0 : decode prog_8_method_16_code 0 = .ok (.aload_n 0, 1) := by decide +kernel
theorem d_S_moveActuators_1 : decode prog_8_method_16_code 1 = .ok (.invokevirtual 115, 3) := by decide +kernel
theorem d_S_moveActuators_4 : decode prog_8_method_16_code 4 = .ok (.bipush 8, 2) := by decide +kernel
theorem d_S_moveActuators_6 : decode prog_8_method_16_code 6 = .ok (.if_icmp .eq 14, 3) := by decide +kernel
theorem d_S_moveActuators_9 : decode prog_8_method_16_code 9 = .ok (.aload_n 0, 1) := by decide +kernel
theorem d_S_moveActuators_10 : decode prog_8_method_16_code 10 = .ok (.getfield 15, 3) := by decide +kernel
theorem d_S_moveActuators_13 : decode prog_8_method_16_code 13 = .ok (.iconst 0, 1) := by decide +kernel
theorem d_S_moveActuators_14 : decode prog_8_method_16_code 14 = .ok (.invokestatic 183, 3) := by decide +kernel
theorem d_S_moveActuators_17 : decode prog_8_method_16_code 17 = .ok (.goto 60, 3) := by decide +kernel
theorem d_S_moveActuators_20 : decode prog_8_method_16_code 20 = .ok (.aload_n 0, 1) := by decide +kernel
theorem d_S_moveActuators_21 : decode prog_8_method_16_code 21 = .ok (.getfield 38, 3) := by decide +kernel
theorem d_S_moveActuators_24 : decode prog_8_method_16_code 24 = .ok (.ifCond .le 53, 3) := by decide +kernel
theorem d_S_moveActuators_27 : decode prog_8_method_16_code 27 = .ok (.aload_n 0, 1) := by decide +kernel
theorem d_S_moveActuators_28 : decode prog_8_method_16_code 28 = .ok (.getfield 21, 3) := by decide +kernel
theorem d_S_moveActuators_31 : decode prog_8_method_16_code 31 = .ok (.iconst 2, 1) := by decide +kernel
theorem d_S_moveActuators_32 : decode prog_8_method_16_code 32 = .ok (.iconst 2, 1) := by decide +kernel
theorem d_S_moveActuators_33 : decode prog_8_method_16_code 33 = .ok (.aload_n 0, 1) := by decide +kernel
theorem d_S_moveActuators_34 : decode prog_8_method_16_code 34 = .ok (.getfield 38, 3) := by decide +kernel
theorem d_S_moveActuators_37 : decode prog_8_method_16_code 37 = .ok (.invokevirtual 164, 3) := by decide +kernel
theorem d_S_moveActuators_40 : decode prog_8_method_16_code 40 = .ok (.ifCond .eq 37, 3) := by decide +kernel
theorem d_S_moveActuators_43 : decode prog_8_method_16_code 43 = .ok (.aload_n 0, 1) := by decide +kernel
theorem d_S_moveActuators_44 : decode prog_8_method_16_code 44 = .ok (.getfield 21, 3) := by decide +kernel
theorem d_S_moveActuators_47 : decode prog_8_method_16_code 47 = .ok (.getfield 156, 3) := by decide +kernel
theorem d_S_moveActuators_50 : decode prog_8_method_16_code 50 = .ok (.iconst 2, 1) := by decide +kernel
theorem d_S_moveActuators_51 : decode prog_8_method_16_code 51 = .ok (.baload, 1) := by decide +kernel
theorem d_S_moveActuators_52 : decode prog_8_method_16_code 52 = .ok (.ifCond .eq 25, 3) := by decide +kernel
theorem d_S_moveActuators_55 : decode prog_8_method_16_code 55 = .ok (.aload_n 0, 1) := by decide +kernel
theorem d_S_moveActuators_56 : decode prog_8_method_16_code 56 = .ok (.getfield 21, 3) := by decide +kernel
theorem d_S_moveActuators_59 : decode prog_8_method_16_code 59 = .ok (.getfield 171, 3) := by decide +kernel
theorem d_S_moveActuators_62 : decode prog_8_method_16_code 62 = .ok (.iconst 2, 1) := by decide +kernel
theorem d_S_moveActuators_63 : decode prog_8_method_16_code 63 = .ok (.aaload, 1) := by decide +kernel
theorem d_S_moveActuators_64 : decode prog_8_method_16_code 64 = .ok (.iconst 0, 1) := by decide +kernel
theorem d_S_moveActuators_65 : decode prog_8_method_16_code 65 = .ok (.aload_n 0, 1) := by decide +kernel
theorem d_S_moveActuators_66 : decode prog_8_method_16_code 66 = .ok (.getfield 15, 3) := by decide +kernel
theorem d_S_moveActuators_69 : decode prog_8_method_16_code 69 = .ok (.iconst 0, 1) := by decide +kernel
theorem d_S_moveActuators_70 : decode prog_8_method_16_code 70 = .ok (.aload_n 0, 1) := by decide +kernel
theorem d_S_moveActuators_71 : decode prog_8_method_16_code 71 = .ok (.getfield 38, 3) := by decide +kernel
theorem d_S_moveActuators_74 : decode prog_8_method_16_code 74 = .ok (.invokestatic 87, 3) := by decide +kernel
theorem d_S_moveActuators_77 : decode prog_8_method_16_code 77 = .ok (.return_, 1) := by decide +kernel
theorem d_S_become_0 : decode prog_8_method_7_code 0 = .ok (.aload_n 0, 1) := by decide +kernel
theorem d_S_become_1 : decode prog_8_method_7_code 1 = .ok (.getfield 21, 3) := by decide +kernel
theorem d_S_become_4 : decode prog_8_method_7_code 4 = .ok (.getfield 45, 3) := by decide +kernel
theorem d_S_become_7 : decode prog_8_method_7_code 7 = .ok (.iconst 2, 1) := by decide +kernel
theorem d_S_become_8 : decode prog_8_method_7_code 8 = .ok (.iload_n 2, 1) := by decide +kernel
theorem d_S_become_9 : decode prog_8_method_7_code 9 = .ok (.ifCond .ne 7, 3) := by decide +kernel
theorem d_S_become_12 : decode prog_8_method_7_code 12 = .ok (.iload_n 1, 1) := by decide +kernel
theorem d_S_become_13 : decode prog_8_method_7_code 13 = .ok (.goto 7, 3) := by decide +kernel
theorem d_S_become_16 : decode prog_8_method_7_code 16 = .ok (.iload_n 1, 1) := by decide +kernel
theorem d_S_become_17 : decode prog_8_method_7_code 17 = .ok (.bipush 16, 2) := by decide +kernel
theorem d_S_become_19 : decode prog_8_method_7_code 19 = .ok (.ior, 1) := by decide +kernel
theorem d_S_become_20 : decode prog_8_method_7_code 20 = .ok (.iastore, 1) := by decide +kernel
theorem d_S_become_21 : decode prog_8_method_7_code 21 = .ok (.aload_n 0, 1) := by decide +kernel
theorem d_S_become_22 : decode prog_8_method_7_code 22 = .ok (.getfield 21, 3) := by decide +kernel
theorem d_S_become_25 : decode prog_8_method_7_code 25 = .ok (.getfield 45, 3) := by decide +kernel
theorem d_S_become_28 : decode prog_8_method_7_code 28 = .ok (.iconst 3, 1) := by decide +kernel
theorem d_S_become_29 : decode prog_8_method_7_code 29 = .ok (.iload_n 2, 1) := by decide +kernel
theorem d_S_become_30 : decode prog_8_method_7_code 30 = .ok (.iastore, 1) := by decide +kernel
theorem d_S_become_31 : decode prog_8_method_7_code 31 = .ok (.return_, 1) := by decide +kernel
theorem d_S_enter_0 : decode prog_8_method_9_code 0 = .ok (.iload_n 1, 1) := by decide +kernel
theorem d_S_enter_1 : decode prog_8_method_9_code 1 = .ok (.iconst 4, 1) := by decide +kernel
theorem d_S_enter_2 : decode prog_8_method_9_code 2 = .ok (.if_icmp .ne 19, 3) := by decide +kernel
theorem d_S_enter_5 : decode prog_8_method_9_code 5 = .ok (.aload_n 0, 1) := by decide +kernel
theorem d_S_enter_6 : decode prog_8_method_9_code 6 = .ok (.invokevirtual 115, 3) := by decide +kernel
theorem d_S_enter_9 : decode prog_8_method_9_code 9 = .ok (.iconst 2, 1) := by decide +kernel
theorem d_S_enter_10 : decode prog_8_method_9_code 10 = .ok (.if_icmp .ne 11, 3) := by decide +kernel
theorem d_S_enter_13 : decode prog_8_method_9_code 13 = .ok (.aload_n 0, 1) := by decide +kernel
theorem d_S_enter_14 : decode prog_8_method_9_code 14 = .ok (.getfield 21, 3) := by decide +kernel
theorem d_S_enter_17 : decode prog_8_method_9_code 17 = .ok (.iconst 0, 1) := by decide +kernel
theorem d_S_enter_18 : decode prog_8_method_9_code 18 = .ok (.putfield 146, 3) := by decide +kernel
theorem d_S_enter_21 : decode prog_8_method_9_code 21 = .ok (.iload_n 1, 1) := by decide +kernel
theorem d_S_enter_22 : decode prog_8_method_9_code 22 = .ok (.bipush 8, 2) := by decide +kernel
theorem d_S_enter_24 : decode prog_8_method_9_code 24 = .ok (.if_icmp .ne 20, 3) := by decide +kernel
theorem d_S_enter_27 : decode prog_8_method_9_code 27 = .ok (.aload_n 0, 1) := by decide +kernel
theorem d_S_enter_28 : decode prog_8_method_9_code 28 = .ok (.invokevirtual 115, 3) := by decide +kernel
theorem d_S_enter_31 : decode prog_8_method_9_code 31 = .ok (.bipush 8, 2) := by decide +kernel
theorem d_S_enter_33 : decode prog_8_method_9_code 33 = .ok (.if_icmp .eq 11, 3) := by decide +kernel
theorem d_S_enter_36 : decode prog_8_method_9_code 36 = .ok (.aload_n 0, 1) := by decide +kernel
theorem d_S_enter_37 : decode prog_8_method_9_code 37 = .ok (.getfield 21, 3) := by decide +kernel
theorem d_S_enter_40 : decode prog_8_method_9_code 40 = .ok (.iconst 0, 1) := by decide +kernel
theorem d_S_enter_41 : decode prog_8_method_9_code 41 = .ok (.putfield 149, 3) := by decide +kernel
theorem d_S_enter_44 : decode prog_8_method_9_code 44 = .ok (.aload_n 0, 1) := by decide +kernel
theorem d_S_enter_45 : decode prog_8_method_9_code 45 = .ok (.iload_n 1, 1) := by decide +kernel
theorem d_S_enter_46 : decode prog_8_method_9_code 46 = .ok (.iconst 0, 1) := by decide +kernel
theorem d_S_enter_47 : decode prog_8_method_9_code 47 = .ok (.invokevirtual 138, 3) := by decide +kernel
theorem d_S_enter_50 : decode prog_8_method_9_code 50 = .ok (.return_, 1) := by decide +kernel
theorem d_S_hasMailbox_0 : decode prog_8_method_11_code 0 = .ok (.aload_n 0, 1) := by decide +kernel
theorem d_S_hasMailbox_1 : decode prog_8_method_11_code 1 = .ok (.getfield 21, 3) := by decide +kernel
theorem d_S_hasMailbox_4 : decode prog_8_method_11_code 4 = .ok (.iconst 0, 1) := by decide +kernel
theorem d_S_hasMailbox_5 : decode prog_8_method_11_code 5 = .ok (.iconst 3, 1) := by decide +kernel
theorem d_S_hasMailbox_6 : decode prog_8_method_11_code 6 = .ok (.bipush 6, 2) := by decide +kernel
theorem d_S_hasMailbox_8 : decode prog_8_method_11_code 8 = .ok (.invokevirtual 164, 3) := by decide +kernel
theorem d_S_hasMailbox_11 : decode prog_8_method_11_code 11 = .ok (.ifCond .eq 21, 3) := by decide +kernel
theorem d_S_hasMailbox_14 : decode prog_8_method_11_code 14 = .ok (.aload_n 0, 1) := by decide +kernel
theorem d_S_hasMailbox_15 : decode prog_8_method_11_code 15 = .ok (.getfield 21, 3) := by decide +kernel
theorem d_S_hasMailbox_18 : decode prog_8_method_11_code 18 = .ok (.iconst 1, 1) := by decide +kernel
theorem d_S_hasMailbox_19 : decode prog_8_method_11_code 19 = .ok (.iconst 1, 1) := by decide +kernel
theorem d_S_hasMailbox_20 : decode prog_8_method_11_code 20 = .ok (.bipush 6, 2) := by decide +kernel
theorem d_S_hasMailbox_22 : decode prog_8_method_11_code 22 = .ok (.invokevirtual 164, 3) := by decide +kernel
theorem d_S_hasMailbox_25 : decode prog_8_method_11_code 25 = .ok (.ifCond .eq 7, 3) := by decide +kernel
theorem d_S_hasMailbox_28 : decode prog_8_method_11_code 28 = .ok (.iconst 1, 1) := by decide +kernel
theorem d_S_hasMailbox_29 : decode prog_8_method_11_code 29 = .ok (.goto 4, 3) := by decide +kernel
theorem d_S_hasMailbox_32 : decode prog_8_method_11_code 32 = .ok (.iconst 0, 1) := by decide +kernel
theorem d_S_hasMailbox_33 : decode prog_8_method_11_code 33 = .ok (.ireturn, 1) := by decide +kernel
theorem d_E_isOn_0 : decode prog_7_method_4_code 0 = .ok (.aload_n 0, 1) := by decide +kernel
theorem d_E_isOn_1 : decode prog_7_method_4_code 1 = .ok (.getfield 9, 3) := by decide +kernel
theorem d_E_isOn_4 : decode prog_7_method_4_code 4 = .ok (.bipush 32, 2) := by decide +kernel
theorem d_E_isOn_6 : decode prog_7_method_4_code 6 = .ok (.iload_n 1, 1) := by decide +kernel
theorem d_E_isOn_7 : decode prog_7_method_4_code 7 = .ok (.iconst 4, 1) := by decide +kernel
theorem d_E_isOn_8 : decode prog_7_method_4_code 8 = .ok (.imul, 1) := by decide +kernel
theorem d_E_isOn_9 : decode prog_7_method_4_code 9 = .ok (.iadd, 1) := by decide +kernel
theorem d_E_isOn_10 : decode prog_7_method_4_code 10 = .ok (.iconst 3, 1) := by decide +kernel
theorem d_E_isOn_11 : decode prog_7_method_4_code 11 = .ok (.iadd, 1) := by decide +kernel
theorem d_E_isOn_12 : decode prog_7_method_4_code 12 = .ok (.iaload, 1) := by decide +kernel
theorem d_E_isOn_13 : decode prog_7_method_4_code 13 = .ok (.ifCond .eq 7, 3) := by decide +kernel
theorem d_E_isOn_16 : decode prog_7_method_4_code 16 = .ok (.iconst 1, 1) := by decide +kernel
theorem d_E_isOn_17 : decode prog_7_method_4_code 17 = .ok (.goto 4, 3) := by decide +kernel
theorem d_E_isOn_20 : decode prog_7_method_4_code 20 = .ok (.iconst 0, 1) := by decide +kernel
theorem d_E_isOn_21 : decode prog_7_method_4_code 21 = .ok (.ireturn, 1) := by decide +kernel
theorem d_S_isSetUp_0 : decode prog_8_method_12_code 0 = .ok (.iload_n 3, 1) := by decide +kernel
theorem d_S_isSetUp_1 : decode prog_8_method_12_code 1 = .ok (.ifCond .ne 22, 3) := by decide +kernel
theorem d_S_isSetUp_4 : decode prog_8_method_12_code 4 = .ok (.aload_n 0, 1) := by decide +kernel
theorem d_S_isSetUp_5 : decode prog_8_method_12_code 5 = .ok (.getfield 21, 3) := by decide +kernel
theorem d_S_isSetUp_8 : decode prog_8_method_12_code 8 = .ok (.iload_n 1, 1) := by decide +kernel
theorem d_S_isSetUp_9 : decode prog_8_method_12_code 9 = .ok (.invokevirtual 167, 3) := by decide +kernel
theorem d_S_isSetUp_12 : decode prog_8_method_12_code 12 = .ok (.ifCond .ne 7, 3) := by decide +kernel
theorem d_S_isSetUp_15 : decode prog_8_method_12_code 15 = .ok (.iconst 1, 1) := by decide +kernel
theorem d_S_isSetUp_16 : decode prog_8_method_12_code 16 = .ok (.goto 17, 3) := by decide +kernel
theorem d_S_isSetUp_19 : decode prog_8_method_12_code 19 = .ok (.iconst 0, 1) := by decide +kernel
theorem d_S_isSetUp_20 : decode prog_8_method_12_code 20 = .ok (.goto 13, 3) := by decide +kernel
theorem d_S_isSetUp_23 : decode prog_8_method_12_code 23 = .ok (.aload_n 0, 1) := by decide +kernel
theorem d_S_isSetUp_24 : decode prog_8_method_12_code 24 = .ok (.getfield 21, 3) := by decide +kernel
theorem d_S_isSetUp_27 : decode prog_8_method_12_code 27 = .ok (.iload_n 1, 1) := by decide +kernel
theorem d_S_isSetUp_28 : decode prog_8_method_12_code 28 = .ok (.iload_n 2, 1) := by decide +kernel
theorem d_S_isSetUp_29 : decode prog_8_method_12_code 29 = .ok (.iload_n 3, 1) := by decide +kernel
theorem d_S_isSetUp_30 : decode prog_8_method_12_code 30 = .ok (.invokevirtual 164, 3) := by decide +kernel
theorem d_S_isSetUp_33 : decode prog_8_method_12_code 33 = .ok (.ireturn, 1) := by decide +kernel
theorem d_S_objection_0 : decode prog_8_method_10_code 0 = .ok (.iload_n 1, 1) := by decide +kernel
theorem d_S_objection_1 : decode prog_8_method_10_code 1 = .ok (.iconst 1, 1) := by decide +kernel
theorem d_S_objection_2 : decode prog_8_method_10_code 2 = .ok (.if_icmp .eq 22, 3) := by decide +kernel
theorem d_S_objection_5 : decode prog_8_method_10_code 5 = .ok (.iload_n 1, 1) := by decide +kernel
theorem d_S_objection_6 : decode prog_8_method_10_code 6 = .ok (.iconst 2, 1) := by decide +kernel
theorem d_S_objection_7 : decode prog_8_method_10_code 7 = .ok (.if_icmp .eq 17, 3) := by decide +kernel
theorem d_S_objection_10 : decode prog_8_method_10_code 10 = .ok (.iload_n 1, 1) := by decide +kernel
theorem d_S_objection_11 : decode prog_8_method_10_code 11 = .ok (.iconst 4, 1) := by decide +kernel
theorem d_S_objection_12 : decode prog_8_method_10_code 12 = .ok (.if_icmp .eq 12, 3) := by decide +kernel
theorem d_S_objection_15 : decode prog_8_method_10_code 15 = .ok (.iload_n 1, 1) := by decide +kernel
theorem d_S_objection_16 : decode prog_8_method_10_code 16 = .ok (.bipush 8, 2) := by decide +kernel
theorem d_S_objection_18 : decode prog_8_method_10_code 18 = .ok (.if_icmp .eq 6, 3) := by decide +kernel
theorem d_S_objection_21 : decode prog_8_method_10_code 21 = .ok (.bipush 18, 2) := by decide +kernel
theorem d_S_objection_23 : decode prog_8_method_10_code 23 = .ok (.ireturn, 1) := by decide +kernel
theorem d_S_objection_24 : decode prog_8_method_10_code 24 = .ok (.iload_n 1, 1) := by decide +kernel
theorem d_S_objection_25 : decode prog_8_method_10_code 25 = .ok (.aload_n 0, 1) := by decide +kernel
theorem d_S_objection_26 : decode prog_8_method_10_code 26 = .ok (.invokevirtual 115, 3) := by decide +kernel
theorem d_S_objection_29 : decode prog_8_method_10_code 29 = .ok (.if_icmp .gt 5, 3) := by decide +kernel
theorem d_S_objection_32 : decode prog_8_method_10_code 32 = .ok (.iconst 0, 1) := by decide +kernel
theorem d_S_objection_33 : decode prog_8_method_10_code 33 = .ok (.ireturn, 1) := by decide +kernel
theorem d_S_objection_34 : decode prog_8_method_10_code 34 = .ok (.iload_n 1, 1) := by decide +kernel
theorem d_S_objection_35 : decode prog_8_method_10_code 35 = .ok (.iconst 2, 1) := by decide +kernel
theorem d_S_objection_36 : decode prog_8_method_10_code 36 = .ok (.aload_n 0, 1) := by decide +kernel
theorem d_S_objection_37 : decode prog_8_method_10_code 37 = .ok (.invokevirtual 115, 3) := by decide +kernel
theorem d_S_objection_40 : decode prog_8_method_10_code 40 = .ok (.imul, 1) := by decide +kernel
theorem d_S_objection_41 : decode prog_8_method_10_code 41 = .ok (.if_icmp .le 6, 3) := by decide +kernel
theorem d_S_objection_44 : decode prog_8_method_10_code 44 = .ok (.bipush 17, 2) := by decide +kernel
theorem d_S_objection_46 : decode prog_8_method_10_code 46 = .ok (.ireturn, 1) := by decide +kernel
theorem d_S_objection_47 : decode prog_8_method_10_code 47 = .ok (.iload_n 1, 1) := by decide +kernel
theorem d_S_objection_48 : decode prog_8_method_10_code 48 = .ok (.iconst 2, 1) := by decide +kernel
theorem d_S_objection_49 : decode prog_8_method_10_code 49 = .ok (.if_icmp .ne 17, 3) := by decide +kernel
theorem d_S_objection_52 : decode prog_8_method_10_code 52 = .ok (.aload_n 0, 1) := by decide +kernel
theorem d_S_objection_53 : decode prog_8_method_10_code 53 = .ok (.invokevirtual 152, 3) := by decide +kernel
theorem d_S_objection_56 : decode prog_8_method_10_code 56 = .ok (.ifCond .eq 7, 3) := by decide +kernel
theorem d_S_objection_59 : decode prog_8_method_10_code 59 = .ok (.iconst 0, 1) := by decide +kernel
theorem d_S_objection_60 : decode prog_8_method_10_code 60 = .ok (.goto 5, 3) := by decide +kernel
theorem d_S_objection_63 : decode prog_8_method_10_code 63 = .ok (.bipush 22, 2) := by decide +kernel
theorem d_S_objection_65 : decode prog_8_method_10_code 65 = .ok (.ireturn, 1) := by decide +kernel
theorem d_S_objection_66 : decode prog_8_method_10_code 66 = .ok (.iload_n 1, 1) := by decide +kernel
theorem d_S_objection_67 : decode prog_8_method_10_code 67 = .ok (.bipush 8, 2) := by decide +kernel
theorem d_S_objection_69 : decode prog_8_method_10_code 69 = .ok (.if_icmp .ne 49, 3) := by decide +kernel
theorem d_S_objection_72 : decode prog_8_method_10_code 72 = .ok (.aload_n 0, 1) := by decide +kernel
theorem d_S_objection_73 : decode prog_8_method_10_code 73 = .ok (.getfield 21, 3) := by decide +kernel
theorem d_S_objection_76 : decode prog_8_method_10_code 76 = .ok (.getfield 156, 3) := by decide +kernel
theorem d_S_objection_79 : decode prog_8_method_10_code 79 = .ok (.iconst 2, 1) := by decide +kernel
theorem d_S_objection_80 : decode prog_8_method_10_code 80 = .ok (.baload, 1) := by decide +kernel
theorem d_S_objection_81 : decode prog_8_method_10_code 81 = .ok (.ifCond .eq 17, 3) := by decide +kernel
theorem d_S_objection_84 : decode prog_8_method_10_code 84 = .ok (.aload_n 0, 1) := by decide +kernel
theorem d_S_objection_85 : decode prog_8_method_10_code 85 = .ok (.getfield 21, 3) := by decide +kernel
theorem d_S_objection_88 : decode prog_8_method_10_code 88 = .ok (.getfield 146, 3) := by decide +kernel
theorem d_S_objection_91 : decode prog_8_method_10_code 91 = .ok (.ifCond .eq 7, 3) := by decide +kernel
theorem d_S_objection_94 : decode prog_8_method_10_code 94 = .ok (.iconst 1, 1) := by decide +kernel
theorem d_S_objection_95 : decode prog_8_method_10_code 95 = .ok (.goto 4, 3) := by decide +kernel
theorem d_S_objection_98 : decode prog_8_method_10_code 98 = .ok (.iconst 0, 1) := by decide +kernel
theorem d_S_objection_99 : decode prog_8_method_10_code 99 = .ok (.istore_n 2, 1) := by decide +kernel
theorem d_S_objection_100 : decode prog_8_method_10_code 100 = .ok (.aload_n 0, 1) := by decide +kernel
theorem d_S_objection_101 : decode prog_8_method_10_code 101 = .ok (.getfield 38, 3) := by decide +kernel
theorem d_S_objection_104 : decode prog_8_method_10_code 104 = .ok (.ifCond .eq 7, 3) := by decide +kernel
theorem d_S_objection_107 : decode prog_8_method_10_code 107 = .ok (.iload_n 2, 1) := by decide +kernel
theorem d_S_objection_108 : decode prog_8_method_10_code 108 = .ok (.ifCond .eq 7, 3) := by decide +kernel
theorem d_S_objection_111 : decode prog_8_method_10_code 111 = .ok (.iconst 0, 1) := by decide +kernel
theorem d_S_objection_112 : decode prog_8_method_10_code 112 = .ok (.goto 5, 3) := by decide +kernel
theorem d_S_objection_115 : decode prog_8_method_10_code 115 = .ok (.bipush 27, 2) := by decide +kernel
theorem d_S_objection_117 : decode prog_8_method_10_code 117 = .ok (.ireturn, 1) := by decide +kernel
theorem d_S_objection_118 : decode prog_8_method_10_code 118 = .ok (.aload_n 0, 1) := by decide +kernel
theorem d_S_objection_119 : decode prog_8_method_10_code 119 = .ok (.iconst 2, 1) := by decide +kernel
theorem d_S_objection_120 : decode prog_8_method_10_code 120 = .ok (.iconst 2, 1) := by decide +kernel
theorem d_S_objection_121 : decode prog_8_method_10_code 121 = .ok (.aload_n 0, 1) := by decide +kernel
theorem d_S_objection_122 : decode prog_8_method_10_code 122 = .ok (.getfield 38, 3) := by decide +kernel
theorem d_S_objection_125 : decode prog_8_method_10_code 125 = .ok (.invokevirtual 160, 3) := by decide +kernel
theorem d_S_objection_128 : decode prog_8_method_10_code 128 = .ok (.ifCond .ne 6, 3) := by decide +kernel
theorem d_S_objection_131 : decode prog_8_method_10_code 131 = .ok (.bipush 29, 2) := by decide +kernel
theorem d_S_objection_133 : decode prog_8_method_10_code 133 = .ok (.ireturn, 1) := by decide +kernel
theorem d_S_objection_134 : decode prog_8_method_10_code 134 = .ok (.aload_n 0, 1) := by decide +kernel
theorem d_S_objection_135 : decode prog_8_method_10_code 135 = .ok (.iconst 3, 1) := by decide +kernel
theorem d_S_objection_136 : decode prog_8_method_10_code 136 = .ok (.iconst 0, 1) := by decide +kernel
theorem d_S_objection_137 : decode prog_8_method_10_code 137 = .ok (.aload_n 0, 1) := by decide +kernel
theorem d_S_objection_138 : decode prog_8_method_10_code 138 = .ok (.getfield 42, 3) := by decide +kernel
theorem d_S_objection_141 : decode prog_8_method_10_code 141 = .ok (.invokevirtual 160, 3) := by decide +kernel
theorem d_S_objection_144 : decode prog_8_method_10_code 144 = .ok (.ifCond .eq 7, 3) := by decide +kernel
theorem d_S_objection_147 : decode prog_8_method_10_code 147 = .ok (.iconst 0, 1) := by decide +kernel
theorem d_S_objection_148 : decode prog_8_method_10_code 148 = .ok (.goto 5, 3) := by decide +kernel
theorem d_S_objection_151 : decode prog_8_method_10_code 151 = .ok (.bipush 30, 2) := by decide +kernel
theorem d_S_objection_153 : decode prog_8_method_10_code 153 = .ok (.ireturn, 1) := by decide +kernel
theorem d_S_obeyControl_0 : decode prog_8_method_8_code 0 = .ok (.aload_n 0, 1) := by decide +kernel
theorem d_S_obeyControl_1 : decode prog_8_method_8_code 1 = .ok (.getfield 21, 3) := by decide +kernel
theorem d_S_obeyControl_4 : decode prog_8_method_8_code 4 = .ok (.getfield 130, 3) := by decide +kernel
theorem d_S_obeyControl_7 : decode prog_8_method_8_code 7 = .ok (.ifCond .ne 4, 3) := by decide +kernel
theorem d_S_obeyControl_10 : decode prog_8_method_8_code 10 = .ok (.return_, 1) := by decide +kernel
theorem d_S_obeyControl_11 : decode prog_8_method_8_code 11 = .ok (.aload_n 0, 1) := by decide +kernel
theorem d_S_obeyControl_12 : decode prog_8_method_8_code 12 = .ok (.getfield 21, 3) := by decide +kernel
theorem d_S_obeyControl_15 : decode prog_8_method_8_code 15 = .ok (.iconst 0, 1) := by decide +kernel
theorem d_S_obeyControl_16 : decode prog_8_method_8_code 16 = .ok (.putfield 130, 3) := by decide +kernel
theorem d_S_obeyControl_19 : decode prog_8_method_8_code 19 = .ok (.aload_n 0, 1) := by decide +kernel
theorem d_S_obeyControl_20 : decode prog_8_method_8_code 20 = .ok (.getfield 21, 3) := by decide +kernel
theorem d_S_obeyControl_23 : decode prog_8_method_8_code 23 = .ok (.getfield 45, 3) := by decide +kernel
theorem d_S_obeyControl_26 : decode prog_8_method_8_code 26 = .ok (.iconst 1, 1) := by decide +kernel
theorem d_S_obeyControl_27 : decode prog_8_method_8_code 27 = .ok (.iaload, 1) := by decide +kernel
theorem d_S_obeyControl_28 : decode prog_8_method_8_code 28 = .ok (.istore_n 1, 1) := by decide +kernel
theorem d_S_obeyControl_29 : decode prog_8_method_8_code 29 = .ok (.aload_n 0, 1) := by decide +kernel
theorem d_S_obeyControl_30 : decode prog_8_method_8_code 30 = .ok (.getfield 21, 3) := by decide +kernel
theorem d_S_obeyControl_33 : decode prog_8_method_8_code 33 = .ok (.getfield 45, 3) := by decide +kernel
theorem d_S_obeyControl_36 : decode prog_8_method_8_code 36 = .ok (.iconst 3, 1) := by decide +kernel
theorem d_S_obeyControl_37 : decode prog_8_method_8_code 37 = .ok (.iaload, 1) := by decide +kernel
theorem d_S_obeyControl_38 : decode prog_8_method_8_code 38 = .ok (.ifCond .eq 11, 3) := by decide +kernel
theorem d_S_obeyControl_41 : decode prog_8_method_8_code 41 = .ok (.iload_n 1, 1) := by decide +kernel
theorem d_S_obeyControl_42 : decode prog_8_method_8_code 42 = .ok (.bipush 16, 2) := by decide +kernel
theorem d_S_obeyControl_44 : decode prog_8_method_8_code 44 = .ok (.iand, 1) := by decide +kernel
theorem d_S_obeyControl_45 : decode prog_8_method_8_code 45 = .ok (.ifCond .ne 4, 3) := by decide +kernel
theorem d_S_obeyControl_48 : decode prog_8_method_8_code 48 = .ok (.return_, 1) := by decide +kernel
theorem d_S_obeyControl_49 : decode prog_8_method_8_code 49 = .ok (.iload_n 1, 1) := by decide +kernel
theorem d_S_obeyControl_50 : decode prog_8_method_8_code 50 = .ok (.bipush 15, 2) := by decide +kernel
theorem d_S_obeyControl_52 : decode prog_8_method_8_code 52 = .ok (.iand, 1) := by decide +kernel
theorem d_S_obeyControl_53 : decode prog_8_method_8_code 53 = .ok (.istore_n 2, 1) := by decide +kernel
theorem d_S_obeyControl_54 : decode prog_8_method_8_code 54 = .ok (.aload_n 0, 1) := by decide +kernel
theorem d_S_obeyControl_55 : decode prog_8_method_8_code 55 = .ok (.iload_n 2, 1) := by decide +kernel
theorem d_S_obeyControl_56 : decode prog_8_method_8_code 56 = .ok (.invokevirtual 134, 3) := by decide +kernel
theorem d_S_obeyControl_59 : decode prog_8_method_8_code 59 = .ok (.istore_n 3, 1) := by decide +kernel
theorem d_S_obeyControl_60 : decode prog_8_method_8_code 60 = .ok (.iload_n 3, 1) := by decide +kernel
theorem d_S_obeyControl_61 : decode prog_8_method_8_code 61 = .ok (.ifCond .eq 15, 3) := by decide +kernel
theorem d_S_obeyControl_64 : decode prog_8_method_8_code 64 = .ok (.aload_n 0, 1) := by decide +kernel
theorem d_S_obeyControl_65 : decode prog_8_method_8_code 65 = .ok (.aload_n 0, 1) := by decide +kernel
theorem d_S_obeyControl_66 : decode prog_8_method_8_code 66 = .ok (.invokevirtual 115, 3) := by decide +kernel
theorem d_S_obeyControl_69 : decode prog_8_method_8_code 69 = .ok (.iload_n 3, 1) := by decide +kernel
theorem d_S_obeyControl_70 : decode prog_8_method_8_code 70 = .ok (.invokevirtual 138, 3) := by decide +kernel
theorem d_S_obeyControl_73 : decode prog_8_method_8_code 73 = .ok (.goto 8, 3) := by decide +kernel
theorem d_S_obeyControl_76 : decode prog_8_method_8_code 76 = .ok (.aload_n 0, 1) := by decide +kernel
theorem d_S_obeyControl_77 : decode prog_8_method_8_code 77 = .ok (.iload_n 2, 1) := by decide +kernel
theorem d_S_obeyControl_78 : decode prog_8_method_8_code 78 = .ok (.invokevirtual 142, 3) := by decide +kernel
theorem d_S_obeyControl_81 : decode prog_8_method_8_code 81 = .ok (.return_, 1) := by decide +kernel
theorem d_L_writeMessage_0 : decode prog_1_method_27_code 0 = .ok (.aload_n 0, 1) := by decide +kernel
theorem d_L_writeMessage_1 : decode prog_1_method_27_code 1 = .ok (.iconst 0, 1) := by decide +kernel
theorem d_L_writeMessage_2 : decode prog_1_method_27_code 2 = .ok (.iload_n 1, 1) := by decide +kernel
theorem d_L_writeMessage_3 : decode prog_1_method_27_code 3 = .ok (.iastore, 1) := by decide +kernel
theorem d_L_writeMessage_4 : decode prog_1_method_27_code 4 = .ok (.aload_n 0, 1) := by decide +kernel
theorem d_L_writeMessage_5 : decode prog_1_method_27_code 5 = .ok (.iconst 1, 1) := by decide +kernel
theorem d_L_writeMessage_6 : decode prog_1_method_27_code 6 = .ok (.iload_n 2, 1) := by decide +kernel
theorem d_L_writeMessage_7 : decode prog_1_method_27_code 7 = .ok (.iastore, 1) := by decide +kernel
theorem d_L_writeMessage_8 : decode prog_1_method_27_code 8 = .ok (.iconst 0, 1) := by decide +kernel
theorem d_L_writeMessage_9 : decode prog_1_method_27_code 9 = .ok (.istore 4, 2) := by decide +kernel
theorem d_L_writeMessage_11 : decode prog_1_method_27_code 11 = .ok (.iload 4, 2) := by decide +kernel
theorem d_L_writeMessage_13 : decode prog_1_method_27_code 13 = .ok (.iconst 4, 1) := by decide +kernel
theorem d_L_writeMessage_14 : decode prog_1_method_27_code 14 = .ok (.if_icmp .ge 26, 3) := by decide +kernel
theorem d_L_writeMessage_17 : decode prog_1_method_27_code 17 = .ok (.aload_n 0, 1) := by decide +kernel
theorem d_L_writeMessage_18 : decode prog_1_method_27_code 18 = .ok (.iconst 2, 1) := by decide +kernel
theorem d_L_writeMessage_19 : decode prog_1_method_27_code 19 = .ok (.iload 4, 2) := by decide +kernel
theorem d_L_writeMessage_21 : decode prog_1_method_27_code 21 = .ok (.iadd, 1) := by decide +kernel
theorem d_L_writeMessage_22 : decode prog_1_method_27_code 22 = .ok (.iload_n 3, 1) := by decide +kernel
theorem d_L_writeMessage_23 : decode prog_1_method_27_code 23 = .ok (.bipush 8, 2) := by decide +kernel
theorem d_L_writeMessage_25 : decode prog_1_method_27_code 25 = .ok (.iload 4, 2) := by decide +kernel
theorem d_L_writeMessage_27 : decode prog_1_method_27_code 27 = .ok (.imul, 1) := by decide +kernel
theorem d_L_writeMessage_28 : decode prog_1_method_27_code 28 = .ok (.iushr, 1) := by decide +kernel
theorem d_L_writeMessage_29 : decode prog_1_method_27_code 29 = .ok (.sipush 255, 3) := by decide +kernel
theorem d_L_writeMessage_32 : decode prog_1_method_27_code 32 = .ok (.iand, 1) := by decide +kernel
theorem d_L_writeMessage_33 : decode prog_1_method_27_code 33 = .ok (.iastore, 1) := by decide +kernel
theorem d_L_writeMessage_34 : decode prog_1_method_27_code 34 = .ok (.iinc 4 1, 3) := by decide +kernel
theorem d_L_writeMessage_37 : decode prog_1_method_27_code 37 = .ok (.goto (-26), 3) := by decide +kernel
theorem d_L_writeMessage_40 : decode prog_1_method_27_code 40 = .ok (.return_, 1) := by decide +kernel
theorem d_S_doMessage_0 : decode prog_8_method_14_code 0 = .ok (.iload_n 1, 1) := by decide +kernel
theorem d_S_doMessage_1 : decode prog_8_method_14_code 1 = .ok (.iconst 1, 1) := by decide +kernel
theorem d_S_doMessage_2 : decode prog_8_method_14_code 2 = .ok (.if_icmp .eq 19, 3) := by decide +kernel
theorem d_S_doMessage_5 : decode prog_8_method_14_code 5 = .ok (.iload_n 1, 1) := by decide +kernel
theorem d_S_doMessage_6 : decode prog_8_method_14_code 6 = .ok (.iconst 2, 1) := by decide +kernel
theorem d_S_doMessage_7 : decode prog_8_method_14_code 7 = .ok (.if_icmp .eq 14, 3) := by decide +kernel
theorem d_S_doMessage_10 : decode prog_8_method_14_code 10 = .ok (.aload 4, 2) := by decide +kernel
theorem d_S_doMessage_12 : decode prog_8_method_14_code 12 = .ok (.iconst 3, 1) := by decide +kernel
theorem d_S_doMessage_13 : decode prog_8_method_14_code 13 = .ok (.iload_n 2, 1) := by decide +kernel
theorem d_S_doMessage_14 : decode prog_8_method_14_code 14 = .ok (.iconst 1, 1) := by decide +kernel
theorem d_S_doMessage_15 : decode prog_8_method_14_code 15 = .ok (.invokestatic 179, 3) := by decide +kernel
theorem d_S_doMessage_18 : decode prog_8_method_14_code 18 = .ok (.goto 76, 3) := by decide +kernel
theorem d_S_doMessage_21 : decode prog_8_method_14_code 21 = .ok (.iload_n 2, 1) := by decide +kernel
theorem d_S_doMessage_22 : decode prog_8_method_14_code 22 = .ok (.iconst 4, 1) := by decide +kernel
theorem d_S_doMessage_23 : decode prog_8_method_14_code 23 = .ok (.if_icmp .lt 14, 3) := by decide +kernel
theorem d_S_doMessage_26 : decode prog_8_method_14_code 26 = .ok (.aload 4, 2) := by decide +kernel
theorem d_S_doMessage_28 : decode prog_8_method_14_code 28 = .ok (.iconst 3, 1) := by decide +kernel
theorem d_S_doMessage_29 : decode prog_8_method_14_code 29 = .ok (.iload_n 2, 1) := by decide +kernel
theorem d_S_doMessage_30 : decode prog_8_method_14_code 30 = .ok (.iconst 2, 1) := by decide +kernel
theorem d_S_doMessage_31 : decode prog_8_method_14_code 31 = .ok (.invokestatic 179, 3) := by decide +kernel
theorem d_S_doMessage_34 : decode prog_8_method_14_code 34 = .ok (.goto 60, 3) := by decide +kernel
theorem d_S_doMessage_37 : decode prog_8_method_14_code 37 = .ok (.iload_n 1, 1) := by decide +kernel
theorem d_S_doMessage_38 : decode prog_8_method_14_code 38 = .ok (.iconst 2, 1) := by decide +kernel
theorem d_S_doMessage_39 : decode prog_8_method_14_code 39 = .ok (.if_icmp .ne 19, 3) := by decide +kernel
theorem d_S_doMessage_42 : decode prog_8_method_14_code 42 = .ok (.aload 4, 2) := by decide +kernel
theorem d_S_doMessage_44 : decode prog_8_method_14_code 44 = .ok (.iconst 2, 1) := by decide +kernel
theorem d_S_doMessage_45 : decode prog_8_method_14_code 45 = .ok (.iload_n 2, 1) := by decide +kernel
theorem d_S_doMessage_46 : decode prog_8_method_14_code 46 = .ok (.aload_n 0, 1) := by decide +kernel
theorem d_S_doMessage_47 : decode prog_8_method_14_code 47 = .ok (.getfield 35, 3) := by decide +kernel
theorem d_S_doMessage_50 : decode prog_8_method_14_code 50 = .ok (.iload_n 2, 1) := by decide +kernel
theorem d_S_doMessage_51 : decode prog_8_method_14_code 51 = .ok (.iaload, 1) := by decide +kernel
theorem d_S_doMessage_52 : decode prog_8_method_14_code 52 = .ok (.invokestatic 179, 3) := by decide +kernel
theorem d_S_doMessage_55 : decode prog_8_method_14_code 55 = .ok (.goto 39, 3) := by decide +kernel
theorem d_S_doMessage_58 : decode prog_8_method_14_code 58 = .ok (.iload_n 2, 1) := by decide +kernel
theorem d_S_doMessage_59 : decode prog_8_method_14_code 59 = .ok (.iconst 1, 1) := by decide +kernel
theorem d_S_doMessage_60 : decode prog_8_method_14_code 60 = .ok (.if_icmp .eq 8, 3) := by decide +kernel
theorem d_S_doMessage_63 : decode prog_8_method_14_code 63 = .ok (.iload_n 2, 1) := by decide +kernel
theorem d_S_doMessage_64 : decode prog_8_method_14_code 64 = .ok (.iconst 2, 1) := by decide +kernel
theorem d_S_doMessage_65 : decode prog_8_method_14_code 65 = .ok (.if_icmp .ne 21, 3) := by decide +kernel
theorem d_S_doMessage_68 : decode prog_8_method_14_code 68 = .ok (.aload_n 0, 1) := by decide +kernel
theorem d_S_doMessage_69 : decode prog_8_method_14_code 69 = .ok (.getfield 35, 3) := by decide +kernel
theorem d_S_doMessage_72 : decode prog_8_method_14_code 72 = .ok (.iload_n 2, 1) := by decide +kernel
theorem d_S_doMessage_73 : decode prog_8_method_14_code 73 = .ok (.iload_n 3, 1) := by decide +kernel
theorem d_S_doMessage_74 : decode prog_8_method_14_code 74 = .ok (.iastore, 1) := by decide +kernel
theorem d_S_doMessage_75 : decode prog_8_method_14_code 75 = .ok (.aload 4, 2) := by decide +kernel
theorem d_S_doMessage_77 : decode prog_8_method_14_code 77 = .ok (.iconst 1, 1) := by decide +kernel
theorem d_S_doMessage_78 : decode prog_8_method_14_code 78 = .ok (.iload_n 2, 1) := by decide +kernel
theorem d_S_doMessage_79 : decode prog_8_method_14_code 79 = .ok (.iconst 0, 1) := by decide +kernel
theorem d_S_doMessage_80 : decode prog_8_method_14_code 80 = .ok (.invokestatic 179, 3) := by decide +kernel
theorem d_S_doMessage_83 : decode prog_8_method_14_code 83 = .ok (.goto 11, 3) := by decide +kernel
theorem d_S_doMessage_86 : decode prog_8_method_14_code 86 = .ok (.aload 4, 2) := by decide +kernel
theorem d_S_doMessage_88 : decode prog_8_method_14_code 88 = .ok (.iconst 3, 1) := by decide +kernel
theorem d_S_doMessage_89 : decode prog_8_method_14_code 89 = .ok (.iload_n 2, 1) := by decide +kernel
theorem d_S_doMessage_90 : decode prog_8_method_14_code 90 = .ok (.iconst 3, 1) := by decide +kernel
theorem d_S_doMessage_91 : decode prog_8_method_14_code 91 = .ok (.invokestatic 179, 3) := by decide +kernel
theorem d_S_doMessage_94 : decode prog_8_method_14_code 94 = .ok (.return_, 1) := by decide +kernel
theorem d_S_replyToMessage_0 : decode prog_8_method_13_code 0 = .ok (.aload_n 0, 1) := by decide +kernel
theorem d_S_replyToMessage_1 : decode prog_8_method_13_code 1 = .ok (.invokevirtual 152, 3) := by decide +kernel
theorem d_S_replyToMessage_4 : decode prog_8_method_13_code 4 = .ok (.ifCond .eq 30, 3) := by decide +kernel
theorem d_S_replyToMessage_7 : decode prog_8_method_13_code 7 = .ok (.aload_n 0, 1) := by decide +kernel
theorem d_S_replyToMessage_8 : decode prog_8_method_13_code 8 = .ok (.getfield 21, 3) := by decide +kernel
theorem d_S_replyToMessage_11 : decode prog_8_method_13_code 11 = .ok (.getfield 45, 3) := by decide +kernel
theorem d_S_replyToMessage_14 : decode prog_8_method_13_code 14 = .ok (.bipush 48, 2) := by decide +kernel
theorem d_S_replyToMessage_16 : decode prog_8_method_13_code 16 = .ok (.iaload, 1) := by decide +kernel
theorem d_S_replyToMessage_17 : decode prog_8_method_13_code 17 = .ok (.iconst 1, 1) := by decide +kernel
theorem d_S_replyToMessage_18 : decode prog_8_method_13_code 18 = .ok (.if_icmp .ne 16, 3) := by decide +kernel
theorem d_S_replyToMessage_21 : decode prog_8_method_13_code 21 = .ok (.aload_n 0, 1) := by decide +kernel
theorem d_S_replyToMessage_22 : decode prog_8_method_13_code 22 = .ok (.getfield 21, 3) := by decide +kernel
theorem d_S_replyToMessage_25 : decode prog_8_method_13_code 25 = .ok (.getfield 45, 3) := by decide +kernel
theorem d_S_replyToMessage_28 : decode prog_8_method_13_code 28 = .ok (.bipush 49, 2) := by decide +kernel
theorem d_S_replyToMessage_30 : decode prog_8_method_13_code 30 = .ok (.iaload, 1) := by decide +kernel
theorem d_S_replyToMessage_31 : decode prog_8_method_13_code 31 = .ok (.ifCond .eq 4, 3) := by decide +kernel
theorem d_S_replyToMessage_34 : decode prog_8_method_13_code 34 = .ok (.return_, 1) := by decide +kernel
theorem d_S_replyToMessage_35 : decode prog_8_method_13_code 35 = .ok (.aload_n 0, 1) := by decide +kernel
theorem d_S_replyToMessage_36 : decode prog_8_method_13_code 36 = .ok (.getfield 21, 3) := by decide +kernel
theorem d_S_replyToMessage_39 : decode prog_8_method_13_code 39 = .ok (.getfield 171, 3) := by decide +kernel
theorem d_S_replyToMessage_42 : decode prog_8_method_13_code 42 = .ok (.iconst 0, 1) := by decide +kernel
theorem d_S_replyToMessage_43 : decode prog_8_method_13_code 43 = .ok (.aaload, 1) := by decide +kernel
theorem d_S_replyToMessage_44 : decode prog_8_method_13_code 44 = .ok (.astore_n 1, 1) := by decide +kernel
theorem d_S_replyToMessage_45 : decode prog_8_method_13_code 45 = .ok (.aload_n 1, 1) := by decide +kernel
theorem d_S_replyToMessage_46 : decode prog_8_method_13_code 46 = .ok (.iconst 2, 1) := by decide +kernel
theorem d_S_replyToMessage_47 : decode prog_8_method_13_code 47 = .ok (.iaload, 1) := by decide +kernel
theorem d_S_replyToMessage_48 : decode prog_8_method_13_code 48 = .ok (.aload_n 1, 1) := by decide +kernel
theorem d_S_replyToMessage_49 : decode prog_8_method_13_code 49 = .ok (.iconst 3, 1) := by decide +kernel
theorem d_S_replyToMessage_50 : decode prog_8_method_13_code 50 = .ok (.iaload, 1) := by decide +kernel
theorem d_S_replyToMessage_51 : decode prog_8_method_13_code 51 = .ok (.bipush 8, 2) := by decide +kernel
theorem d_S_replyToMessage_53 : decode prog_8_method_13_code 53 = .ok (.ishl, 1) := by decide +kernel
theorem d_S_replyToMessage_54 : decode prog_8_method_13_code 54 = .ok (.ior, 1) := by decide +kernel
theorem d_S_replyToMessage_55 : decode prog_8_method_13_code 55 = .ok (.aload_n 1, 1) := by decide +kernel
theorem d_S_replyToMessage_56 : decode prog_8_method_13_code 56 = .ok (.iconst 4, 1) := by decide +kernel
theorem d_S_replyToMessage_57 : decode prog_8_method_13_code 57 = .ok (.iaload, 1) := by decide +kernel
theorem d_S_replyToMessage_58 : decode prog_8_method_13_code 58 = .ok (.bipush 16, 2) := by decide +kernel
theorem d_S_replyToMessage_60 : decode prog_8_method_13_code 60 = .ok (.ishl, 1) := by decide +kernel
theorem d_S_replyToMessage_61 : decode prog_8_method_13_code 61 = .ok (.ior, 1) := by decide +kernel
theorem d_S_replyToMessage_62 : decode prog_8_method_13_code 62 = .ok (.aload_n 1, 1) := by decide +kernel
theorem d_S_replyToMessage_63 : decode prog_8_method_13_code 63 = .ok (.iconst 5, 1) := by decide +kernel
theorem d_S_replyToMessage_64 : decode prog_8_method_13_code 64 = .ok (.iaload, 1) := by decide +kernel
theorem d_S_replyToMessage_65 : decode prog_8_method_13_code 65 = .ok (.bipush 24, 2) := by decide +kernel
theorem d_S_replyToMessage_67 : decode prog_8_method_13_code 67 = .ok (.ishl, 1) := by decide +kernel
theorem d_S_replyToMessage_68 : decode prog_8_method_13_code 68 = .ok (.ior, 1) := by decide +kernel
theorem d_S_replyToMessage_69 : decode prog_8_method_13_code 69 = .ok (.istore_n 2, 1) := by decide +kernel
theorem d_S_replyToMessage_70 : decode prog_8_method_13_code 70 = .ok (.aload_n 0, 1) := by decide +kernel
theorem d_S_replyToMessage_71 : decode prog_8_method_13_code 71 = .ok (.aload_n 1, 1) := by decide +kernel
theorem d_S_replyToMessage_72 : decode prog_8_method_13_code 72 = .ok (.iconst 0, 1) := by decide +kernel
theorem d_S_replyToMessage_73 : decode prog_8_method_13_code 73 = .ok (.iaload, 1) := by decide +kernel
theorem d_S_replyToMessage_74 : decode prog_8_method_13_code 74 = .ok (.aload_n 1, 1) := by decide +kernel
theorem d_S_replyToMessage_75 : decode prog_8_method_13_code 75 = .ok (.iconst 1, 1) := by decide +kernel
theorem d_S_replyToMessage_76 : decode prog_8_method_13_code 76 = .ok (.iaload, 1) := by decide +kernel
theorem d_S_replyToMessage_77 : decode prog_8_method_13_code 77 = .ok (.iload_n 2, 1) := by decide +kernel
theorem d_S_replyToMessage_78 : decode prog_8_method_13_code 78 = .ok (.aload_n 0, 1) := by decide +kernel
theorem d_S_replyToMessage_79 : decode prog_8_method_13_code 79 = .ok (.getfield 21, 3) := by decide +kernel
theorem d_S_replyToMessage_82 : decode prog_8_method_13_code 82 = .ok (.getfield 171, 3) := by decide +kernel
theorem d_S_replyToMessage_85 : decode prog_8_method_13_code 85 = .ok (.iconst 1, 1) := by decide +kernel
theorem d_S_replyToMessage_86 : decode prog_8_method_13_code 86 = .ok (.aaload, 1) := by decide +kernel
theorem d_S_replyToMessage_87 : decode prog_8_method_13_code 87 = .ok (.invokevirtual 175, 3) := by decide +kernel
theorem d_S_replyToMessage_90 : decode prog_8_method_13_code 90 = .ok (.aload_n 0, 1) := by decide +kernel
theorem d_S_replyToMessage_91 : decode prog_8_method_13_code 91 = .ok (.getfield 35, 3) := by decide +kernel
theorem d_S_replyToMessage_94 : decode prog_8_method_13_code 94 = .ok (.iconst 3, 1) := by decide +kernel
theorem d_S_replyToMessage_95 : decode prog_8_method_13_code 95 = .ok (.dup2, 1) := by decide +kernel
theorem d_S_replyToMessage_96 : decode prog_8_method_13_code 96 = .ok (.iaload, 1) := by decide +kernel
theorem d_S_replyToMessage_97 : decode prog_8_method_13_code 97 = .ok (.iconst 1, 1) := by decide +kernel
theorem d_S_replyToMessage_98 : decode prog_8_method_13_code 98 = .ok (.iadd, 1) := by decide +kernel
theorem d_S_replyToMessage_99 : decode prog_8_method_13_code 99 = .ok (.iastore, 1) := by decide +kernel
theorem d_S_replyToMessage_100 : decode prog_8_method_13_code 100 = .ok (.aload_n 0, 1) := by decide +kernel
theorem d_S_replyToMessage_101 : decode prog_8_method_13_code 101 = .ok (.getfield 21, 3) := by decide +kernel
theorem d_S_replyToMessage_104 : decode prog_8_method_13_code 104 = .ok (.getfield 45, 3) := by decide +kernel
theorem d_S_replyToMessage_107 : decode prog_8_method_13_code 107 = .ok (.bipush 48, 2) := by decide +kernel
theorem d_S_replyToMessage_109 : decode prog_8_method_13_code 109 = .ok (.iconst 0, 1) := by decide +kernel
theorem d_S_replyToMessage_110 : decode prog_8_method_13_code 110 = .ok (.iastore, 1) := by decide +kernel
theorem d_S_replyToMessage_111 : decode prog_8_method_13_code 111 = .ok (.aload_n 0, 1) := by decide +kernel
theorem d_S_replyToMessage_112 : decode prog_8_method_13_code 112 = .ok (.getfield 21, 3) := by decide +kernel
theorem d_S_replyToMessage_115 : decode prog_8_method_13_code 115 = .ok (.getfield 45, 3) := by decide +kernel
theorem d_S_replyToMessage_118 : decode prog_8_method_13_code 118 = .ok (.bipush 49, 2) := by decide +kernel
theorem d_S_replyToMessage_120 : decode prog_8_method_13_code 120 = .ok (.iconst 1, 1) := by decide +kernel
theorem d_S_replyToMessage_121 : decode prog_8_method_13_code 121 = .ok (.iastore, 1) := by decide +kernel
theorem d_S_replyToMessage_122 : decode prog_8_method_13_code 122 = .ok (.return_, 1) := by decide +kernel
theorem d_S_takeSensors_0 : decode prog_8_method_15_code 0 = .ok (.aload_n 0, 1) := by decide +kernel
theorem d_S_takeSensors_1 : decode prog_8_method_15_code 1 = .ok (.invokevirtual 115, 3) := by decide +kernel
theorem d_S_takeSensors_4 : decode prog_8_method_15_code 4 = .ok (.iconst 4, 1) := by decide +kernel
theorem d_S_takeSensors_5 : decode prog_8_method_15_code 5 = .ok (.if_icmp .lt 58, 3) := by decide +kernel
theorem d_S_takeSensors_8 : decode prog_8_method_15_code 8 = .ok (.aload_n 0, 1) := by decide +kernel
theorem d_S_takeSensors_9 : decode prog_8_method_15_code 9 = .ok (.getfield 42, 3) := by decide +kernel
theorem d_S_takeSensors_12 : decode prog_8_method_15_code 12 = .ok (.ifCond .le 51, 3) := by decide +kernel
theorem d_S_takeSensors_15 : decode prog_8_method_15_code 15 = .ok (.aload_n 0, 1) := by decide +kernel
theorem d_S_takeSensors_16 : decode prog_8_method_15_code 16 = .ok (.getfield 21, 3) := by decide +kernel
theorem d_S_takeSensors_19 : decode prog_8_method_15_code 19 = .ok (.iconst 3, 1) := by decide +kernel
theorem d_S_takeSensors_20 : decode prog_8_method_15_code 20 = .ok (.iconst 0, 1) := by decide +kernel
theorem d_S_takeSensors_21 : decode prog_8_method_15_code 21 = .ok (.aload_n 0, 1) := by decide +kernel
theorem d_S_takeSensors_22 : decode prog_8_method_15_code 22 = .ok (.getfield 42, 3) := by decide +kernel
theorem d_S_takeSensors_25 : decode prog_8_method_15_code 25 = .ok (.invokevirtual 164, 3) := by decide +kernel
theorem d_S_takeSensors_28 : decode prog_8_method_15_code 28 = .ok (.ifCond .eq 35, 3) := by decide +kernel
theorem d_S_takeSensors_31 : decode prog_8_method_15_code 31 = .ok (.aload_n 0, 1) := by decide +kernel
theorem d_S_takeSensors_32 : decode prog_8_method_15_code 32 = .ok (.getfield 9, 3) := by decide +kernel
theorem d_S_takeSensors_35 : decode prog_8_method_15_code 35 = .ok (.iconst 0, 1) := by decide +kernel
theorem d_S_takeSensors_36 : decode prog_8_method_15_code 36 = .ok (.aload_n 0, 1) := by decide +kernel
theorem d_S_takeSensors_37 : decode prog_8_method_15_code 37 = .ok (.getfield 21, 3) := by decide +kernel
theorem d_S_takeSensors_40 : decode prog_8_method_15_code 40 = .ok (.getfield 171, 3) := by decide +kernel
theorem d_S_takeSensors_43 : decode prog_8_method_15_code 43 = .ok (.iconst 3, 1) := by decide +kernel
theorem d_S_takeSensors_44 : decode prog_8_method_15_code 44 = .ok (.aaload, 1) := by decide +kernel
theorem d_S_takeSensors_45 : decode prog_8_method_15_code 45 = .ok (.iconst 0, 1) := by decide +kernel
theorem d_S_takeSensors_46 : decode prog_8_method_15_code 46 = .ok (.aload_n 0, 1) := by decide +kernel
theorem d_S_takeSensors_47 : decode prog_8_method_15_code 47 = .ok (.getfield 42, 3) := by decide +kernel
theorem d_S_takeSensors_50 : decode prog_8_method_15_code 50 = .ok (.invokestatic 87, 3) := by decide +kernel
theorem d_S_takeSensors_53 : decode prog_8_method_15_code 53 = .ok (.aload_n 0, 1) := by decide +kernel
theorem d_S_takeSensors_54 : decode prog_8_method_15_code 54 = .ok (.getfield 21, 3) := by decide +kernel
theorem d_S_takeSensors_57 : decode prog_8_method_15_code 57 = .ok (.getfield 156, 3) := by decide +kernel
theorem d_S_takeSensors_60 : decode prog_8_method_15_code 60 = .ok (.iconst 3, 1) := by decide +kernel
theorem d_S_takeSensors_61 : decode prog_8_method_15_code 61 = .ok (.iconst 1, 1) := by decide +kernel
theorem d_S_takeSensors_62 : decode prog_8_method_15_code 62 = .ok (.bastore, 1) := by decide +kernel
theorem d_S_takeSensors_63 : decode prog_8_method_15_code 63 = .ok (.return_, 1) := by decide +kernel
theorem d_S_watch_0 : decode prog_8_method_17_code 0 = .ok (.aload_n 0, 1) := by decide +kernel
theorem d_S_watch_1 : decode prog_8_method_17_code 1 = .ok (.getfield 21, 3) := by decide +kernel
theorem d_S_watch_4 : decode prog_8_method_17_code 4 = .ok (.dup, 1) := by decide +kernel
theorem d_S_watch_5 : decode prog_8_method_17_code 5 = .ok (.getfield 149, 3) := by decide +kernel
theorem d_S_watch_8 : decode prog_8_method_17_code 8 = .ok (.iconst 1, 1) := by decide +kernel
theorem d_S_watch_9 : decode prog_8_method_17_code 9 = .ok (.iadd, 1) := by decide +kernel
theorem d_S_watch_10 : decode prog_8_method_17_code 10 = .ok (.putfield 149, 3) := by decide +kernel
theorem d_S_watch_13 : decode prog_8_method_17_code 13 = .ok (.aload_n 0, 1) := by decide +kernel
theorem d_S_watch_14 : decode prog_8_method_17_code 14 = .ok (.getfield 21, 3) := by decide +kernel
theorem d_S_watch_17 : decode prog_8_method_17_code 17 = .ok (.getfield 45, 3) := by decide +kernel
theorem d_S_watch_20 : decode prog_8_method_17_code 20 = .ok (.iconst 4, 1) := by decide +kernel
theorem d_S_watch_21 : decode prog_8_method_17_code 21 = .ok (.iaload, 1) := by decide +kernel
theorem d_S_watch_22 : decode prog_8_method_17_code 22 = .ok (.istore_n 1, 1) := by decide +kernel
theorem d_S_watch_23 : decode prog_8_method_17_code 23 = .ok (.aload_n 0, 1) := by decide +kernel
theorem d_S_watch_24 : decode prog_8_method_17_code 24 = .ok (.invokevirtual 115, 3) := by decide +kernel
theorem d_S_watch_27 : decode prog_8_method_17_code 27 = .ok (.bipush 8, 2) := by decide +kernel
theorem d_S_watch_29 : decode prog_8_method_17_code 29 = .ok (.if_icmp .ne 48, 3) := by decide +kernel
theorem d_S_watch_32 : decode prog_8_method_17_code 32 = .ok (.aload_n 0, 1) := by decide +kernel
theorem d_S_watch_33 : decode prog_8_method_17_code 33 = .ok (.getfield 38, 3) := by decide +kernel
theorem d_S_watch_36 : decode prog_8_method_17_code 36 = .ok (.ifCond .le 41, 3) := by decide +kernel
theorem d_S_watch_39 : decode prog_8_method_17_code 39 = .ok (.iload_n 1, 1) := by decide +kernel
theorem d_S_watch_40 : decode prog_8_method_17_code 40 = .ok (.ifCond .eq 37, 3) := by decide +kernel
theorem d_S_watch_43 : decode prog_8_method_17_code 43 = .ok (.aload_n 0, 1) := by decide +kernel
theorem d_S_watch_44 : decode prog_8_method_17_code 44 = .ok (.getfield 21, 3) := by decide +kernel
theorem d_S_watch_47 : decode prog_8_method_17_code 47 = .ok (.getfield 149, 3) := by decide +kernel
theorem d_S_watch_50 : decode prog_8_method_17_code 50 = .ok (.iload_n 1, 1) := by decide +kernel
theorem d_S_watch_51 : decode prog_8_method_17_code 51 = .ok (.if_icmp .le 26, 3) := by decide +kernel
theorem d_S_watch_54 : decode prog_8_method_17_code 54 = .ok (.aload_n 0, 1) := by decide +kernel
theorem d_S_watch_55 : decode prog_8_method_17_code 55 = .ok (.iconst 4, 1) := by decide +kernel
theorem d_S_watch_56 : decode prog_8_method_17_code 56 = .ok (.bipush 27, 2) := by decide +kernel
theorem d_S_watch_58 : decode prog_8_method_17_code 58 = .ok (.invokevirtual 138, 3) := by decide +kernel
theorem d_S_watch_61 : decode prog_8_method_17_code 61 = .ok (.aload_n 0, 1) := by decide +kernel
theorem d_S_watch_62 : decode prog_8_method_17_code 62 = .ok (.getfield 21, 3) := by decide +kernel
theorem d_S_watch_65 : decode prog_8_method_17_code 65 = .ok (.iconst 0, 1) := by decide +kernel
theorem d_S_watch_66 : decode prog_8_method_17_code 66 = .ok (.putfield 146, 3) := by decide +kernel
theorem d_S_watch_69 : decode prog_8_method_17_code 69 = .ok (.aload_n 0, 1) := by decide +kernel
theorem d_S_watch_70 : decode prog_8_method_17_code 70 = .ok (.getfield 15, 3) := by decide +kernel
theorem d_S_watch_73 : decode prog_8_method_17_code 73 = .ok (.iconst 0, 1) := by decide +kernel
theorem d_S_watch_74 : decode prog_8_method_17_code 74 = .ok (.invokestatic 183, 3) := by decide +kernel
theorem d_S_watch_77 : decode prog_8_method_17_code 77 = .ok (.return_, 1) := by decide +kernel
theorem d_S_makeTick_0 : decode prog_8_method_5_code 0 = .ok (.aload_n 0, 1) := by decide +kernel
theorem d_S_makeTick_1 : decode prog_8_method_5_code 1 = .ok (.invokevirtual 112, 3) := by decide +kernel
theorem d_S_makeTick_4 : decode prog_8_method_5_code 4 = .ok (.aload_n 0, 1) := by decide +kernel
theorem d_S_makeTick_5 : decode prog_8_method_5_code 5 = .ok (.invokevirtual 115, 3) := by decide +kernel
theorem d_S_makeTick_8 : decode prog_8_method_5_code 8 = .ok (.iconst 1, 1) := by decide +kernel
theorem d_S_makeTick_9 : decode prog_8_method_5_code 9 = .ok (.if_icmp .eq 7, 3) := by decide +kernel
theorem d_S_makeTick_12 : decode prog_8_method_5_code 12 = .ok (.aload_n 0, 1) := by decide +kernel
theorem d_S_makeTick_13 : decode prog_8_method_5_code 13 = .ok (.invokevirtual 118, 3) := by decide +kernel
theorem d_S_makeTick_16 : decode prog_8_method_5_code 16 = .ok (.aload_n 0, 1) := by decide +kernel
theorem d_S_makeTick_17 : decode prog_8_method_5_code 17 = .ok (.invokevirtual 121, 3) := by decide +kernel
theorem d_S_makeTick_20 : decode prog_8_method_5_code 20 = .ok (.aload_n 0, 1) := by decide +kernel
theorem d_S_makeTick_21 : decode prog_8_method_5_code 21 = .ok (.invokevirtual 124, 3) := by decide +kernel
theorem d_S_makeTick_24 : decode prog_8_method_5_code 24 = .ok (.aload_n 0, 1) := by decide +kernel
theorem d_S_makeTick_25 : decode prog_8_method_5_code 25 = .ok (.invokevirtual 127, 3) := by decide +kernel
theorem d_S_makeTick_28 : decode prog_8_method_5_code 28 = .ok (.return_, 1) := by decide +kernel
theorem d_L_tick_0 : decode prog_1_method_9_code 0 = .ok (.iconst 0, 1) := by decide +kernel
theorem d_L_tick_1 : decode prog_1_method_9_code 1 = .ok (.istore_n 1, 1) := by decide +kernel
theorem d_L_tick_2 : decode prog_1_method_9_code 2 = .ok (.iload_n 1, 1) := by decide +kernel
theorem d_L_tick_3 : decode prog_1_method_9_code 3 = .ok (.aload_n 0, 1) := by decide +kernel
theorem d_L_tick_4 : decode prog_1_method_9_code 4 = .ok (.getfield 12, 3) := by decide +kernel
theorem d_L_tick_7 : decode prog_1_method_9_code 7 = .ok (.getfield 33, 3) := by decide +kernel
theorem d_L_tick_10 : decode prog_1_method_9_code 10 = .ok (.if_icmp .ge 21, 3) := by decide +kernel
theorem d_L_tick_13 : decode prog_1_method_9_code 13 = .ok (.aload_n 0, 1) := by decide +kernel
theorem d_L_tick_14 : decode prog_1_method_9_code 14 = .ok (.getfield 12, 3) := by decide +kernel
theorem d_L_tick_17 : decode prog_1_method_9_code 17 = .ok (.getfield 37, 3) := by decide +kernel
theorem d_L_tick_20 : decode prog_1_method_9_code 20 = .ok (.iload_n 1, 1) := by decide +kernel
theorem d_L_tick_21 : decode prog_1_method_9_code 21 = .ok (.aaload, 1) := by decide +kernel
theorem d_L_tick_22 : decode prog_1_method_9_code 22 = .ok (.invokevirtual 99, 3) := by decide +kernel
theorem d_L_tick_25 : decode prog_1_method_9_code 25 = .ok (.iinc 1 1, 3) := by decide +kernel
theorem d_L_tick_28 : decode prog_1_method_9_code 28 = .ok (.goto (-26), 3) := by decide +kernel
theorem d_L_tick_31 : decode prog_1_method_9_code 31 = .ok (.return_, 1) := by decide +kernel
theorem d_L_sense_0 : decode prog_1_method_10_code 0 = .ok (.aload_n 0, 1) := by decide +kernel
theorem d_L_sense_1 : decode prog_1_method_10_code 1 = .ok (.getfield 12, 3) := by decide +kernel
theorem d_L_sense_4 : decode prog_1_method_10_code 4 = .ok (.iload_n 1, 1) := by decide +kernel
theorem d_L_sense_5 : decode prog_1_method_10_code 5 = .ok (.invokevirtual 89, 3) := by decide +kernel
theorem d_L_sense_8 : decode prog_1_method_10_code 8 = .ok (.ifCond .eq 23, 3) := by decide +kernel
theorem d_L_sense_11 : decode prog_1_method_10_code 11 = .ok (.iload_n 2, 1) := by decide +kernel
theorem d_L_sense_12 : decode prog_1_method_10_code 12 = .ok (.ifCond .lt 19, 3) := by decide +kernel
theorem d_L_sense_15 : decode prog_1_method_10_code 15 = .ok (.iload_n 2, 1) := by decide +kernel
theorem d_L_sense_16 : decode prog_1_method_10_code 16 = .ok (.aload_n 0, 1) := by decide +kernel
theorem d_L_sense_17 : decode prog_1_method_10_code 17 = .ok (.getfield 12, 3) := by decide +kernel
theorem d_L_sense_20 : decode prog_1_method_10_code 20 = .ok (.getfield 37, 3) := by decide +kernel
theorem d_L_sense_23 : decode prog_1_method_10_code 23 = .ok (.iload_n 1, 1) := by decide +kernel
theorem d_L_sense_24 : decode prog_1_method_10_code 24 = .ok (.aaload, 1) := by decide +kernel
theorem d_L_sense_25 : decode prog_1_method_10_code 25 = .ok (.getfield 102, 3) := by decide +kernel
theorem d_L_sense_28 : decode prog_1_method_10_code 28 = .ok (.if_icmp .lt 5, 3) := by decide +kernel
theorem d_L_sense_31 : decode prog_1_method_10_code 31 = .ok (.iconst 0, 1) := by decide +kernel
theorem d_L_sense_32 : decode prog_1_method_10_code 32 = .ok (.ireturn, 1) := by decide +kernel
theorem d_L_sense_33 : decode prog_1_method_10_code 33 = .ok (.aload_n 0, 1) := by decide +kernel
theorem d_L_sense_34 : decode prog_1_method_10_code 34 = .ok (.getfield 12, 3) := by decide +kernel
theorem d_L_sense_37 : decode prog_1_method_10_code 37 = .ok (.getfield 37, 3) := by decide +kernel
theorem d_L_sense_40 : decode prog_1_method_10_code 40 = .ok (.iload_n 1, 1) := by decide +kernel
theorem d_L_sense_41 : decode prog_1_method_10_code 41 = .ok (.aaload, 1) := by decide +kernel
theorem d_L_sense_42 : decode prog_1_method_10_code 42 = .ok (.getfield 105, 3) := by decide +kernel
theorem d_L_sense_45 : decode prog_1_method_10_code 45 = .ok (.iload_n 2, 1) := by decide +kernel
theorem d_L_sense_46 : decode prog_1_method_10_code 46 = .ok (.iload_n 3, 1) := by decide +kernel
theorem d_L_sense_47 : decode prog_1_method_10_code 47 = .ok (.sipush 255, 3) := by decide +kernel
theorem d_L_sense_50 : decode prog_1_method_10_code 50 = .ok (.iand, 1) := by decide +kernel
theorem d_L_sense_51 : decode prog_1_method_10_code 51 = .ok (.iastore, 1) := by decide +kernel
theorem d_L_sense_52 : decode prog_1_method_10_code 52 = .ok (.iconst 1, 1) := by decide +kernel
theorem d_L_sense_53 : decode prog_1_method_10_code 53 = .ok (.ireturn, 1) := by decide +kernel
theorem d_L_actuator_0 : decode prog_1_method_11_code 0 = .ok (.aload_n 0, 1) := by decide +kernel
theorem d_L_actuator_1 : decode prog_1_method_11_code 1 = .ok (.getfield 12, 3) := by decide +kernel
theorem d_L_actuator_4 : decode prog_1_method_11_code 4 = .ok (.iload_n 1, 1) := by decide +kernel
theorem d_L_actuator_5 : decode prog_1_method_11_code 5 = .ok (.invokevirtual 89, 3) := by decide +kernel
theorem d_L_actuator_8 : decode prog_1_method_11_code 8 = .ok (.ifCond .eq 23, 3) := by decide +kernel
theorem d_L_actuator_11 : decode prog_1_method_11_code 11 = .ok (.iload_n 2, 1) := by decide +kernel
theorem d_L_actuator_12 : decode prog_1_method_11_code 12 = .ok (.ifCond .lt 19, 3) := by decide +kernel
theorem d_L_actuator_15 : decode prog_1_method_11_code 15 = .ok (.iload_n 2, 1) := by decide +kernel
theorem d_L_actuator_16 : decode prog_1_method_11_code 16 = .ok (.aload_n 0, 1) := by decide +kernel
theorem d_L_actuator_17 : decode prog_1_method_11_code 17 = .ok (.getfield 12, 3) := by decide +kernel
theorem d_L_actuator_20 : decode prog_1_method_11_code 20 = .ok (.getfield 37, 3) := by decide +kernel
theorem d_L_actuator_23 : decode prog_1_method_11_code 23 = .ok (.iload_n 1, 1) := by decide +kernel
theorem d_L_actuator_24 : decode prog_1_method_11_code 24 = .ok (.aaload, 1) := by decide +kernel
theorem d_L_actuator_25 : decode prog_1_method_11_code 25 = .ok (.getfield 108, 3) := by decide +kernel
theorem d_L_actuator_28 : decode prog_1_method_11_code 28 = .ok (.if_icmp .lt 5, 3) := by decide +kernel
theorem d_L_actuator_31 : decode prog_1_method_11_code 31 = .ok (.iconst (-1), 1) := by decide +kernel
theorem d_L_actuator_32 : decode prog_1_method_11_code 32 = .ok (.ireturn, 1) := by decide +kernel
theorem d_L_actuator_33 : decode prog_1_method_11_code 33 = .ok (.aload_n 0, 1) := by decide +kernel
theorem d_L_actuator_34 : decode prog_1_method_11_code 34 = .ok (.getfield 12, 3) := by decide +kernel
theorem d_L_actuator_37 : decode prog_1_method_11_code 37 = .ok (.getfield 37, 3) := by decide +kernel
theorem d_L_actuator_40 : decode prog_1_method_11_code 40 = .ok (.iload_n 1, 1) := by decide +kernel
theorem d_L_actuator_41 : decode prog_1_method_11_code 41 = .ok (.aaload, 1) := by decide +kernel
theorem d_L_actuator_42 : decode prog_1_method_11_code 42 = .ok (.getfield 111, 3) := by decide +kernel
theorem d_L_actuator_45 : decode prog_1_method_11_code 45 = .ok (.iload_n 2, 1) := by decide +kernel
theorem d_L_actuator_46 : decode prog_1_method_11_code 46 = .ok (.iaload, 1) := by decide +kernel
theorem d_L_actuator_47 : decode prog_1_method_11_code 47 = .ok (.ireturn, 1) := by decide +kernel
theorem d_L_state_0 : decode prog_1_method_12_code 0 = .ok (.aload_n 0, 1) := by decide +kernel
theorem d_L_state_1 : decode prog_1_method_12_code 1 = .ok (.getfield 12, 3) := by decide +kernel
theorem d_L_state_4 : decode prog_1_method_12_code 4 = .ok (.iload_n 1, 1) := by decide +kernel
theorem d_L_state_5 : decode prog_1_method_12_code 5 = .ok (.invokevirtual 89, 3) := by decide +kernel
theorem d_L_state_8 : decode prog_1_method_12_code 8 = .ok (.ifCond .ne 5, 3) := by decide +kernel
theorem d_L_state_11 : decode prog_1_method_12_code 11 = .ok (.iconst (-1), 1) := by decide +kernel
theorem d_L_state_12 : decode prog_1_method_12_code 12 = .ok (.ireturn, 1) := by decide +kernel
theorem d_L_state_13 : decode prog_1_method_12_code 13 = .ok (.aload_n 0, 1) := by decide +kernel
theorem d_L_state_14 : decode prog_1_method_12_code 14 = .ok (.getfield 12, 3) := by decide +kernel
theorem d_L_state_17 : decode prog_1_method_12_code 17 = .ok (.getfield 37, 3) := by decide +kernel
theorem d_L_state_20 : decode prog_1_method_12_code 20 = .ok (.iload_n 1, 1) := by decide +kernel
theorem d_L_state_21 : decode prog_1_method_12_code 21 = .ok (.aaload, 1) := by decide +kernel
theorem d_L_state_22 : decode prog_1_method_12_code 22 = .ok (.getfield 114, 3) := by decide +kernel
theorem d_L_state_25 : decode prog_1_method_12_code 25 = .ok (.getfield 118, 3) := by decide +kernel
theorem d_L_state_28 : decode prog_1_method_12_code 28 = .ok (.astore_n 2, 1) := by decide +kernel
theorem d_L_state_29 : decode prog_1_method_12_code 29 = .ok (.aload_n 2, 1) := by decide +kernel
theorem d_L_state_30 : decode prog_1_method_12_code 30 = .ok (.iconst 2, 1) := by decide +kernel
theorem d_L_state_31 : decode prog_1_method_12_code 31 = .ok (.iaload, 1) := by decide +kernel
theorem d_L_state_32 : decode prog_1_method_12_code 32 = .ok (.sipush 256, 3) := by decide +kernel
theorem d_L_state_35 : decode prog_1_method_12_code 35 = .ok (.aload_n 2, 1) := by decide +kernel
theorem d_L_state_36 : decode prog_1_method_12_code 36 = .ok (.iconst 3, 1) := by decide +kernel
theorem d_L_state_37 : decode prog_1_method_12_code 37 = .ok (.iaload, 1) := by decide +kernel
theorem d_L_state_38 : decode prog_1_method_12_code 38 = .ok (.imul, 1) := by decide +kernel
theorem d_L_state_39 : decode prog_1_method_12_code 39 = .ok (.iadd, 1) := by decide +kernel
theorem d_L_state_40 : decode prog_1_method_12_code 40 = .ok (.ireturn, 1) := by decide +kernel
theorem d_L_startFrame_0 : decode prog_1_method_22_code 0 = .ok (.aload_n 0, 1) := by decide +kernel
theorem d_L_startFrame_1 : decode prog_1_method_22_code 1 = .ok (.getfield 30, 3) := by decide +kernel
theorem d_L_startFrame_4 : decode prog_1_method_22_code 4 = .ok (.iconst 0, 1) := by decide +kernel
theorem d_L_startFrame_5 : decode prog_1_method_22_code 5 = .ok (.putfield 46, 3) := by decide +kernel
theorem d_L_startFrame_8 : decode prog_1_method_22_code 8 = .ok (.aload_n 0, 1) := by decide +kernel
theorem d_L_startFrame_9 : decode prog_1_method_22_code 9 = .ok (.getfield 30, 3) := by decide +kernel
theorem d_L_startFrame_12 : decode prog_1_method_22_code 12 = .ok (.iload_n 1, 1) := by decide +kernel
theorem d_L_startFrame_13 : decode prog_1_method_22_code 13 = .ok (.iload_n 2, 1) := by decide +kernel
theorem d_L_startFrame_14 : decode prog_1_method_22_code 14 = .ok (.iload_n 3, 1) := by decide +kernel
theorem d_L_startFrame_15 : decode prog_1_method_22_code 15 = .ok (.iload 4, 2) := by decide +kernel
theorem d_L_startFrame_17 : decode prog_1_method_22_code 17 = .ok (.invokevirtual 54, 3) := by decide +kernel
theorem d_L_startFrame_20 : decode prog_1_method_22_code 20 = .ok (.areturn, 1) := by decide +kernel
theorem d_I_forget_0 : decode prog_4_method_2_code 0 = .ok (.aload_n 0, 1) := by decide +kernel
theorem d_I_forget_1 : decode prog_4_method_2_code 1 = .ok (.iconst 0, 1) := by decide +kernel
theorem d_I_forget_2 : decode prog_4_method_2_code 2 = .ok (.putfield 27, 3) := by decide +kernel
theorem d_I_forget_5 : decode prog_4_method_2_code 5 = .ok (.aload_n 0, 1) := by decide +kernel
theorem d_I_forget_6 : decode prog_4_method_2_code 6 = .ok (.iconst 0, 1) := by decide +kernel
theorem d_I_forget_7 : decode prog_4_method_2_code 7 = .ok (.putfield 31, 3) := by decide +kernel
theorem d_I_forget_10 : decode prog_4_method_2_code 10 = .ok (.aload_n 0, 1) := by decide +kernel
theorem d_I_forget_11 : decode prog_4_method_2_code 11 = .ok (.getfield 9, 3) := by decide +kernel
theorem d_I_forget_14 : decode prog_4_method_2_code 14 = .ok (.iconst 0, 1) := by decide +kernel
theorem d_I_forget_15 : decode prog_4_method_2_code 15 = .ok (.invokestatic 34, 3) := by decide +kernel
theorem d_I_forget_18 : decode prog_4_method_2_code 18 = .ok (.aload_n 0, 1) := by decide +kernel
theorem d_I_forget_19 : decode prog_4_method_2_code 19 = .ok (.getfield 15, 3) := by decide +kernel
theorem d_I_forget_22 : decode prog_4_method_2_code 22 = .ok (.iconst 0, 1) := by decide +kernel
theorem d_I_forget_23 : decode prog_4_method_2_code 23 = .ok (.invokestatic 34, 3) := by decide +kernel
theorem d_I_forget_26 : decode prog_4_method_2_code 26 = .ok (.return_, 1) := by decide +kernel
theorem d_L_scan_0 : decode prog_1_method_13_code 0 = .ok (.aload_n 0, 1) := by decide +kernel
theorem d_L_scan_1 : decode prog_1_method_13_code 1 = .ok (.getfield 19, 3) := by decide +kernel
theorem d_L_scan_4 : decode prog_1_method_13_code 4 = .ok (.invokevirtual 121, 3) := by decide +kernel
theorem d_L_scan_7 : decode prog_1_method_13_code 7 = .ok (.aload_n 0, 1) := by decide +kernel
theorem d_L_scan_8 : decode prog_1_method_13_code 8 = .ok (.iconst 0, 1) := by decide +kernel
theorem d_L_scan_9 : decode prog_1_method_13_code 9 = .ok (.putfield 124, 3) := by decide +kernel
theorem d_L_scan_12 : decode prog_1_method_13_code 12 = .ok (.aload_n 0, 1) := by decide +kernel
theorem d_L_scan_13 : decode prog_1_method_13_code 13 = .ok (.bipush 7, 2) := by decide +kernel
theorem d_L_scan_15 : decode prog_1_method_13_code 15 = .ok (.iconst 0, 1) := by decide +kernel
theorem d_L_scan_16 : decode prog_1_method_13_code 16 = .ok (.iconst 0, 1) := by decide +kernel
theorem d_L_scan_17 : decode prog_1_method_13_code 17 = .ok (.iconst 1, 1) := by decide +kernel
theorem d_L_scan_18 : decode prog_1_method_13_code 18 = .ok (.invokevirtual 127, 3) := by decide +kernel
theorem d_L_scan_21 : decode prog_1_method_13_code 21 = .ok (.astore_n 1, 1) := by decide +kernel
theorem d_L_scan_22 : decode prog_1_method_13_code 22 = .ok (.aload_n 0, 1) := by decide +kernel
theorem d_L_scan_23 : decode prog_1_method_13_code 23 = .ok (.aload_n 0, 1) := by decide +kernel
theorem d_L_scan_24 : decode prog_1_method_13_code 24 = .ok (.getfield 12, 3) := by decide +kernel
theorem d_L_scan_27 : decode prog_1_method_13_code 27 = .ok (.aload_n 0, 1) := by decide +kernel
theorem d_L_scan_28 : decode prog_1_method_13_code 28 = .ok (.getfield 30, 3) := by decide +kernel
theorem d_L_scan_31 : decode prog_1_method_13_code 31 = .ok (.invokevirtual 72, 3) := by decide +kernel
theorem d_L_scan_34 : decode prog_1_method_13_code 34 = .ok (.putfield 76, 3) := by decide +kernel
theorem d_L_scan_37 : decode prog_1_method_13_code 37 = .ok (.aload_n 0, 1) := by decide +kernel
theorem d_L_scan_38 : decode prog_1_method_13_code 38 = .ok (.getfield 76, 3) := by decide +kernel
theorem d_L_scan_41 : decode prog_1_method_13_code 41 = .ok (.ifCond .ne 5, 3) := by decide +kernel
theorem d_L_scan_44 : decode prog_1_method_13_code 44 = .ok (.iconst (-1), 1) := by decide +kernel
theorem d_L_scan_45 : decode prog_1_method_13_code 45 = .ok (.ireturn, 1) := by decide +kernel
theorem d_L_scan_46 : decode prog_1_method_13_code 46 = .ok (.aload_n 0, 1) := by decide +kernel
theorem d_L_scan_47 : decode prog_1_method_13_code 47 = .ok (.aload_n 1, 1) := by decide +kernel
theorem d_L_scan_48 : decode prog_1_method_13_code 48 = .ok (.getfield 83, 3) := by decide +kernel
theorem d_L_scan_51 : decode prog_1_method_13_code 51 = .ok (.putfield 124, 3) := by decide +kernel
theorem d_L_scan_54 : decode prog_1_method_13_code 54 = .ok (.iconst 0, 1) := by decide +kernel
theorem d_L_scan_55 : decode prog_1_method_13_code 55 = .ok (.istore_n 2, 1) := by decide +kernel
theorem d_L_scan_56 : decode prog_1_method_13_code 56 = .ok (.iload_n 2, 1) := by decide +kernel
theorem d_L_scan_57 : decode prog_1_method_13_code 57 = .ok (.aload_n 0, 1) := by decide +kernel
theorem d_L_scan_58 : decode prog_1_method_13_code 58 = .ok (.getfield 124, 3) := by decide +kernel
theorem d_L_scan_61 : decode prog_1_method_13_code 61 = .ok (.if_icmp .ge 48, 3) := by decide +kernel
theorem d_L_scan_64 : decode prog_1_method_13_code 64 = .ok (.aload_n 0, 1) := by decide +kernel
theorem d_L_scan_65 : decode prog_1_method_13_code 65 = .ok (.iconst 2, 1) := by decide +kernel
theorem d_L_scan_66 : decode prog_1_method_13_code 66 = .ok (.ldc 130, 2) := by decide +kernel
theorem d_L_scan_68 : decode prog_1_method_13_code 68 = .ok (.iload_n 2, 1) := by decide +kernel
theorem d_L_scan_69 : decode prog_1_method_13_code 69 = .ok (.isub, 1) := by decide +kernel
theorem d_L_scan_70 : decode prog_1_method_13_code 70 = .ok (.ldc 53, 2) := by decide +kernel
theorem d_L_scan_72 : decode prog_1_method_13_code 72 = .ok (.iand, 1) := by decide +kernel
theorem d_L_scan_73 : decode prog_1_method_13_code 73 = .ok (.iconst 0, 1) := by decide +kernel
theorem d_L_scan_74 : decode prog_1_method_13_code 74 = .ok (.iconst 1, 1) := by decide +kernel
theorem d_L_scan_75 : decode prog_1_method_13_code 75 = .ok (.invokevirtual 127, 3) := by decide +kernel
theorem d_L_scan_78 : decode prog_1_method_13_code 78 = .ok (.astore_n 3, 1) := by decide +kernel
theorem d_L_scan_79 : decode prog_1_method_13_code 79 = .ok (.aload_n 3, 1) := by decide +kernel
theorem d_L_scan_80 : decode prog_1_method_13_code 80 = .ok (.getfield 66, 3) := by decide +kernel
theorem d_L_scan_83 : decode prog_1_method_13_code 83 = .ok (.iconst 0, 1) := by decide +kernel
theorem d_L_scan_84 : decode prog_1_method_13_code 84 = .ok (.iload_n 2, 1) := by decide +kernel
theorem d_L_scan_85 : decode prog_1_method_13_code 85 = .ok (.iconst 1, 1) := by decide +kernel
theorem d_L_scan_86 : decode prog_1_method_13_code 86 = .ok (.iadd, 1) := by decide +kernel
theorem d_L_scan_87 : decode prog_1_method_13_code 87 = .ok (.iastore, 1) := by decide +kernel
theorem d_L_scan_88 : decode prog_1_method_13_code 88 = .ok (.aload_n 0, 1) := by decide +kernel
theorem d_L_scan_89 : decode prog_1_method_13_code 89 = .ok (.aload_n 0, 1) := by decide +kernel
theorem d_L_scan_90 : decode prog_1_method_13_code 90 = .ok (.getfield 12, 3) := by decide +kernel
theorem d_L_scan_93 : decode prog_1_method_13_code 93 = .ok (.aload_n 0, 1) := by decide +kernel
theorem d_L_scan_94 : decode prog_1_method_13_code 94 = .ok (.getfield 30, 3) := by decide +kernel
theorem d_L_scan_97 : decode prog_1_method_13_code 97 = .ok (.invokevirtual 72, 3) := by decide +kernel
theorem d_L_scan_100 : decode prog_1_method_13_code 100 = .ok (.putfield 76, 3) := by decide +kernel
theorem d_L_scan_103 : decode prog_1_method_13_code 103 = .ok (.iinc 2 1, 3) := by decide +kernel
theorem d_L_scan_106 : decode prog_1_method_13_code 106 = .ok (.goto (-50), 3) := by decide +kernel
theorem d_L_scan_109 : decode prog_1_method_13_code 109 = .ok (.aload_n 0, 1) := by decide +kernel
theorem d_L_scan_110 : decode prog_1_method_13_code 110 = .ok (.getfield 124, 3) := by decide +kernel
theorem d_L_scan_113 : decode prog_1_method_13_code 113 = .ok (.ireturn, 1) := by decide +kernel
theorem d_L_writeChannel_0 : decode prog_1_method_25_code 0 = .ok (.aload_n 0, 1) := by decide +kernel
theorem d_L_writeChannel_1 : decode prog_1_method_25_code 1 = .ok (.iload_n 1, 1) := by decide +kernel
theorem d_L_writeChannel_2 : decode prog_1_method_25_code 2 = .ok (.iload_n 2, 1) := by decide +kernel
theorem d_L_writeChannel_3 : decode prog_1_method_25_code 3 = .ok (.iastore, 1) := by decide +kernel
theorem d_L_writeChannel_4 : decode prog_1_method_25_code 4 = .ok (.aload_n 0, 1) := by decide +kernel
theorem d_L_writeChannel_5 : decode prog_1_method_25_code 5 = .ok (.iload_n 1, 1) := by decide +kernel
theorem d_L_writeChannel_6 : decode prog_1_method_25_code 6 = .ok (.iconst 1, 1) := by decide +kernel
theorem d_L_writeChannel_7 : decode prog_1_method_25_code 7 = .ok (.iadd, 1) := by decide +kernel
theorem d_L_writeChannel_8 : decode prog_1_method_25_code 8 = .ok (.iload_n 3, 1) := by decide +kernel
theorem d_L_writeChannel_9 : decode prog_1_method_25_code 9 = .ok (.iastore, 1) := by decide +kernel
theorem d_L_writeChannel_10 : decode prog_1_method_25_code 10 = .ok (.aload_n 0, 1) := by decide +kernel
theorem d_L_writeChannel_11 : decode prog_1_method_25_code 11 = .ok (.iload_n 1, 1) := by decide +kernel
theorem d_L_writeChannel_12 : decode prog_1_method_25_code 12 = .ok (.iconst 2, 1) := by decide +kernel
theorem d_L_writeChannel_13 : decode prog_1_method_25_code 13 = .ok (.iadd, 1) := by decide +kernel
theorem d_L_writeChannel_14 : decode prog_1_method_25_code 14 = .ok (.iload 4, 2) := by decide +kernel
theorem d_L_writeChannel_16 : decode prog_1_method_25_code 16 = .ok (.iastore, 1) := by decide +kernel
theorem d_L_writeChannel_17 : decode prog_1_method_25_code 17 = .ok (.aload_n 0, 1) := by decide +kernel
theorem d_L_writeChannel_18 : decode prog_1_method_25_code 18 = .ok (.iload_n 1, 1) := by decide +kernel
theorem d_L_writeChannel_19 : decode prog_1_method_25_code 19 = .ok (.iconst 3, 1) := by decide +kernel
theorem d_L_writeChannel_20 : decode prog_1_method_25_code 20 = .ok (.iadd, 1) := by decide +kernel
theorem d_L_writeChannel_21 : decode prog_1_method_25_code 21 = .ok (.iload_n 3, 1) := by decide +kernel
theorem d_L_writeChannel_22 : decode prog_1_method_25_code 22 = .ok (.ifCond .le 7, 3) := by decide +kernel
theorem d_L_writeChannel_25 : decode prog_1_method_25_code 25 = .ok (.iconst 1, 1) := by decide +kernel
theorem d_L_writeChannel_26 : decode prog_1_method_25_code 26 = .ok (.goto 4, 3) := by decide +kernel
theorem d_L_writeChannel_29 : decode prog_1_method_25_code 29 = .ok (.iconst 0, 1) := by decide +kernel
theorem d_L_writeChannel_30 : decode prog_1_method_25_code 30 = .ok (.iastore, 1) := by decide +kernel
theorem d_L_writeChannel_31 : decode prog_1_method_25_code 31 = .ok (.return_, 1) := by decide +kernel
theorem d_L_writeMap_0 : decode prog_1_method_26_code 0 = .ok (.aload_n 0, 1) := by decide +kernel
theorem d_L_writeMap_1 : decode prog_1_method_26_code 1 = .ok (.iconst 0, 1) := by decide +kernel
theorem d_L_writeMap_2 : decode prog_1_method_26_code 2 = .ok (.iload_n 1, 1) := by decide +kernel
theorem d_L_writeMap_3 : decode prog_1_method_26_code 3 = .ok (.iastore, 1) := by decide +kernel
theorem d_L_writeMap_4 : decode prog_1_method_26_code 4 = .ok (.aload_n 0, 1) := by decide +kernel
theorem d_L_writeMap_5 : decode prog_1_method_26_code 5 = .ok (.iconst 1, 1) := by decide +kernel
theorem d_L_writeMap_6 : decode prog_1_method_26_code 6 = .ok (.iconst 0, 1) := by decide +kernel
theorem d_L_writeMap_7 : decode prog_1_method_26_code 7 = .ok (.iastore, 1) := by decide +kernel
theorem d_L_writeMap_8 : decode prog_1_method_26_code 8 = .ok (.aload_n 0, 1) := by decide +kernel
theorem d_L_writeMap_9 : decode prog_1_method_26_code 9 = .ok (.iconst 2, 1) := by decide +kernel
theorem d_L_writeMap_10 : decode prog_1_method_26_code 10 = .ok (.bipush 8, 2) := by decide +kernel
theorem d_L_writeMap_12 : decode prog_1_method_26_code 12 = .ok (.iload_n 2, 1) := by decide +kernel
theorem d_L_writeMap_13 : decode prog_1_method_26_code 13 = .ok (.imul, 1) := by decide +kernel
theorem d_L_writeMap_14 : decode prog_1_method_26_code 14 = .ok (.iastore, 1) := by decide +kernel
theorem d_L_writeMap_15 : decode prog_1_method_26_code 15 = .ok (.aload_n 0, 1) := by decide +kernel
theorem d_L_writeMap_16 : decode prog_1_method_26_code 16 = .ok (.iconst 3, 1) := by decide +kernel
theorem d_L_writeMap_17 : decode prog_1_method_26_code 17 = .ok (.iload_n 3, 1) := by decide +kernel
theorem d_L_writeMap_18 : decode prog_1_method_26_code 18 = .ok (.iastore, 1) := by decide +kernel
theorem d_L_writeMap_19 : decode prog_1_method_26_code 19 = .ok (.aload_n 0, 1) := by decide +kernel
theorem d_L_writeMap_20 : decode prog_1_method_26_code 20 = .ok (.iconst 4, 1) := by decide +kernel
theorem d_L_writeMap_21 : decode prog_1_method_26_code 21 = .ok (.iconst 0, 1) := by decide +kernel
theorem d_L_writeMap_22 : decode prog_1_method_26_code 22 = .ok (.iastore, 1) := by decide +kernel
theorem d_L_writeMap_23 : decode prog_1_method_26_code 23 = .ok (.aload_n 0, 1) := by decide +kernel
theorem d_L_writeMap_24 : decode prog_1_method_26_code 24 = .ok (.iconst 5, 1) := by decide +kernel
theorem d_L_writeMap_25 : decode prog_1_method_26_code 25 = .ok (.iload 4, 2) := by decide +kernel
theorem d_L_writeMap_27 : decode prog_1_method_26_code 27 = .ok (.iastore, 1) := by decide +kernel
theorem d_L_writeMap_28 : decode prog_1_method_26_code 28 = .ok (.return_, 1) := by decide +kernel
theorem d_L_startChannelsFrame_0 : decode prog_1_method_23_code 0 = .ok (.aload_n 0, 1) := by decide +kernel
theorem d_L_startChannelsFrame_1 : decode prog_1_method_23_code 1 = .ok (.getfield 12, 3) := by decide +kernel
theorem d_L_startChannelsFrame_4 : decode prog_1_method_23_code 4 = .ok (.getfield 37, 3) := by decide +kernel
theorem d_L_startChannelsFrame_7 : decode prog_1_method_23_code 7 = .ok (.iload_n 1, 1) := by decide +kernel
theorem d_L_startChannelsFrame_8 : decode prog_1_method_23_code 8 = .ok (.aaload, 1) := by decide +kernel
theorem d_L_startChannelsFrame_9 : decode prog_1_method_23_code 9 = .ok (.astore_n 2, 1) := by decide +kernel
theorem d_L_startChannelsFrame_10 : decode prog_1_method_23_code 10 = .ok (.aload_n 0, 1) := by decide +kernel
theorem d_L_startChannelsFrame_11 : decode prog_1_method_23_code 11 = .ok (.iconst 5, 1) := by decide +kernel
theorem d_L_startChannelsFrame_12 : decode prog_1_method_23_code 12 = .ok (.iload_n 1, 1) := by decide +kernel
theorem d_L_startChannelsFrame_13 : decode prog_1_method_23_code 13 = .ok (.iconst 1, 1) := by decide +kernel
theorem d_L_startChannelsFrame_14 : decode prog_1_method_23_code 14 = .ok (.iadd, 1) := by decide +kernel
theorem d_L_startChannelsFrame_15 : decode prog_1_method_23_code 15 = .ok (.bipush 32, 2) := by decide +kernel
theorem d_L_startChannelsFrame_17 : decode prog_1_method_23_code 17 = .ok (.bipush 8, 2) := by decide +kernel
theorem d_L_startChannelsFrame_19 : decode prog_1_method_23_code 19 = .ok (.invokevirtual 127, 3) := by decide +kernel
theorem d_L_startChannelsFrame_22 : decode prog_1_method_23_code 22 = .ok (.astore_n 3, 1) := by decide +kernel
theorem d_L_startChannelsFrame_23 : decode prog_1_method_23_code 23 = .ok (.aload_n 3, 1) := by decide +kernel
theorem d_L_startChannelsFrame_24 : decode prog_1_method_23_code 24 = .ok (.getfield 66, 3) := by decide +kernel
theorem d_L_startChannelsFrame_27 : decode prog_1_method_23_code 27 = .ok (.iconst 0, 1) := by decide +kernel
theorem d_L_startChannelsFrame_28 : decode prog_1_method_23_code 28 = .ok (.bipush 64, 2) := by decide +kernel
theorem d_L_startChannelsFrame_30 : decode prog_1_method_23_code 30 = .ok (.bipush 6, 2) := by decide +kernel
theorem d_L_startChannelsFrame_32 : decode prog_1_method_23_code 32 = .ok (.iconst 3, 1) := by decide +kernel
theorem d_L_startChannelsFrame_33 : decode prog_1_method_23_code 33 = .ok (.invokestatic 175, 3) := by decide +kernel
theorem d_L_startChannelsFrame_36 : decode prog_1_method_23_code 36 = .ok (.aload_n 3, 1) := by decide +kernel
theorem d_L_startChannelsFrame_37 : decode prog_1_method_23_code 37 = .ok (.getfield 66, 3) := by decide +kernel
theorem d_L_startChannelsFrame_40 : decode prog_1_method_23_code 40 = .ok (.iconst 4, 1) := by decide +kernel
theorem d_L_startChannelsFrame_41 : decode prog_1_method_23_code 41 = .ok (.bipush 72, 2) := by decide +kernel
theorem d_L_startChannelsFrame_43 : decode prog_1_method_23_code 43 = .ok (.bipush 6, 2) := by decide +kernel
theorem d_L_startChannelsFrame_45 : decode prog_1_method_23_code 45 = .ok (.iconst 1, 1) := by decide +kernel
theorem d_L_startChannelsFrame_46 : decode prog_1_method_23_code 46 = .ok (.invokestatic 175, 3) := by decide +kernel
theorem d_L_startChannelsFrame_49 : decode prog_1_method_23_code 49 = .ok (.aload_n 0, 1) := by decide +kernel
theorem d_L_startChannelsFrame_50 : decode prog_1_method_23_code 50 = .ok (.getfield 30, 3) := by decide +kernel
theorem d_L_startChannelsFrame_53 : decode prog_1_method_23_code 53 = .ok (.iconst 5, 1) := by decide +kernel
theorem d_L_startChannelsFrame_54 : decode prog_1_method_23_code 54 = .ok (.iload_n 1, 1) := by decide +kernel
theorem d_L_startChannelsFrame_55 : decode prog_1_method_23_code 55 = .ok (.iconst 1, 1) := by decide +kernel
theorem d_L_startChannelsFrame_56 : decode prog_1_method_23_code 56 = .ok (.iadd, 1) := by decide +kernel
theorem d_L_startChannelsFrame_57 : decode prog_1_method_23_code 57 = .ok (.bipush 40, 2) := by decide +kernel
theorem d_L_startChannelsFrame_59 : decode prog_1_method_23_code 59 = .ok (.bipush 8, 2) := by decide +kernel
theorem d_L_startChannelsFrame_61 : decode prog_1_method_23_code 61 = .ok (.invokevirtual 54, 3) := by decide +kernel
theorem d_L_startChannelsFrame_64 : decode prog_1_method_23_code 64 = .ok (.astore 4, 2) := by decide +kernel
theorem d_L_startChannelsFrame_66 : decode prog_1_method_23_code 66 = .ok (.aload 4, 2) := by decide +kernel
theorem d_L_startChannelsFrame_68 : decode prog_1_method_23_code 68 = .ok (.getfield 66, 3) := by decide +kernel
theorem d_L_startChannelsFrame_71 : decode prog_1_method_23_code 71 = .ok (.iconst 0, 1) := by decide +kernel
theorem d_L_startChannelsFrame_72 : decode prog_1_method_23_code 72 = .ok (.bipush 80, 2) := by decide +kernel
theorem d_L_startChannelsFrame_74 : decode prog_1_method_23_code 74 = .ok (.aload_n 2, 1) := by decide +kernel
theorem d_L_startChannelsFrame_75 : decode prog_1_method_23_code 75 = .ok (.getfield 108, 3) := by decide +kernel
theorem d_L_startChannelsFrame_78 : decode prog_1_method_23_code 78 = .ok (.iconst 2, 1) := by decide +kernel
theorem d_L_startChannelsFrame_79 : decode prog_1_method_23_code 79 = .ok (.invokestatic 175, 3) := by decide +kernel
theorem d_L_startChannelsFrame_82 : decode prog_1_method_23_code 82 = .ok (.aload 4, 2) := by decide +kernel
theorem d_L_startChannelsFrame_84 : decode prog_1_method_23_code 84 = .ok (.getfield 66, 3) := by decide +kernel
theorem d_L_startChannelsFrame_87 : decode prog_1_method_23_code 87 = .ok (.iconst 4, 1) := by decide +kernel
theorem d_L_startChannelsFrame_88 : decode prog_1_method_23_code 88 = .ok (.bipush 96, 2) := by decide +kernel
theorem d_L_startChannelsFrame_90 : decode prog_1_method_23_code 90 = .ok (.aload_n 2, 1) := by decide +kernel
theorem d_L_startChannelsFrame_91 : decode prog_1_method_23_code 91 = .ok (.getfield 102, 3) := by decide +kernel
theorem d_L_startChannelsFrame_94 : decode prog_1_method_23_code 94 = .ok (.iconst 0, 1) := by decide +kernel
theorem d_L_startChannelsFrame_95 : decode prog_1_method_23_code 95 = .ok (.invokestatic 175, 3) := by decide +kernel
theorem d_L_startChannelsFrame_98 : decode prog_1_method_23_code 98 = .ok (.aload_n 0, 1) := by decide +kernel
theorem d_L_startChannelsFrame_99 : decode prog_1_method_23_code 99 = .ok (.getfield 30, 3) := by decide +kernel
theorem d_L_startChannelsFrame_102 : decode prog_1_method_23_code 102 = .ok (.iconst 5, 1) := by decide +kernel
theorem d_L_startChannelsFrame_103 : decode prog_1_method_23_code 103 = .ok (.iload_n 1, 1) := by decide +kernel
theorem d_L_startChannelsFrame_104 : decode prog_1_method_23_code 104 = .ok (.iconst 1, 1) := by decide +kernel
theorem d_L_startChannelsFrame_105 : decode prog_1_method_23_code 105 = .ok (.iadd, 1) := by decide +kernel
theorem d_L_startChannelsFrame_106 : decode prog_1_method_23_code 106 = .ok (.bipush 8, 2) := by decide +kernel
theorem d_L_startChannelsFrame_108 : decode prog_1_method_23_code 108 = .ok (.bipush 6, 2) := by decide +kernel
theorem d_L_startChannelsFrame_110 : decode prog_1_method_23_code 110 = .ok (.invokevirtual 54, 3) := by decide +kernel
theorem d_L_startChannelsFrame_113 : decode prog_1_method_23_code 113 = .ok (.astore 5, 2) := by decide +kernel
theorem d_L_startChannelsFrame_115 : decode prog_1_method_23_code 115 = .ok (.aload 5, 2) := by decide +kernel
theorem d_L_startChannelsFrame_117 : decode prog_1_method_23_code 117 = .ok (.getfield 66, 3) := by decide +kernel
theorem d_L_startChannelsFrame_120 : decode prog_1_method_23_code 120 = .ok (.aload_n 0, 1) := by decide +kernel
theorem d_L_startChannelsFrame_121 : decode prog_1_method_23_code 121 = .ok (.getfield 19, 3) := by decide +kernel
theorem d_L_startChannelsFrame_124 : decode prog_1_method_23_code 124 = .ok (.getfield 179, 3) := by decide +kernel
theorem d_L_startChannelsFrame_127 : decode prog_1_method_23_code 127 = .ok (.iload_n 1, 1) := by decide +kernel
theorem d_L_startChannelsFrame_128 : decode prog_1_method_23_code 128 = .ok (.iaload, 1) := by decide +kernel
theorem d_L_startChannelsFrame_129 : decode prog_1_method_23_code 129 = .ok (.aload_n 2, 1) := by decide +kernel
theorem d_L_startChannelsFrame_130 : decode prog_1_method_23_code 130 = .ok (.getfield 108, 3) := by decide +kernel
theorem d_L_startChannelsFrame_133 : decode prog_1_method_23_code 133 = .ok (.bipush 80, 2) := by decide +kernel
theorem d_L_startChannelsFrame_135 : decode prog_1_method_23_code 135 = .ok (.iconst 2, 1) := by decide +kernel
theorem d_L_startChannelsFrame_136 : decode prog_1_method_23_code 136 = .ok (.invokestatic 182, 3) := by decide +kernel
theorem d_L_startChannelsFrame_139 : decode prog_1_method_23_code 139 = .ok (.return_, 1) := by decide +kernel
theorem d_L_startInputsFrame_0 : decode prog_1_method_24_code 0 = .ok (.aload_n 0, 1) := by decide +kernel
theorem d_L_startInputsFrame_1 : decode prog_1_method_24_code 1 = .ok (.iconst 5, 1) := by decide +kernel
theorem d_L_startInputsFrame_2 : decode prog_1_method_24_code 2 = .ok (.iload_n 1, 1) := by decide +kernel
theorem d_L_startInputsFrame_3 : decode prog_1_method_24_code 3 = .ok (.iconst 1, 1) := by decide +kernel
theorem d_L_startInputsFrame_4 : decode prog_1_method_24_code 4 = .ok (.iadd, 1) := by decide +kernel
theorem d_L_startInputsFrame_5 : decode prog_1_method_24_code 5 = .ok (.bipush 14, 2) := by decide +kernel
theorem d_L_startInputsFrame_7 : decode prog_1_method_24_code 7 = .ok (.bipush 6, 2) := by decide +kernel
theorem d_L_startInputsFrame_9 : decode prog_1_method_24_code 9 = .ok (.invokevirtual 127, 3) := by decide +kernel
theorem d_L_startInputsFrame_12 : decode prog_1_method_24_code 12 = .ok (.astore_n 2, 1) := by decide +kernel
theorem d_L_startInputsFrame_13 : decode prog_1_method_24_code 13 = .ok (.aload_n 2, 1) := by decide +kernel
theorem d_L_startInputsFrame_14 : decode prog_1_method_24_code 14 = .ok (.getfield 66, 3) := by decide +kernel
theorem d_L_startInputsFrame_17 : decode prog_1_method_24_code 17 = .ok (.aload_n 0, 1) := by decide +kernel
theorem d_L_startInputsFrame_18 : decode prog_1_method_24_code 18 = .ok (.getfield 19, 3) := by decide +kernel
theorem d_L_startInputsFrame_21 : decode prog_1_method_24_code 21 = .ok (.getfield 185, 3) := by decide +kernel
theorem d_L_startInputsFrame_24 : decode prog_1_method_24_code 24 = .ok (.iload_n 1, 1) := by decide +kernel
theorem d_L_startInputsFrame_25 : decode prog_1_method_24_code 25 = .ok (.iaload, 1) := by decide +kernel
theorem d_L_startInputsFrame_26 : decode prog_1_method_24_code 26 = .ok (.aload_n 0, 1) := by decide +kernel
theorem d_L_startInputsFrame_27 : decode prog_1_method_24_code 27 = .ok (.getfield 12, 3) := by decide +kernel
theorem d_L_startInputsFrame_30 : decode prog_1_method_24_code 30 = .ok (.getfield 37, 3) := by decide +kernel
theorem d_L_startInputsFrame_33 : decode prog_1_method_24_code 33 = .ok (.iload_n 1, 1) := by decide +kernel
theorem d_L_startInputsFrame_34 : decode prog_1_method_24_code 34 = .ok (.aaload, 1) := by decide +kernel
theorem d_L_startInputsFrame_35 : decode prog_1_method_24_code 35 = .ok (.getfield 102, 3) := by decide +kernel
theorem d_L_startInputsFrame_38 : decode prog_1_method_24_code 38 = .ok (.bipush 96, 2) := by decide +kernel
theorem d_L_startInputsFrame_40 : decode prog_1_method_24_code 40 = .ok (.iconst 1, 1) := by decide +kernel
theorem d_L_startInputsFrame_41 : decode prog_1_method_24_code 41 = .ok (.invokestatic 182, 3) := by decide +kernel
theorem d_L_startInputsFrame_44 : decode prog_1_method_24_code 44 = .ok (.return_, 1) := by decide +kernel
theorem d_F_isCountedOnce_0 : decode prog_3_method_4_code 0 = .ok (.iconst 0, 1) := by decide +kernel
theorem d_F_isCountedOnce_1 : decode prog_3_method_4_code 1 = .ok (.istore_n 1, 1) := by decide +kernel
theorem d_F_isCountedOnce_2 : decode prog_3_method_4_code 2 = .ok (.iload_n 1, 1) := by decide +kernel
theorem d_F_isCountedOnce_3 : decode prog_3_method_4_code 3 = .ok (.aload_n 0, 1) := by decide +kernel
theorem d_F_isCountedOnce_4 : decode prog_3_method_4_code 4 = .ok (.getfield 18, 3) := by decide +kernel
theorem d_F_isCountedOnce_7 : decode prog_3_method_4_code 7 = .ok (.if_icmp .ge 24, 3) := by decide +kernel
theorem d_F_isCountedOnce_10 : decode prog_3_method_4_code 10 = .ok (.aload_n 0, 1) := by decide +kernel
theorem d_F_isCountedOnce_11 : decode prog_3_method_4_code 11 = .ok (.getfield 11, 3) := by decide +kernel
theorem d_F_isCountedOnce_14 : decode prog_3_method_4_code 14 = .ok (.iload_n 1, 1) := by decide +kernel
theorem d_F_isCountedOnce_15 : decode prog_3_method_4_code 15 = .ok (.aaload, 1) := by decide +kernel
theorem d_F_isCountedOnce_16 : decode prog_3_method_4_code 16 = .ok (.getfield 34, 3) := by decide +kernel
theorem d_F_isCountedOnce_19 : decode prog_3_method_4_code 19 = .ok (.iconst 1, 1) := by decide +kernel
theorem d_F_isCountedOnce_20 : decode prog_3_method_4_code 20 = .ok (.if_icmp .eq 5, 3) := by decide +kernel
theorem d_F_isCountedOnce_23 : decode prog_3_method_4_code 23 = .ok (.iconst 0, 1) := by decide +kernel
theorem d_F_isCountedOnce_24 : decode prog_3_method_4_code 24 = .ok (.ireturn, 1) := by decide +kernel
theorem d_F_isCountedOnce_25 : decode prog_3_method_4_code 25 = .ok (.iinc 1 1, 3) := by decide +kernel
theorem d_F_isCountedOnce_28 : decode prog_3_method_4_code 28 = .ok (.goto (-26), 3) := by decide +kernel
theorem d_F_isCountedOnce_31 : decode prog_3_method_4_code 31 = .ok (.iconst 1, 1) := by decide +kernel
theorem d_F_isCountedOnce_32 : decode prog_3_method_4_code 32 = .ok (.ireturn, 1) := by decide +kernel
theorem d_I_append_0 : decode prog_4_method_3_code 0 = .ok (.aload_n 0, 1) := by decide +kernel
theorem d_I_append_1 : decode prog_4_method_3_code 1 = .ok (.getfield 18, 3) := by decide +kernel
theorem d_I_append_4 : decode prog_4_method_3_code 4 = .ok (.aload_n 0, 1) := by decide +kernel
theorem d_I_append_5 : decode prog_4_method_3_code 5 = .ok (.getfield 27, 3) := by decide +kernel
theorem d_I_append_8 : decode prog_4_method_3_code 8 = .ok (.aload_n 0, 1) := by decide +kernel
theorem d_I_append_9 : decode prog_4_method_3_code 9 = .ok (.getfield 31, 3) := by decide +kernel
theorem d_I_append_12 : decode prog_4_method_3_code 12 = .ok (.iastore, 1) := by decide +kernel
theorem d_I_append_13 : decode prog_4_method_3_code 13 = .ok (.aload_n 0, 1) := by decide +kernel
theorem d_I_append_14 : decode prog_4_method_3_code 14 = .ok (.getfield 21, 3) := by decide +kernel
theorem d_I_append_17 : decode prog_4_method_3_code 17 = .ok (.aload_n 0, 1) := by decide +kernel
theorem d_I_append_18 : decode prog_4_method_3_code 18 = .ok (.getfield 27, 3) := by decide +kernel
theorem d_I_append_21 : decode prog_4_method_3_code 21 = .ok (.aload_n 0, 1) := by decide +kernel
theorem d_I_append_22 : decode prog_4_method_3_code 22 = .ok (.getfield 31, 3) := by decide +kernel
theorem d_I_append_25 : decode prog_4_method_3_code 25 = .ok (.aload_n 1, 1) := by decide +kernel
theorem d_I_append_26 : decode prog_4_method_3_code 26 = .ok (.getfield 40, 3) := by decide +kernel
theorem d_I_append_29 : decode prog_4_method_3_code 29 = .ok (.iadd, 1) := by decide +kernel
theorem d_I_append_30 : decode prog_4_method_3_code 30 = .ok (.iastore, 1) := by decide +kernel
theorem d_I_append_31 : decode prog_4_method_3_code 31 = .ok (.aload_n 0, 1) := by decide +kernel
theorem d_I_append_32 : decode prog_4_method_3_code 32 = .ok (.getfield 24, 3) := by decide +kernel
theorem d_I_append_35 : decode prog_4_method_3_code 35 = .ok (.aload_n 0, 1) := by decide +kernel
theorem d_I_append_36 : decode prog_4_method_3_code 36 = .ok (.getfield 27, 3) := by decide +kernel
theorem d_I_append_39 : decode prog_4_method_3_code 39 = .ok (.aload_n 0, 1) := by decide +kernel
theorem d_I_append_40 : decode prog_4_method_3_code 40 = .ok (.getfield 31, 3) := by decide +kernel
theorem d_I_append_43 : decode prog_4_method_3_code 43 = .ok (.aload_n 1, 1) := by decide +kernel
theorem d_I_append_44 : decode prog_4_method_3_code 44 = .ok (.getfield 40, 3) := by decide +kernel
theorem d_I_append_47 : decode prog_4_method_3_code 47 = .ok (.iadd, 1) := by decide +kernel
theorem d_I_append_48 : decode prog_4_method_3_code 48 = .ok (.aload_n 1, 1) := by decide +kernel
theorem d_I_append_49 : decode prog_4_method_3_code 49 = .ok (.getfield 45, 3) := by decide +kernel
theorem d_I_append_52 : decode prog_4_method_3_code 52 = .ok (.iadd, 1) := by decide +kernel
theorem d_I_append_53 : decode prog_4_method_3_code 53 = .ok (.iastore, 1) := by decide +kernel
theorem d_I_append_54 : decode prog_4_method_3_code 54 = .ok (.aload_n 0, 1) := by decide +kernel
theorem d_I_append_55 : decode prog_4_method_3_code 55 = .ok (.aload_n 0, 1) := by decide +kernel
theorem d_I_append_56 : decode prog_4_method_3_code 56 = .ok (.getfield 24, 3) := by decide +kernel
theorem d_I_append_59 : decode prog_4_method_3_code 59 = .ok (.aload_n 0, 1) := by decide +kernel
theorem d_I_append_60 : decode prog_4_method_3_code 60 = .ok (.getfield 27, 3) := by decide +kernel
theorem d_I_append_63 : decode prog_4_method_3_code 63 = .ok (.iaload, 1) := by decide +kernel
theorem d_I_append_64 : decode prog_4_method_3_code 64 = .ok (.putfield 31, 3) := by decide +kernel
theorem d_I_append_67 : decode prog_4_method_3_code 67 = .ok (.aload_n 0, 1) := by decide +kernel
theorem d_I_append_68 : decode prog_4_method_3_code 68 = .ok (.dup, 1) := by decide +kernel
theorem d_I_append_69 : decode prog_4_method_3_code 69 = .ok (.getfield 27, 3) := by decide +kernel
theorem d_I_append_72 : decode prog_4_method_3_code 72 = .ok (.iconst 1, 1) := by decide +kernel
theorem d_I_append_73 : decode prog_4_method_3_code 73 = .ok (.iadd, 1) := by decide +kernel
theorem d_I_append_74 : decode prog_4_method_3_code 74 = .ok (.putfield 27, 3) := by decide +kernel
theorem d_I_append_77 : decode prog_4_method_3_code 77 = .ok (.return_, 1) := by decide +kernel
theorem d_L_setup_0 : decode prog_1_method_14_code 0 = .ok (.aload_n 0, 1) := by decide +kernel
theorem d_L_setup_1 : decode prog_1_method_14_code 1 = .ok (.getfield 19, 3) := by decide +kernel
theorem d_L_setup_4 : decode prog_1_method_14_code 4 = .ok (.invokevirtual 121, 3) := by decide +kernel
theorem d_L_setup_7 : decode prog_1_method_14_code 7 = .ok (.iconst 0, 1) := by decide +kernel
theorem d_L_setup_8 : decode prog_1_method_14_code 8 = .ok (.istore_n 1, 1) := by decide +kernel
theorem d_L_setup_9 : decode prog_1_method_14_code 9 = .ok (.iconst 0, 1) := by decide +kernel
theorem d_L_setup_10 : decode prog_1_method_14_code 10 = .ok (.istore_n 2, 1) := by decide +kernel
theorem d_L_setup_11 : decode prog_1_method_14_code 11 = .ok (.iload_n 2, 1) := by decide +kernel
theorem d_L_setup_12 : decode prog_1_method_14_code 12 = .ok (.aload_n 0, 1) := by decide +kernel
theorem d_L_setup_13 : decode prog_1_method_14_code 13 = .ok (.getfield 124, 3) := by decide +kernel
theorem d_L_setup_16 : decode prog_1_method_14_code 16 = .ok (.if_icmp .ge 135, 3) := by decide +kernel
theorem d_L_setup_19 : decode prog_1_method_14_code 19 = .ok (.iload_n 2, 1) := by decide +kernel
theorem d_L_setup_20 : decode prog_1_method_14_code 20 = .ok (.aload_n 0, 1) := by decide +kernel
theorem d_L_setup_21 : decode prog_1_method_14_code 21 = .ok (.getfield 12, 3) := by decide +kernel
theorem d_L_setup_24 : decode prog_1_method_14_code 24 = .ok (.getfield 33, 3) := by decide +kernel
theorem d_L_setup_27 : decode prog_1_method_14_code 27 = .ok (.if_icmp .ge 124, 3) := by decide +kernel
theorem d_L_setup_30 : decode prog_1_method_14_code 30 = .ok (.aload_n 0, 1) := by decide +kernel
theorem d_L_setup_31 : decode prog_1_method_14_code 31 = .ok (.getfield 19, 3) := by decide +kernel
theorem d_L_setup_34 : decode prog_1_method_14_code 34 = .ok (.aload_n 0, 1) := by decide +kernel
theorem d_L_setup_35 : decode prog_1_method_14_code 35 = .ok (.getfield 12, 3) := by decide +kernel
theorem d_L_setup_38 : decode prog_1_method_14_code 38 = .ok (.getfield 37, 3) := by decide +kernel
theorem d_L_setup_41 : decode prog_1_method_14_code 41 = .ok (.iload_n 2, 1) := by decide +kernel
theorem d_L_setup_42 : decode prog_1_method_14_code 42 = .ok (.aaload, 1) := by decide +kernel
theorem d_L_setup_43 : decode prog_1_method_14_code 43 = .ok (.invokevirtual 131, 3) := by decide +kernel
theorem d_L_setup_46 : decode prog_1_method_14_code 46 = .ok (.aload_n 0, 1) := by decide +kernel
theorem d_L_setup_47 : decode prog_1_method_14_code 47 = .ok (.iload_n 2, 1) := by decide +kernel
theorem d_L_setup_48 : decode prog_1_method_14_code 48 = .ok (.invokevirtual 134, 3) := by decide +kernel
theorem d_L_setup_51 : decode prog_1_method_14_code 51 = .ok (.aload_n 0, 1) := by decide +kernel
theorem d_L_setup_52 : decode prog_1_method_14_code 52 = .ok (.aload_n 0, 1) := by decide +kernel
theorem d_L_setup_53 : decode prog_1_method_14_code 53 = .ok (.getfield 12, 3) := by decide +kernel
theorem d_L_setup_56 : decode prog_1_method_14_code 56 = .ok (.aload_n 0, 1) := by decide +kernel
theorem d_L_setup_57 : decode prog_1_method_14_code 57 = .ok (.getfield 30, 3) := by decide +kernel
theorem d_L_setup_60 : decode prog_1_method_14_code 60 = .ok (.invokevirtual 72, 3) := by decide +kernel
theorem d_L_setup_63 : decode prog_1_method_14_code 63 = .ok (.putfield 76, 3) := by decide +kernel
theorem d_L_setup_66 : decode prog_1_method_14_code 66 = .ok (.aload_n 0, 1) := by decide +kernel
theorem d_L_setup_67 : decode prog_1_method_14_code 67 = .ok (.getfield 76, 3) := by decide +kernel
theorem d_L_setup_70 : decode prog_1_method_14_code 70 = .ok (.ifCond .eq 17, 3) := by decide +kernel
theorem d_L_setup_73 : decode prog_1_method_14_code 73 = .ok (.aload_n 0, 1) := by decide +kernel
theorem d_L_setup_74 : decode prog_1_method_14_code 74 = .ok (.getfield 30, 3) := by decide +kernel
theorem d_L_setup_77 : decode prog_1_method_14_code 77 = .ok (.invokevirtual 138, 3) := by decide +kernel
theorem d_L_setup_80 : decode prog_1_method_14_code 80 = .ok (.ifCond .eq 7, 3) := by decide +kernel
theorem d_L_setup_83 : decode prog_1_method_14_code 83 = .ok (.iconst 1, 1) := by decide +kernel
theorem d_L_setup_84 : decode prog_1_method_14_code 84 = .ok (.goto 4, 3) := by decide +kernel
theorem d_L_setup_87 : decode prog_1_method_14_code 87 = .ok (.iconst 0, 1) := by decide +kernel
theorem d_L_setup_88 : decode prog_1_method_14_code 88 = .ok (.istore_n 3, 1) := by decide +kernel
theorem d_L_setup_89 : decode prog_1_method_14_code 89 = .ok (.aload_n 0, 1) := by decide +kernel
theorem d_L_setup_90 : decode prog_1_method_14_code 90 = .ok (.iload_n 2, 1) := by decide +kernel
theorem d_L_setup_91 : decode prog_1_method_14_code 91 = .ok (.invokevirtual 142, 3) := by decide +kernel
theorem d_L_setup_94 : decode prog_1_method_14_code 94 = .ok (.aload_n 0, 1) := by decide +kernel
theorem d_L_setup_95 : decode prog_1_method_14_code 95 = .ok (.aload_n 0, 1) := by decide +kernel
theorem d_L_setup_96 : decode prog_1_method_14_code 96 = .ok (.getfield 12, 3) := by decide +kernel
theorem d_L_setup_99 : decode prog_1_method_14_code 99 = .ok (.aload_n 0, 1) := by decide +kernel
theorem d_L_setup_100 : decode prog_1_method_14_code 100 = .ok (.getfield 30, 3) := by decide +kernel
theorem d_L_setup_103 : decode prog_1_method_14_code 103 = .ok (.invokevirtual 72, 3) := by decide +kernel
theorem d_L_setup_106 : decode prog_1_method_14_code 106 = .ok (.putfield 76, 3) := by decide +kernel
theorem d_L_setup_109 : decode prog_1_method_14_code 109 = .ok (.aload_n 0, 1) := by decide +kernel
theorem d_L_setup_110 : decode prog_1_method_14_code 110 = .ok (.getfield 76, 3) := by decide +kernel
theorem d_L_setup_113 : decode prog_1_method_14_code 113 = .ok (.ifCond .eq 17, 3) := by decide +kernel
theorem d_L_setup_116 : decode prog_1_method_14_code 116 = .ok (.aload_n 0, 1) := by decide +kernel
theorem d_L_setup_117 : decode prog_1_method_14_code 117 = .ok (.getfield 30, 3) := by decide +kernel
theorem d_L_setup_120 : decode prog_1_method_14_code 120 = .ok (.invokevirtual 138, 3) := by decide +kernel
theorem d_L_setup_123 : decode prog_1_method_14_code 123 = .ok (.ifCond .eq 7, 3) := by decide +kernel
theorem d_L_setup_126 : decode prog_1_method_14_code 126 = .ok (.iconst 1, 1) := by decide +kernel
theorem d_L_setup_127 : decode prog_1_method_14_code 127 = .ok (.goto 4, 3) := by decide +kernel
theorem d_L_setup_130 : decode prog_1_method_14_code 130 = .ok (.iconst 0, 1) := by decide +kernel
theorem d_L_setup_131 : decode prog_1_method_14_code 131 = .ok (.istore 4, 2) := by decide +kernel
theorem d_L_setup_133 : decode prog_1_method_14_code 133 = .ok (.iload_n 3, 1) := by decide +kernel
theorem d_L_setup_134 : decode prog_1_method_14_code 134 = .ok (.ifCond .eq 11, 3) := by decide +kernel
theorem d_L_setup_137 : decode prog_1_method_14_code 137 = .ok (.iload 4, 2) := by decide +kernel
theorem d_L_setup_139 : decode prog_1_method_14_code 139 = .ok (.ifCond .eq 6, 3) := by decide +kernel
theorem d_L_setup_142 : decode prog_1_method_14_code 142 = .ok (.iinc 1 1, 3) := by decide +kernel
theorem d_L_setup_145 : decode prog_1_method_14_code 145 = .ok (.iinc 2 1, 3) := by decide +kernel
theorem d_L_setup_148 : decode prog_1_method_14_code 148 = .ok (.goto (-137), 3) := by decide +kernel
theorem d_L_setup_151 : decode prog_1_method_14_code 151 = .ok (.iload_n 1, 1) := by decide +kernel
theorem d_L_setup_152 : decode prog_1_method_14_code 152 = .ok (.ireturn, 1) := by decide +kernel
theorem d_L_request_0 : decode prog_1_method_15_code 0 = .ok (.aload_n 0, 1) := by decide +kernel
theorem d_L_request_1 : decode prog_1_method_15_code 1 = .ok (.bipush 8, 2) := by decide +kernel
theorem d_L_request_3 : decode prog_1_method_15_code 3 = .ok (.iconst 0, 1) := by decide +kernel
theorem d_L_request_4 : decode prog_1_method_15_code 4 = .ok (.iconst 1, 1) := by decide +kernel
theorem d_L_request_5 : decode prog_1_method_15_code 5 = .ok (.iconst 1, 1) := by decide +kernel
theorem d_L_request_6 : decode prog_1_method_15_code 6 = .ok (.invokevirtual 127, 3) := by decide +kernel
theorem d_L_request_9 : decode prog_1_method_15_code 9 = .ok (.astore_n 2, 1) := by decide +kernel
theorem d_L_request_10 : decode prog_1_method_15_code 10 = .ok (.aload_n 2, 1) := by decide +kernel
theorem d_L_request_11 : decode prog_1_method_15_code 11 = .ok (.getfield 66, 3) := by decide +kernel
theorem d_L_request_14 : decode prog_1_method_15_code 14 = .ok (.iconst 0, 1) := by decide +kernel
theorem d_L_request_15 : decode prog_1_method_15_code 15 = .ok (.iload_n 1, 1) := by decide +kernel
theorem d_L_request_16 : decode prog_1_method_15_code 16 = .ok (.sipush 255, 3) := by decide +kernel
theorem d_L_request_19 : decode prog_1_method_15_code 19 = .ok (.iand, 1) := by decide +kernel
theorem d_L_request_20 : decode prog_1_method_15_code 20 = .ok (.iastore, 1) := by decide +kernel
theorem d_L_request_21 : decode prog_1_method_15_code 21 = .ok (.aload_n 0, 1) := by decide +kernel
theorem d_L_request_22 : decode prog_1_method_15_code 22 = .ok (.aload_n 0, 1) := by decide +kernel
theorem d_L_request_23 : decode prog_1_method_15_code 23 = .ok (.getfield 12, 3) := by decide +kernel
theorem d_L_request_26 : decode prog_1_method_15_code 26 = .ok (.aload_n 0, 1) := by decide +kernel
theorem d_L_request_27 : decode prog_1_method_15_code 27 = .ok (.getfield 30, 3) := by decide +kernel
theorem d_L_request_30 : decode prog_1_method_15_code 30 = .ok (.invokevirtual 72, 3) := by decide +kernel
theorem d_L_request_33 : decode prog_1_method_15_code 33 = .ok (.putfield 76, 3) := by decide +kernel
theorem d_L_request_36 : decode prog_1_method_15_code 36 = .ok (.aload_n 0, 1) := by decide +kernel
theorem d_L_request_37 : decode prog_1_method_15_code 37 = .ok (.getfield 76, 3) := by decide +kernel
theorem d_L_request_40 : decode prog_1_method_15_code 40 = .ok (.ifCond .eq 10, 3) := by decide +kernel
theorem d_L_request_43 : decode prog_1_method_15_code 43 = .ok (.aload_n 2, 1) := by decide +kernel
theorem d_L_request_44 : decode prog_1_method_15_code 44 = .ok (.getfield 83, 3) := by decide +kernel
theorem d_L_request_47 : decode prog_1_method_15_code 47 = .ok (.goto 4, 3) := by decide +kernel
theorem d_L_request_50 : decode prog_1_method_15_code 50 = .ok (.iconst (-1), 1) := by decide +kernel
theorem d_L_request_51 : decode prog_1_method_15_code 51 = .ok (.ireturn, 1) := by decide +kernel
theorem d_L_output_0 : decode prog_1_method_16_code 0 = .ok (.iload_n 1, 1) := by decide +kernel
theorem d_L_output_1 : decode prog_1_method_16_code 1 = .ok (.ifCond .lt 14, 3) := by decide +kernel
theorem d_L_output_4 : decode prog_1_method_16_code 4 = .ok (.iload_n 1, 1) := by decide +kernel
theorem d_L_output_5 : decode prog_1_method_16_code 5 = .ok (.aload_n 0, 1) := by decide +kernel
theorem d_L_output_6 : decode prog_1_method_16_code 6 = .ok (.getfield 19, 3) := by decide +kernel
theorem d_L_output_9 : decode prog_1_method_16_code 9 = .ok (.getfield 145, 3) := by decide +kernel
theorem d_L_output_12 : decode prog_1_method_16_code 12 = .ok (.if_icmp .lt 5, 3) := by decide +kernel
theorem d_L_output_15 : decode prog_1_method_16_code 15 = .ok (.iconst 0, 1) := by decide +kernel
theorem d_L_output_16 : decode prog_1_method_16_code 16 = .ok (.ireturn, 1) := by decide +kernel
theorem d_L_output_17 : decode prog_1_method_16_code 17 = .ok (.aload_n 0, 1) := by decide +kernel
theorem d_L_output_18 : decode prog_1_method_16_code 18 = .ok (.getfield 19, 3) := by decide +kernel
theorem d_L_output_21 : decode prog_1_method_16_code 21 = .ok (.getfield 146, 3) := by decide +kernel
theorem d_L_output_24 : decode prog_1_method_16_code 24 = .ok (.iload_n 1, 1) := by decide +kernel
theorem d_L_output_25 : decode prog_1_method_16_code 25 = .ok (.iload_n 2, 1) := by decide +kernel
theorem d_L_output_26 : decode prog_1_method_16_code 26 = .ok (.sipush 255, 3) := by decide +kernel
theorem d_L_output_29 : decode prog_1_method_16_code 29 = .ok (.iand, 1) := by decide +kernel
theorem d_L_output_30 : decode prog_1_method_16_code 30 = .ok (.iastore, 1) := by decide +kernel
theorem d_L_output_31 : decode prog_1_method_16_code 31 = .ok (.iconst 1, 1) := by decide +kernel
theorem d_L_output_32 : decode prog_1_method_16_code 32 = .ok (.ireturn, 1) := by decide +kernel
theorem d_I_meet_0 : decode prog_4_method_5_code 0 = .ok (.iload_n 0, 1) := by decide +kernel
theorem d_I_meet_1 : decode prog_4_method_5_code 1 = .ok (.iload_n 2, 1) := by decide +kernel
theorem d_I_meet_2 : decode prog_4_method_5_code 2 = .ok (.invokestatic 52, 3) := by decide +kernel
theorem d_I_meet_5 : decode prog_4_method_5_code 5 = .ok (.iload_n 1, 1) := by decide +kernel
theorem d_I_meet_6 : decode prog_4_method_5_code 6 = .ok (.iload_n 2, 1) := by decide +kernel
theorem d_I_meet_7 : decode prog_4_method_5_code 7 = .ok (.bipush 8, 2) := by decide +kernel
theorem d_I_meet_9 : decode prog_4_method_5_code 9 = .ok (.iadd, 1) := by decide +kernel
theorem d_I_meet_10 : decode prog_4_method_5_code 10 = .ok (.invokestatic 58, 3) := by decide +kernel
theorem d_I_meet_13 : decode prog_4_method_5_code 13 = .ok (.if_icmp .ge 7, 3) := by decide +kernel
theorem d_I_meet_16 : decode prog_4_method_5_code 16 = .ok (.iconst 1, 1) := by decide +kernel
theorem d_I_meet_17 : decode prog_4_method_5_code 17 = .ok (.goto 4, 3) := by decide +kernel
theorem d_I_meet_20 : decode prog_4_method_5_code 20 = .ok (.iconst 0, 1) := by decide +kernel
theorem d_I_meet_21 : decode prog_4_method_5_code 21 = .ok (.ireturn, 1) := by decide +kernel
theorem d_I_expected_0 : decode prog_4_method_4_code 0 = .ok (.iconst 0, 1) := by decide +kernel
theorem d_I_expected_1 : decode prog_4_method_4_code 1 = .ok (.istore_n 2, 1) := by decide +kernel
theorem d_I_expected_2 : decode prog_4_method_4_code 2 = .ok (.iconst 0, 1) := by decide +kernel
theorem d_I_expected_3 : decode prog_4_method_4_code 3 = .ok (.istore_n 3, 1) := by decide +kernel
theorem d_I_expected_4 : decode prog_4_method_4_code 4 = .ok (.iload_n 3, 1) := by decide +kernel
theorem d_I_expected_5 : decode prog_4_method_4_code 5 = .ok (.aload_n 0, 1) := by decide +kernel
theorem d_I_expected_6 : decode prog_4_method_4_code 6 = .ok (.getfield 27, 3) := by decide +kernel
theorem d_I_expected_9 : decode prog_4_method_4_code 9 = .ok (.if_icmp .ge 53, 3) := by decide +kernel
theorem d_I_expected_12 : decode prog_4_method_4_code 12 = .ok (.aload_n 0, 1) := by decide +kernel
theorem d_I_expected_13 : decode prog_4_method_4_code 13 = .ok (.getfield 18, 3) := by decide +kernel
theorem d_I_expected_16 : decode prog_4_method_4_code 16 = .ok (.iload_n 3, 1) := by decide +kernel
theorem d_I_expected_17 : decode prog_4_method_4_code 17 = .ok (.iaload, 1) := by decide +kernel
theorem d_I_expected_18 : decode prog_4_method_4_code 18 = .ok (.aload_n 0, 1) := by decide +kernel
theorem d_I_expected_19 : decode prog_4_method_4_code 19 = .ok (.getfield 21, 3) := by decide +kernel
theorem d_I_expected_22 : decode prog_4_method_4_code 22 = .ok (.iload_n 3, 1) := by decide +kernel
theorem d_I_expected_23 : decode prog_4_method_4_code 23 = .ok (.iaload, 1) := by decide +kernel
theorem d_I_expected_24 : decode prog_4_method_4_code 24 = .ok (.iload_n 1, 1) := by decide +kernel
theorem d_I_expected_25 : decode prog_4_method_4_code 25 = .ok (.invokestatic 48, 3) := by decide +kernel
theorem d_I_expected_28 : decode prog_4_method_4_code 28 = .ok (.ifCond .eq 6, 3) := by decide +kernel
theorem d_I_expected_31 : decode prog_4_method_4_code 31 = .ok (.iinc 2 2, 3) := by decide +kernel
theorem d_I_expected_34 : decode prog_4_method_4_code 34 = .ok (.aload_n 0, 1) := by decide +kernel
theorem d_I_expected_35 : decode prog_4_method_4_code 35 = .ok (.getfield 21, 3) := by decide +kernel
theorem d_I_expected_38 : decode prog_4_method_4_code 38 = .ok (.iload_n 3, 1) := by decide +kernel
theorem d_I_expected_39 : decode prog_4_method_4_code 39 = .ok (.iaload, 1) := by decide +kernel
theorem d_I_expected_40 : decode prog_4_method_4_code 40 = .ok (.aload_n 0, 1) := by decide +kernel
theorem d_I_expected_41 : decode prog_4_method_4_code 41 = .ok (.getfield 24, 3) := by decide +kernel
theorem d_I_expected_44 : decode prog_4_method_4_code 44 = .ok (.iload_n 3, 1) := by decide +kernel
theorem d_I_expected_45 : decode prog_4_method_4_code 45 = .ok (.iaload, 1) := by decide +kernel
theorem d_I_expected_46 : decode prog_4_method_4_code 46 = .ok (.iload_n 1, 1) := by decide +kernel
theorem d_I_expected_47 : decode prog_4_method_4_code 47 = .ok (.invokestatic 48, 3) := by decide +kernel
theorem d_I_expected_50 : decode prog_4_method_4_code 50 = .ok (.ifCond .eq 6, 3) := by decide +kernel
theorem d_I_expected_53 : decode prog_4_method_4_code 53 = .ok (.iinc 2 1, 3) := by decide +kernel
theorem d_I_expected_56 : decode prog_4_method_4_code 56 = .ok (.iinc 3 1, 3) := by decide +kernel
theorem d_I_expected_59 : decode prog_4_method_4_code 59 = .ok (.goto (-55), 3) := by decide +kernel
theorem d_I_expected_62 : decode prog_4_method_4_code 62 = .ok (.iload_n 2, 1) := by decide +kernel
theorem d_I_expected_63 : decode prog_4_method_4_code 63 = .ok (.ireturn, 1) := by decide +kernel
theorem d_L_cycle_0 : decode prog_1_method_17_code 0 = .ok (.aload_n 0, 1) := by decide +kernel
theorem d_L_cycle_1 : decode prog_1_method_17_code 1 = .ok (.getfield 19, 3) := by decide +kernel
theorem d_L_cycle_4 : decode prog_1_method_17_code 4 = .ok (.getfield 145, 3) := by decide +kernel
theorem d_L_cycle_7 : decode prog_1_method_17_code 7 = .ok (.ifCond .ne 5, 3) := by decide +kernel
theorem d_L_cycle_10 : decode prog_1_method_17_code 10 = .ok (.iconst (-1), 1) := by decide +kernel
theorem d_L_cycle_11 : decode prog_1_method_17_code 11 = .ok (.ireturn, 1) := by decide +kernel
theorem d_L_cycle_12 : decode prog_1_method_17_code 12 = .ok (.aload_n 0, 1) := by decide +kernel
theorem d_L_cycle_13 : decode prog_1_method_17_code 13 = .ok (.getfield 30, 3) := by decide +kernel
theorem d_L_cycle_16 : decode prog_1_method_17_code 16 = .ok (.iconst 0, 1) := by decide +kernel
theorem d_L_cycle_17 : decode prog_1_method_17_code 17 = .ok (.putfield 46, 3) := by decide +kernel
theorem d_L_cycle_20 : decode prog_1_method_17_code 20 = .ok (.iconst 0, 1) := by decide +kernel
theorem d_L_cycle_21 : decode prog_1_method_17_code 21 = .ok (.istore_n 1, 1) := by decide +kernel
theorem d_L_cycle_22 : decode prog_1_method_17_code 22 = .ok (.iload_n 1, 1) := by decide +kernel
theorem d_L_cycle_23 : decode prog_1_method_17_code 23 = .ok (.aload_n 0, 1) := by decide +kernel
theorem d_L_cycle_24 : decode prog_1_method_17_code 24 = .ok (.getfield 19, 3) := by decide +kernel
theorem d_L_cycle_27 : decode prog_1_method_17_code 27 = .ok (.getfield 145, 3) := by decide +kernel
theorem d_L_cycle_30 : decode prog_1_method_17_code 30 = .ok (.if_icmp .ge 54, 3) := by decide +kernel
theorem d_L_cycle_33 : decode prog_1_method_17_code 33 = .ok (.bipush 8, 2) := by decide +kernel
theorem d_L_cycle_35 : decode prog_1_method_17_code 35 = .ok (.aload_n 0, 1) := by decide +kernel
theorem d_L_cycle_36 : decode prog_1_method_17_code 36 = .ok (.getfield 19, 3) := by decide +kernel
theorem d_L_cycle_39 : decode prog_1_method_17_code 39 = .ok (.getfield 145, 3) := by decide +kernel
theorem d_L_cycle_42 : decode prog_1_method_17_code 42 = .ok (.iload_n 1, 1) := by decide +kernel
theorem d_L_cycle_43 : decode prog_1_method_17_code 43 = .ok (.isub, 1) := by decide +kernel
theorem d_L_cycle_44 : decode prog_1_method_17_code 44 = .ok (.invokestatic 149, 3) := by decide +kernel
theorem d_L_cycle_47 : decode prog_1_method_17_code 47 = .ok (.istore_n 2, 1) := by decide +kernel
theorem d_L_cycle_48 : decode prog_1_method_17_code 48 = .ok (.aload_n 0, 1) := by decide +kernel
theorem d_L_cycle_49 : decode prog_1_method_17_code 49 = .ok (.getfield 30, 3) := by decide +kernel
theorem d_L_cycle_52 : decode prog_1_method_17_code 52 = .ok (.bipush 12, 2) := by decide +kernel
theorem d_L_cycle_54 : decode prog_1_method_17_code 54 = .ok (.iload_n 1, 1) := by decide +kernel
theorem d_L_cycle_55 : decode prog_1_method_17_code 55 = .ok (.iconst 0, 1) := by decide +kernel
theorem d_L_cycle_56 : decode prog_1_method_17_code 56 = .ok (.iload_n 2, 1) := by decide +kernel
theorem d_L_cycle_57 : decode prog_1_method_17_code 57 = .ok (.invokevirtual 54, 3) := by decide +kernel
theorem d_L_cycle_60 : decode prog_1_method_17_code 60 = .ok (.astore_n 3, 1) := by decide +kernel
theorem d_L_cycle_61 : decode prog_1_method_17_code 61 = .ok (.aload_n 0, 1) := by decide +kernel
theorem d_L_cycle_62 : decode prog_1_method_17_code 62 = .ok (.getfield 19, 3) := by decide +kernel
theorem d_L_cycle_65 : decode prog_1_method_17_code 65 = .ok (.getfield 146, 3) := by decide +kernel
theorem d_L_cycle_68 : decode prog_1_method_17_code 68 = .ok (.iload_n 1, 1) := by decide +kernel
theorem d_L_cycle_69 : decode prog_1_method_17_code 69 = .ok (.aload_n 3, 1) := by decide +kernel
theorem d_L_cycle_70 : decode prog_1_method_17_code 70 = .ok (.getfield 66, 3) := by decide +kernel
theorem d_L_cycle_73 : decode prog_1_method_17_code 73 = .ok (.iconst 0, 1) := by decide +kernel
theorem d_L_cycle_74 : decode prog_1_method_17_code 74 = .ok (.iload_n 2, 1) := by decide +kernel
theorem d_L_cycle_75 : decode prog_1_method_17_code 75 = .ok (.invokestatic 155, 3) := by decide +kernel
theorem d_L_cycle_78 : decode prog_1_method_17_code 78 = .ok (.iinc 1 8, 3) := by decide +kernel
theorem d_L_cycle_81 : decode prog_1_method_17_code 81 = .ok (.goto (-59), 3) := by decide +kernel
theorem d_L_cycle_84 : decode prog_1_method_17_code 84 = .ok (.aload_n 0, 1) := by decide +kernel
theorem d_L_cycle_85 : decode prog_1_method_17_code 85 = .ok (.aload_n 0, 1) := by decide +kernel
theorem d_L_cycle_86 : decode prog_1_method_17_code 86 = .ok (.getfield 12, 3) := by decide +kernel
theorem d_L_cycle_89 : decode prog_1_method_17_code 89 = .ok (.aload_n 0, 1) := by decide +kernel
theorem d_L_cycle_90 : decode prog_1_method_17_code 90 = .ok (.getfield 30, 3) := by decide +kernel
theorem d_L_cycle_93 : decode prog_1_method_17_code 93 = .ok (.invokevirtual 72, 3) := by decide +kernel
theorem d_L_cycle_96 : decode prog_1_method_17_code 96 = .ok (.putfield 76, 3) := by decide +kernel
theorem d_L_cycle_99 : decode prog_1_method_17_code 99 = .ok (.aload_n 0, 1) := by decide +kernel
theorem d_L_cycle_100 : decode prog_1_method_17_code 100 = .ok (.getfield 76, 3) := by decide +kernel
theorem d_L_cycle_103 : decode prog_1_method_17_code 103 = .ok (.ifCond .ne 5, 3) := by decide +kernel
theorem d_L_cycle_106 : decode prog_1_method_17_code 106 = .ok (.iconst 1, 1) := by decide +kernel
theorem d_L_cycle_107 : decode prog_1_method_17_code 107 = .ok (.ireturn, 1) := by decide +kernel
theorem d_L_cycle_108 : decode prog_1_method_17_code 108 = .ok (.iconst 0, 1) := by decide +kernel
theorem d_L_cycle_109 : decode prog_1_method_17_code 109 = .ok (.istore_n 1, 1) := by decide +kernel
theorem d_L_cycle_110 : decode prog_1_method_17_code 110 = .ok (.iload_n 1, 1) := by decide +kernel
theorem d_L_cycle_111 : decode prog_1_method_17_code 111 = .ok (.aload_n 0, 1) := by decide +kernel
theorem d_L_cycle_112 : decode prog_1_method_17_code 112 = .ok (.getfield 30, 3) := by decide +kernel
theorem d_L_cycle_115 : decode prog_1_method_17_code 115 = .ok (.getfield 46, 3) := by decide +kernel
theorem d_L_cycle_118 : decode prog_1_method_17_code 118 = .ok (.if_icmp .ge 39, 3) := by decide +kernel
theorem d_L_cycle_121 : decode prog_1_method_17_code 121 = .ok (.aload_n 0, 1) := by decide +kernel
theorem d_L_cycle_122 : decode prog_1_method_17_code 122 = .ok (.getfield 30, 3) := by decide +kernel
theorem d_L_cycle_125 : decode prog_1_method_17_code 125 = .ok (.getfield 62, 3) := by decide +kernel
theorem d_L_cycle_128 : decode prog_1_method_17_code 128 = .ok (.iload_n 1, 1) := by decide +kernel
theorem d_L_cycle_129 : decode prog_1_method_17_code 129 = .ok (.aaload, 1) := by decide +kernel
theorem d_L_cycle_130 : decode prog_1_method_17_code 130 = .ok (.getfield 83, 3) := by decide +kernel
theorem d_L_cycle_133 : decode prog_1_method_17_code 133 = .ok (.aload_n 0, 1) := by decide +kernel
theorem d_L_cycle_134 : decode prog_1_method_17_code 134 = .ok (.getfield 19, 3) := by decide +kernel
theorem d_L_cycle_137 : decode prog_1_method_17_code 137 = .ok (.iload_n 1, 1) := by decide +kernel
theorem d_L_cycle_138 : decode prog_1_method_17_code 138 = .ok (.bipush 8, 2) := by decide +kernel
theorem d_L_cycle_140 : decode prog_1_method_17_code 140 = .ok (.imul, 1) := by decide +kernel
theorem d_L_cycle_141 : decode prog_1_method_17_code 141 = .ok (.invokevirtual 161, 3) := by decide +kernel
theorem d_L_cycle_144 : decode prog_1_method_17_code 144 = .ok (.if_icmp .eq 7, 3) := by decide +kernel
theorem d_L_cycle_147 : decode prog_1_method_17_code 147 = .ok (.iconst 2, 1) := by decide +kernel
theorem d_L_cycle_148 : decode prog_1_method_17_code 148 = .ok (.iload_n 1, 1) := by decide +kernel
theorem d_L_cycle_149 : decode prog_1_method_17_code 149 = .ok (.iadd, 1) := by decide +kernel
theorem d_L_cycle_150 : decode prog_1_method_17_code 150 = .ok (.ireturn, 1) := by decide +kernel
theorem d_L_cycle_151 : decode prog_1_method_17_code 151 = .ok (.iinc 1 1, 3) := by decide +kernel
theorem d_L_cycle_154 : decode prog_1_method_17_code 154 = .ok (.goto (-44), 3) := by decide +kernel
theorem d_L_cycle_157 : decode prog_1_method_17_code 157 = .ok (.iconst 0, 1) := by decide +kernel
theorem d_L_cycle_158 : decode prog_1_method_17_code 158 = .ok (.istore_n 1, 1) := by decide +kernel
theorem d_L_cycle_159 : decode prog_1_method_17_code 159 = .ok (.iload_n 1, 1) := by decide +kernel
theorem d_L_cycle_160 : decode prog_1_method_17_code 160 = .ok (.aload_n 0, 1) := by decide +kernel
theorem d_L_cycle_161 : decode prog_1_method_17_code 161 = .ok (.getfield 30, 3) := by decide +kernel
theorem d_L_cycle_164 : decode prog_1_method_17_code 164 = .ok (.getfield 46, 3) := by decide +kernel
theorem d_L_cycle_167 : decode prog_1_method_17_code 167 = .ok (.if_icmp .ge 48, 3) := by decide +kernel
theorem d_L_cycle_170 : decode prog_1_method_17_code 170 = .ok (.aload_n 0, 1) := by decide +kernel
theorem d_L_cycle_171 : decode prog_1_method_17_code 171 = .ok (.getfield 30, 3) := by decide +kernel
theorem d_L_cycle_174 : decode prog_1_method_17_code 174 = .ok (.getfield 62, 3) := by decide +kernel
theorem d_L_cycle_177 : decode prog_1_method_17_code 177 = .ok (.iload_n 1, 1) := by decide +kernel
theorem d_L_cycle_178 : decode prog_1_method_17_code 178 = .ok (.aaload, 1) := by decide +kernel
theorem d_L_cycle_179 : decode prog_1_method_17_code 179 = .ok (.getfield 66, 3) := by decide +kernel
theorem d_L_cycle_182 : decode prog_1_method_17_code 182 = .ok (.iconst 0, 1) := by decide +kernel
theorem d_L_cycle_183 : decode prog_1_method_17_code 183 = .ok (.aload_n 0, 1) := by decide +kernel
theorem d_L_cycle_184 : decode prog_1_method_17_code 184 = .ok (.getfield 19, 3) := by decide +kernel
theorem d_L_cycle_187 : decode prog_1_method_17_code 187 = .ok (.getfield 165, 3) := by decide +kernel
theorem d_L_cycle_190 : decode prog_1_method_17_code 190 = .ok (.iload_n 1, 1) := by decide +kernel
theorem d_L_cycle_191 : decode prog_1_method_17_code 191 = .ok (.bipush 8, 2) := by decide +kernel
theorem d_L_cycle_193 : decode prog_1_method_17_code 193 = .ok (.imul, 1) := by decide +kernel
theorem d_L_cycle_194 : decode prog_1_method_17_code 194 = .ok (.aload_n 0, 1) := by decide +kernel
theorem d_L_cycle_195 : decode prog_1_method_17_code 195 = .ok (.getfield 30, 3) := by decide +kernel
theorem d_L_cycle_198 : decode prog_1_method_17_code 198 = .ok (.getfield 62, 3) := by decide +kernel
theorem d_L_cycle_201 : decode prog_1_method_17_code 201 = .ok (.iload_n 1, 1) := by decide +kernel
theorem d_L_cycle_202 : decode prog_1_method_17_code 202 = .ok (.aaload, 1) := by decide +kernel
theorem d_L_cycle_203 : decode prog_1_method_17_code 203 = .ok (.getfield 168, 3) := by decide +kernel
theorem d_L_cycle_206 : decode prog_1_method_17_code 206 = .ok (.invokestatic 155, 3) := by decide +kernel
theorem d_L_cycle_209 : decode prog_1_method_17_code 209 = .ok (.iinc 1 1, 3) := by decide +kernel
theorem d_L_cycle_212 : decode prog_1_method_17_code 212 = .ok (.goto (-53), 3) := by decide +kernel
theorem d_L_cycle_215 : decode prog_1_method_17_code 215 = .ok (.iconst 0, 1) := by decide +kernel
theorem d_L_cycle_216 : decode prog_1_method_17_code 216 = .ok (.ireturn, 1) := by decide +kernel
theorem d_L_input_0 : decode prog_1_method_18_code 0 = .ok (.iload_n 1, 1) := by decide +kernel
theorem d_L_input_1 : decode prog_1_method_18_code 1 = .ok (.ifCond .lt 26, 3) := by decide +kernel
theorem d_L_input_4 : decode prog_1_method_18_code 4 = .ok (.iload_n 1, 1) := by decide +kernel
theorem d_L_input_5 : decode prog_1_method_18_code 5 = .ok (.aload_n 0, 1) := by decide +kernel
theorem d_L_input_6 : decode prog_1_method_18_code 6 = .ok (.getfield 19, 3) := by decide +kernel
theorem d_L_input_9 : decode prog_1_method_18_code 9 = .ok (.getfield 145, 3) := by decide +kernel
theorem d_L_input_12 : decode prog_1_method_18_code 12 = .ok (.if_icmp .ge 15, 3) := by decide +kernel
theorem d_L_input_15 : decode prog_1_method_18_code 15 = .ok (.aload_n 0, 1) := by decide +kernel
theorem d_L_input_16 : decode prog_1_method_18_code 16 = .ok (.getfield 19, 3) := by decide +kernel
theorem d_L_input_19 : decode prog_1_method_18_code 19 = .ok (.getfield 165, 3) := by decide +kernel
theorem d_L_input_22 : decode prog_1_method_18_code 22 = .ok (.iload_n 1, 1) := by decide +kernel
theorem d_L_input_23 : decode prog_1_method_18_code 23 = .ok (.iaload, 1) := by decide +kernel
theorem d_L_input_24 : decode prog_1_method_18_code 24 = .ok (.goto 4, 3) := by decide +kernel
theorem d_L_input_27 : decode prog_1_method_18_code 27 = .ok (.iconst (-1), 1) := by decide +kernel
theorem d_L_input_28 : decode prog_1_method_18_code 28 = .ok (.ireturn, 1) := by decide +kernel
theorem d_L_ask_0 : decode prog_1_method_19_code 0 = .ok (.aload_n 0, 1) := by decide +kernel
theorem d_L_ask_1 : decode prog_1_method_19_code 1 = .ok (.getfield 12, 3) := by decide +kernel
theorem d_L_ask_4 : decode prog_1_method_19_code 4 = .ok (.iload_n 1, 1) := by decide +kernel
theorem d_L_ask_5 : decode prog_1_method_19_code 5 = .ok (.invokevirtual 89, 3) := by decide +kernel
theorem d_L_ask_8 : decode prog_1_method_19_code 8 = .ok (.ifCond .ne 5, 3) := by decide +kernel
theorem d_L_ask_11 : decode prog_1_method_19_code 11 = .ok (.iconst (-1), 1) := by decide +kernel
theorem d_L_ask_12 : decode prog_1_method_19_code 12 = .ok (.ireturn, 1) := by decide +kernel
theorem d_L_ask_13 : decode prog_1_method_19_code 13 = .ok (.aload_n 0, 1) := by decide +kernel
theorem d_L_ask_14 : decode prog_1_method_19_code 14 = .ok (.iconst 5, 1) := by decide +kernel
theorem d_L_ask_15 : decode prog_1_method_19_code 15 = .ok (.iload_n 1, 1) := by decide +kernel
theorem d_L_ask_16 : decode prog_1_method_19_code 16 = .ok (.iconst 1, 1) := by decide +kernel
theorem d_L_ask_17 : decode prog_1_method_19_code 17 = .ok (.iadd, 1) := by decide +kernel
theorem d_L_ask_18 : decode prog_1_method_19_code 18 = .ok (.bipush 64, 2) := by decide +kernel
theorem d_L_ask_20 : decode prog_1_method_19_code 20 = .ok (.bipush 6, 2) := by decide +kernel
theorem d_L_ask_22 : decode prog_1_method_19_code 22 = .ok (.invokevirtual 127, 3) := by decide +kernel
theorem d_L_ask_25 : decode prog_1_method_19_code 25 = .ok (.astore 5, 2) := by decide +kernel
theorem d_L_ask_27 : decode prog_1_method_19_code 27 = .ok (.aload 5, 2) := by decide +kernel
theorem d_L_ask_29 : decode prog_1_method_19_code 29 = .ok (.getfield 66, 3) := by decide +kernel
theorem d_L_ask_32 : decode prog_1_method_19_code 32 = .ok (.iload_n 2, 1) := by decide +kernel
theorem d_L_ask_33 : decode prog_1_method_19_code 33 = .ok (.sipush 255, 3) := by decide +kernel
theorem d_L_ask_36 : decode prog_1_method_19_code 36 = .ok (.iand, 1) := by decide +kernel
theorem d_L_ask_37 : decode prog_1_method_19_code 37 = .ok (.iload_n 3, 1) := by decide +kernel
theorem d_L_ask_38 : decode prog_1_method_19_code 38 = .ok (.sipush 255, 3) := by decide +kernel
theorem d_L_ask_41 : decode prog_1_method_19_code 41 = .ok (.iand, 1) := by decide +kernel
theorem d_L_ask_42 : decode prog_1_method_19_code 42 = .ok (.iload 4, 2) := by decide +kernel
theorem d_L_ask_44 : decode prog_1_method_19_code 44 = .ok (.invokestatic 171, 3) := by decide +kernel
theorem d_L_ask_47 : decode prog_1_method_19_code 47 = .ok (.aload_n 0, 1) := by decide +kernel
theorem d_L_ask_48 : decode prog_1_method_19_code 48 = .ok (.aload_n 0, 1) := by decide +kernel
theorem d_L_ask_49 : decode prog_1_method_19_code 49 = .ok (.getfield 12, 3) := by decide +kernel
theorem d_L_ask_52 : decode prog_1_method_19_code 52 = .ok (.aload_n 0, 1) := by decide +kernel
theorem d_L_ask_53 : decode prog_1_method_19_code 53 = .ok (.getfield 30, 3) := by decide +kernel
theorem d_L_ask_56 : decode prog_1_method_19_code 56 = .ok (.invokevirtual 72, 3) := by decide +kernel
theorem d_L_ask_59 : decode prog_1_method_19_code 59 = .ok (.putfield 76, 3) := by decide +kernel
theorem d_L_ask_62 : decode prog_1_method_19_code 62 = .ok (.aload_n 0, 1) := by decide +kernel
theorem d_L_ask_63 : decode prog_1_method_19_code 63 = .ok (.getfield 76, 3) := by decide +kernel
theorem d_L_ask_66 : decode prog_1_method_19_code 66 = .ok (.ifCond .eq 11, 3) := by decide +kernel
theorem d_L_ask_69 : decode prog_1_method_19_code 69 = .ok (.aload 5, 2) := by decide +kernel
theorem d_L_ask_71 : decode prog_1_method_19_code 71 = .ok (.getfield 83, 3) := by decide +kernel
theorem d_L_ask_74 : decode prog_1_method_19_code 74 = .ok (.goto 4, 3) := by decide +kernel
theorem d_L_ask_77 : decode prog_1_method_19_code 77 = .ok (.iconst (-1), 1) := by decide +kernel
theorem d_L_ask_78 : decode prog_1_method_19_code 78 = .ok (.ireturn, 1) := by decide +kernel
theorem d_L_answer_0 : decode prog_1_method_20_code 0 = .ok (.aload_n 0, 1) := by decide +kernel
theorem d_L_answer_1 : decode prog_1_method_20_code 1 = .ok (.getfield 12, 3) := by decide +kernel
theorem d_L_answer_4 : decode prog_1_method_20_code 4 = .ok (.iload_n 1, 1) := by decide +kernel
theorem d_L_answer_5 : decode prog_1_method_20_code 5 = .ok (.invokevirtual 89, 3) := by decide +kernel
theorem d_L_answer_8 : decode prog_1_method_20_code 8 = .ok (.ifCond .ne 5, 3) := by decide +kernel
theorem d_L_answer_11 : decode prog_1_method_20_code 11 = .ok (.iconst (-1), 1) := by decide +kernel
theorem d_L_answer_12 : decode prog_1_method_20_code 12 = .ok (.ireturn, 1) := by decide +kernel
theorem d_L_answer_13 : decode prog_1_method_20_code 13 = .ok (.aload_n 0, 1) := by decide +kernel
theorem d_L_answer_14 : decode prog_1_method_20_code 14 = .ok (.iconst 4, 1) := by decide +kernel
theorem d_L_answer_15 : decode prog_1_method_20_code 15 = .ok (.iload_n 1, 1) := by decide +kernel
theorem d_L_answer_16 : decode prog_1_method_20_code 16 = .ok (.iconst 1, 1) := by decide +kernel
theorem d_L_answer_17 : decode prog_1_method_20_code 17 = .ok (.iadd, 1) := by decide +kernel
theorem d_L_answer_18 : decode prog_1_method_20_code 18 = .ok (.bipush 72, 2) := by decide +kernel
theorem d_L_answer_20 : decode prog_1_method_20_code 20 = .ok (.bipush 6, 2) := by decide +kernel
theorem d_L_answer_22 : decode prog_1_method_20_code 22 = .ok (.invokevirtual 127, 3) := by decide +kernel
theorem d_L_answer_25 : decode prog_1_method_20_code 25 = .ok (.astore_n 2, 1) := by decide +kernel
theorem d_L_answer_26 : decode prog_1_method_20_code 26 = .ok (.aload_n 0, 1) := by decide +kernel
theorem d_L_answer_27 : decode prog_1_method_20_code 27 = .ok (.aload_n 0, 1) := by decide +kernel
theorem d_L_answer_28 : decode prog_1_method_20_code 28 = .ok (.getfield 12, 3) := by decide +kernel
theorem d_L_answer_31 : decode prog_1_method_20_code 31 = .ok (.aload_n 0, 1) := by decide +kernel
theorem d_L_answer_32 : decode prog_1_method_20_code 32 = .ok (.getfield 30, 3) := by decide +kernel
theorem d_L_answer_35 : decode prog_1_method_20_code 35 = .ok (.invokevirtual 72, 3) := by decide +kernel
theorem d_L_answer_38 : decode prog_1_method_20_code 38 = .ok (.putfield 76, 3) := by decide +kernel
theorem d_L_answer_41 : decode prog_1_method_20_code 41 = .ok (.aload_n 0, 1) := by decide +kernel
theorem d_L_answer_42 : decode prog_1_method_20_code 42 = .ok (.getfield 76, 3) := by decide +kernel
theorem d_L_answer_45 : decode prog_1_method_20_code 45 = .ok (.ifCond .eq 10, 3) := by decide +kernel
theorem d_L_answer_48 : decode prog_1_method_20_code 48 = .ok (.aload_n 2, 1) := by decide +kernel
theorem d_L_answer_49 : decode prog_1_method_20_code 49 = .ok (.getfield 83, 3) := by decide +kernel
theorem d_L_answer_52 : decode prog_1_method_20_code 52 = .ok (.goto 4, 3) := by decide +kernel
theorem d_L_answer_55 : decode prog_1_method_20_code 55 = .ok (.iconst (-1), 1) := by decide +kernel
theorem d_L_answer_56 : decode prog_1_method_20_code 56 = .ok (.ireturn, 1) := by decide +kernel
theorem d_R_init_0 : decode prog_10_method_1_code 0 = .ok (.aload_n 0, 1) := by decide +kernel
theorem d_R_init_1 : decode prog_10_method_1_code 1 = .ok (.invokespecial 1, 3) := by decide +kernel
theorem d_R_init_4 : decode prog_10_method_1_code 4 = .ok (.aload_n 0, 1) := by decide +kernel
theorem d_R_init_5 : decode prog_10_method_1_code 5 = .ok (.bipush 6, 2) := by decide +kernel
theorem d_R_init_7 : decode prog_10_method_1_code 7 = .ok (.newarray .int, 2) := by decide +kernel
theorem d_R_init_9 : decode prog_10_method_1_code 9 = .ok (.putfield 7, 3) := by decide +kernel
theorem d_R_init_12 : decode prog_10_method_1_code 12 = .ok (.aload_n 0, 1) := by decide +kernel
theorem d_R_init_13 : decode prog_10_method_1_code 13 = .ok (.bipush 6, 2) := by decide +kernel
theorem d_R_init_15 : decode prog_10_method_1_code 15 = .ok (.newarray .int, 2) := by decide +kernel
theorem d_R_init_17 : decode prog_10_method_1_code 17 = .ok (.putfield 13, 3) := by decide +kernel
theorem d_R_init_20 : decode prog_10_method_1_code 20 = .ok (.aload_n 0, 1) := by decide +kernel
theorem d_R_init_21 : decode prog_10_method_1_code 21 = .ok (.bipush 6, 2) := by decide +kernel
theorem d_R_init_23 : decode prog_10_method_1_code 23 = .ok (.newarray .boolean, 2) := by decide +kernel
theorem d_R_init_25 : decode prog_10_method_1_code 25 = .ok (.putfield 16, 3) := by decide +kernel
theorem d_R_init_28 : decode prog_10_method_1_code 28 = .ok (.aload_n 0, 1) := by decide +kernel
theorem d_R_init_29 : decode prog_10_method_1_code 29 = .ok (.sipush 768, 3) := by decide +kernel
theorem d_R_init_32 : decode prog_10_method_1_code 32 = .ok (.newarray .int, 2) := by decide +kernel
theorem d_R_init_34 : decode prog_10_method_1_code 34 = .ok (.putfield 20, 3) := by decide +kernel
theorem d_R_init_37 : decode prog_10_method_1_code 37 = .ok (.aload_n 0, 1) := by decide +kernel
theorem d_R_init_38 : decode prog_10_method_1_code 38 = .ok (.sipush 192, 3) := by decide +kernel
theorem d_R_init_41 : decode prog_10_method_1_code 41 = .ok (.newarray .int, 2) := by decide +kernel
theorem d_R_init_43 : decode prog_10_method_1_code 43 = .ok (.putfield 23, 3) := by decide +kernel
theorem d_R_init_46 : decode prog_10_method_1_code 46 = .ok (.aload_n 0, 1) := by decide +kernel
theorem d_R_init_47 : decode prog_10_method_1_code 47 = .ok (.sipush 192, 3) := by decide +kernel
theorem d_R_init_50 : decode prog_10_method_1_code 50 = .ok (.newarray .int, 2) := by decide +kernel
theorem d_R_init_52 : decode prog_10_method_1_code 52 = .ok (.putfield 26, 3) := by decide +kernel
theorem d_R_init_55 : decode prog_10_method_1_code 55 = .ok (.aload_n 0, 1) := by decide +kernel
theorem d_R_init_56 : decode prog_10_method_1_code 56 = .ok (.bipush 24, 2) := by decide +kernel
theorem d_R_init_58 : decode prog_10_method_1_code 58 = .ok (.newarray .boolean, 2) := by decide +kernel
theorem d_R_init_60 : decode prog_10_method_1_code 60 = .ok (.putfield 29, 3) := by decide +kernel
theorem d_R_init_63 : decode prog_10_method_1_code 63 = .ok (.aload_n 0, 1) := by decide +kernel
theorem d_R_init_64 : decode prog_10_method_1_code 64 = .ok (.bipush 6, 2) := by decide +kernel
theorem d_R_init_66 : decode prog_10_method_1_code 66 = .ok (.newarray .int, 2) := by decide +kernel
theorem d_R_init_68 : decode prog_10_method_1_code 68 = .ok (.putfield 32, 3) := by decide +kernel
theorem d_R_init_71 : decode prog_10_method_1_code 71 = .ok (.aload_n 0, 1) := by decide +kernel
theorem d_R_init_72 : decode prog_10_method_1_code 72 = .ok (.bipush 6, 2) := by decide +kernel
theorem d_R_init_74 : decode prog_10_method_1_code 74 = .ok (.newarray .boolean, 2) := by decide +kernel
theorem d_R_init_76 : decode prog_10_method_1_code 76 = .ok (.putfield 35, 3) := by decide +kernel
theorem d_R_init_79 : decode prog_10_method_1_code 79 = .ok (.aload_n 0, 1) := by decide +kernel
theorem d_R_init_80 : decode prog_10_method_1_code 80 = .ok (.bipush 6, 2) := by decide +kernel
theorem d_R_init_82 : decode prog_10_method_1_code 82 = .ok (.newarray .int, 2) := by decide +kernel
theorem d_R_init_84 : decode prog_10_method_1_code 84 = .ok (.putfield 38, 3) := by decide +kernel
theorem d_R_init_87 : decode prog_10_method_1_code 87 = .ok (.aload_n 0, 1) := by decide +kernel
theorem d_R_init_88 : decode prog_10_method_1_code 88 = .ok (.bipush 6, 2) := by decide +kernel
theorem d_R_init_90 : decode prog_10_method_1_code 90 = .ok (.newarray .boolean, 2) := by decide +kernel
theorem d_R_init_92 : decode prog_10_method_1_code 92 = .ok (.putfield 41, 3) := by decide +kernel
theorem d_R_init_95 : decode prog_10_method_1_code 95 = .ok (.aload_n 0, 1) := by decide +kernel
theorem d_R_init_96 : decode prog_10_method_1_code 96 = .ok (.bipush 6, 2) := by decide +kernel
theorem d_R_init_98 : decode prog_10_method_1_code 98 = .ok (.newarray .boolean, 2) := by decide +kernel
theorem d_R_init_100 : decode prog_10_method_1_code 100 = .ok (.putfield 44, 3) := by decide +kernel
theorem d_R_init_103 : decode prog_10_method_1_code 103 = .ok (.aload_n 0, 1) := by decide +kernel
theorem d_R_init_104 : decode prog_10_method_1_code 104 = .ok (.bipush 6, 2) := by decide +kernel
theorem d_R_init_106 : decode prog_10_method_1_code 106 = .ok (.newarray .int, 2) := by decide +kernel
theorem d_R_init_108 : decode prog_10_method_1_code 108 = .ok (.putfield 47, 3) := by decide +kernel
theorem d_R_init_111 : decode prog_10_method_1_code 111 = .ok (.aload_n 0, 1) := by decide +kernel
theorem d_R_init_112 : decode prog_10_method_1_code 112 = .ok (.bipush 6, 2) := by decide +kernel
theorem d_R_init_114 : decode prog_10_method_1_code 114 = .ok (.newarray .int, 2) := by decide +kernel
theorem d_R_init_116 : decode prog_10_method_1_code 116 = .ok (.putfield 50, 3) := by decide +kernel
theorem d_R_init_119 : decode prog_10_method_1_code 119 = .ok (.aload_n 0, 1) := by decide +kernel
theorem d_R_init_120 : decode prog_10_method_1_code 120 = .ok (.bipush 12, 2) := by decide +kernel
theorem d_R_init_122 : decode prog_10_method_1_code 122 = .ok (.newarray .int, 2) := by decide +kernel
theorem d_R_init_124 : decode prog_10_method_1_code 124 = .ok (.putfield 53, 3) := by decide +kernel
theorem d_R_init_127 : decode prog_10_method_1_code 127 = .ok (.aload_n 0, 1) := by decide +kernel
theorem d_R_init_128 : decode prog_10_method_1_code 128 = .ok (.bipush 12, 2) := by decide +kernel
theorem d_R_init_130 : decode prog_10_method_1_code 130 = .ok (.newarray .int, 2) := by decide +kernel
theorem d_R_init_132 : decode prog_10_method_1_code 132 = .ok (.putfield 56, 3) := by decide +kernel
theorem d_R_init_135 : decode prog_10_method_1_code 135 = .ok (.aload_n 0, 1) := by decide +kernel
theorem d_R_init_136 : decode prog_10_method_1_code 136 = .ok (.bipush 12, 2) := by decide +kernel
theorem d_R_init_138 : decode prog_10_method_1_code 138 = .ok (.newarray .int, 2) := by decide +kernel
theorem d_R_init_140 : decode prog_10_method_1_code 140 = .ok (.putfield 59, 3) := by decide +kernel
theorem d_R_init_143 : decode prog_10_method_1_code 143 = .ok (.aload_n 0, 1) := by decide +kernel
theorem d_R_init_144 : decode prog_10_method_1_code 144 = .ok (.iconst (-1), 1) := by decide +kernel
theorem d_R_init_145 : decode prog_10_method_1_code 145 = .ok (.putfield 62, 3) := by decide +kernel
theorem d_R_init_148 : decode prog_10_method_1_code 148 = .ok (.aload_n 0, 1) := by decide +kernel
theorem d_R_init_149 : decode prog_10_method_1_code 149 = .ok (.bipush 9, 2) := by decide +kernel
theorem d_R_init_151 : decode prog_10_method_1_code 151 = .ok (.newarray .int, 2) := by decide +kernel
theorem d_R_init_153 : decode prog_10_method_1_code 153 = .ok (.putfield 66, 3) := by decide +kernel
theorem d_R_init_156 : decode prog_10_method_1_code 156 = .ok (.aload_n 0, 1) := by decide +kernel
theorem d_R_init_157 : decode prog_10_method_1_code 157 = .ok (.bipush 9, 2) := by decide +kernel
theorem d_R_init_159 : decode prog_10_method_1_code 159 = .ok (.newarray .int, 2) := by decide +kernel
theorem d_R_init_161 : decode prog_10_method_1_code 161 = .ok (.putfield 69, 3) := by decide +kernel
theorem d_R_init_164 : decode prog_10_method_1_code 164 = .ok (.aload_n 0, 1) := by decide +kernel
theorem d_R_init_165 : decode prog_10_method_1_code 165 = .ok (.bipush 9, 2) := by decide +kernel
theorem d_R_init_167 : decode prog_10_method_1_code 167 = .ok (.newarray .int, 2) := by decide +kernel
theorem d_R_init_169 : decode prog_10_method_1_code 169 = .ok (.putfield 72, 3) := by decide +kernel
theorem d_R_init_172 : decode prog_10_method_1_code 172 = .ok (.aload_n 0, 1) := by decide +kernel
theorem d_R_init_173 : decode prog_10_method_1_code 173 = .ok (.bipush 9, 2) := by decide +kernel
theorem d_R_init_175 : decode prog_10_method_1_code 175 = .ok (.newarray .int, 2) := by decide +kernel
theorem d_R_init_177 : decode prog_10_method_1_code 177 = .ok (.putfield 75, 3) := by decide +kernel
theorem d_R_init_180 : decode prog_10_method_1_code 180 = .ok (.aload_n 0, 1) := by decide +kernel
theorem d_R_init_181 : decode prog_10_method_1_code 181 = .ok (.bipush 9, 2) := by decide +kernel
theorem d_R_init_183 : decode prog_10_method_1_code 183 = .ok (.newarray .int, 2) := by decide +kernel
theorem d_R_init_185 : decode prog_10_method_1_code 185 = .ok (.putfield 78, 3) := by decide +kernel
theorem d_R_init_188 : decode prog_10_method_1_code 188 = .ok (.aload_n 0, 1) := by decide +kernel
theorem d_R_init_189 : decode prog_10_method_1_code 189 = .ok (.bipush 72, 2) := by decide +kernel
theorem d_R_init_191 : decode prog_10_method_1_code 191 = .ok (.newarray .int, 2) := by decide +kernel
theorem d_R_init_193 : decode prog_10_method_1_code 193 = .ok (.putfield 81, 3) := by decide +kernel
theorem d_R_init_196 : decode prog_10_method_1_code 196 = .ok (.aload_n 0, 1) := by decide +kernel
theorem d_R_init_197 : decode prog_10_method_1_code 197 = .ok (.bipush 9, 2) := by decide +kernel
theorem d_R_init_199 : decode prog_10_method_1_code 199 = .ok (.newarray .int, 2) := by decide +kernel
theorem d_R_init_201 : decode prog_10_method_1_code 201 = .ok (.putfield 84, 3) := by decide +kernel
theorem d_R_init_204 : decode prog_10_method_1_code 204 = .ok (.aload_n 0, 1) := by decide +kernel
theorem d_R_init_205 : decode prog_10_method_1_code 205 = .ok (.bipush 8, 2) := by decide +kernel
theorem d_R_init_207 : decode prog_10_method_1_code 207 = .ok (.newarray .int, 2) := by decide +kernel
theorem d_R_init_209 : decode prog_10_method_1_code 209 = .ok (.putfield 87, 3) := by decide +kernel
theorem d_R_init_212 : decode prog_10_method_1_code 212 = .ok (.aload_n 0, 1) := by decide +kernel
theorem d_R_init_213 : decode prog_10_method_1_code 213 = .ok (.bipush 6, 2) := by decide +kernel
theorem d_R_init_215 : decode prog_10_method_1_code 215 = .ok (.newarray .int, 2) := by decide +kernel
theorem d_R_init_217 : decode prog_10_method_1_code 217 = .ok (.putfield 90, 3) := by decide +kernel
theorem d_R_init_220 : decode prog_10_method_1_code 220 = .ok (.aload_n 0, 1) := by decide +kernel
theorem d_R_init_221 : decode prog_10_method_1_code 221 = .ok (.bipush 6, 2) := by decide +kernel
theorem d_R_init_223 : decode prog_10_method_1_code 223 = .ok (.newarray .int, 2) := by decide +kernel
theorem d_R_init_225 : decode prog_10_method_1_code 225 = .ok (.putfield 93, 3) := by decide +kernel
theorem d_R_init_228 : decode prog_10_method_1_code 228 = .ok (.aload_n 0, 1) := by decide +kernel
theorem d_R_init_229 : decode prog_10_method_1_code 229 = .ok (.bipush 6, 2) := by decide +kernel
theorem d_R_init_231 : decode prog_10_method_1_code 231 = .ok (.newarray .int, 2) := by decide +kernel
theorem d_R_init_233 : decode prog_10_method_1_code 233 = .ok (.putfield 96, 3) := by decide +kernel
theorem d_R_init_236 : decode prog_10_method_1_code 236 = .ok (.aload_n 0, 1) := by decide +kernel
theorem d_R_init_237 : decode prog_10_method_1_code 237 = .ok (.bipush 6, 2) := by decide +kernel
theorem d_R_init_239 : decode prog_10_method_1_code 239 = .ok (.newarray .int, 2) := by decide +kernel
theorem d_R_init_241 : decode prog_10_method_1_code 241 = .ok (.putfield 99, 3) := by decide +kernel
theorem d_R_init_244 : decode prog_10_method_1_code 244 = .ok (.aload_n 0, 1) := by decide +kernel
theorem d_R_init_245 : decode prog_10_method_1_code 245 = .ok (.bipush 24, 2) := by decide +kernel
theorem d_R_init_247 : decode prog_10_method_1_code 247 = .ok (.newarray .int, 2) := by decide +kernel
theorem d_R_init_249 : decode prog_10_method_1_code 249 = .ok (.putfield 102, 3) := by decide +kernel
theorem d_R_init_252 : decode prog_10_method_1_code 252 = .ok (.aload_n 0, 1) := by decide +kernel
theorem d_R_init_253 : decode prog_10_method_1_code 253 = .ok (.bipush 24, 2) := by decide +kernel
theorem d_R_init_255 : decode prog_10_method_1_code 255 = .ok (.newarray .int, 2) := by decide +kernel
theorem d_R_init_257 : decode prog_10_method_1_code 257 = .ok (.putfield 105, 3) := by decide +kernel
theorem d_R_init_260 : decode prog_10_method_1_code 260 = .ok (.return_, 1) := by decide +kernel
theorem d_R_isStation_0 : decode prog_10_method_2_code 0 = .ok (.iload_n 1, 1) := by decide +kernel
theorem d_R_isStation_1 : decode prog_10_method_2_code 1 = .ok (.ifCond .lt 15, 3) := by decide +kernel
theorem d_R_isStation_4 : decode prog_10_method_2_code 4 = .ok (.iload_n 1, 1) := by decide +kernel
theorem d_R_isStation_5 : decode prog_10_method_2_code 5 = .ok (.aload_n 0, 1) := by decide +kernel
theorem d_R_isStation_6 : decode prog_10_method_2_code 6 = .ok (.getfield 108, 3) := by decide +kernel
theorem d_R_isStation_9 : decode prog_10_method_2_code 9 = .ok (.if_icmp .ge 7, 3) := by decide +kernel
theorem d_R_isStation_12 : decode prog_10_method_2_code 12 = .ok (.iconst 1, 1) := by decide +kernel
theorem d_R_isStation_13 : decode prog_10_method_2_code 13 = .ok (.goto 4, 3) := by decide +kernel
theorem d_R_isStation_16 : decode prog_10_method_2_code 16 = .ok (.iconst 0, 1) := by decide +kernel
theorem d_R_isStation_17 : decode prog_10_method_2_code 17 = .ok (.ireturn, 1) := by decide +kernel
theorem d_R_actuator_0 : decode prog_10_method_44_code 0 = .ok (.aload_n 0, 1) := by decide +kernel
theorem d_R_actuator_1 : decode prog_10_method_44_code 1 = .ok (.iload_n 1, 1) := by decide +kernel
theorem d_R_actuator_2 : decode prog_10_method_44_code 2 = .ok (.invokevirtual 208, 3) := by decide +kernel
theorem d_R_actuator_5 : decode prog_10_method_44_code 5 = .ok (.ifCond .eq 30, 3) := by decide +kernel
theorem d_R_actuator_8 : decode prog_10_method_44_code 8 = .ok (.iload_n 2, 1) := by decide +kernel
theorem d_R_actuator_9 : decode prog_10_method_44_code 9 = .ok (.ifCond .lt 26, 3) := by decide +kernel
theorem d_R_actuator_12 : decode prog_10_method_44_code 12 = .ok (.iload_n 2, 1) := by decide +kernel
theorem d_R_actuator_13 : decode prog_10_method_44_code 13 = .ok (.aload_n 0, 1) := by decide +kernel
theorem d_R_actuator_14 : decode prog_10_method_44_code 14 = .ok (.getfield 7, 3) := by decide +kernel
theorem d_R_actuator_17 : decode prog_10_method_44_code 17 = .ok (.iload_n 1, 1) := by decide +kernel
theorem d_R_actuator_18 : decode prog_10_method_44_code 18 = .ok (.iaload, 1) := by decide +kernel
theorem d_R_actuator_19 : decode prog_10_method_44_code 19 = .ok (.if_icmp .ge 16, 3) := by decide +kernel
theorem d_R_actuator_22 : decode prog_10_method_44_code 22 = .ok (.aload_n 0, 1) := by decide +kernel
theorem d_R_actuator_23 : decode prog_10_method_44_code 23 = .ok (.getfield 59, 3) := by decide +kernel
theorem d_R_actuator_26 : decode prog_10_method_44_code 26 = .ok (.iconst 2, 1) := by decide +kernel
theorem d_R_actuator_27 : decode prog_10_method_44_code 27 = .ok (.iload_n 1, 1) := by decide +kernel
theorem d_R_actuator_28 : decode prog_10_method_44_code 28 = .ok (.imul, 1) := by decide +kernel
theorem d_R_actuator_29 : decode prog_10_method_44_code 29 = .ok (.iload_n 2, 1) := by decide +kernel
theorem d_R_actuator_30 : decode prog_10_method_44_code 30 = .ok (.iadd, 1) := by decide +kernel
theorem d_R_actuator_31 : decode prog_10_method_44_code 31 = .ok (.iaload, 1) := by decide +kernel
theorem d_R_actuator_32 : decode prog_10_method_44_code 32 = .ok (.goto 4, 3) := by decide +kernel
theorem d_R_actuator_35 : decode prog_10_method_44_code 35 = .ok (.iconst (-1), 1) := by decide +kernel
theorem d_R_actuator_36 : decode prog_10_method_44_code 36 = .ok (.ireturn, 1) := by decide +kernel
theorem d_R_gram_0 : decode prog_10_method_28_code 0 = .ok (.aload_n 0, 1) := by decide +kernel
theorem d_R_gram_1 : decode prog_10_method_28_code 1 = .ok (.getfield 66, 3) := by decide +kernel
theorem d_R_gram_4 : decode prog_10_method_28_code 4 = .ok (.iload_n 1, 1) := by decide +kernel
theorem d_R_gram_5 : decode prog_10_method_28_code 5 = .ok (.iload_n 2, 1) := by decide +kernel
theorem d_R_gram_6 : decode prog_10_method_28_code 6 = .ok (.iastore, 1) := by decide +kernel
theorem d_R_gram_7 : decode prog_10_method_28_code 7 = .ok (.aload_n 0, 1) := by decide +kernel
theorem d_R_gram_8 : decode prog_10_method_28_code 8 = .ok (.getfield 69, 3) := by decide +kernel
theorem d_R_gram_11 : decode prog_10_method_28_code 11 = .ok (.iload_n 1, 1) := by decide +kernel
theorem d_R_gram_12 : decode prog_10_method_28_code 12 = .ok (.iload_n 3, 1) := by decide +kernel
theorem d_R_gram_13 : decode prog_10_method_28_code 13 = .ok (.iastore, 1) := by decide +kernel
theorem d_R_gram_14 : decode prog_10_method_28_code 14 = .ok (.aload_n 0, 1) := by decide +kernel
theorem d_R_gram_15 : decode prog_10_method_28_code 15 = .ok (.getfield 72, 3) := by decide +kernel
theorem d_R_gram_18 : decode prog_10_method_28_code 18 = .ok (.iload_n 1, 1) := by decide +kernel
theorem d_R_gram_19 : decode prog_10_method_28_code 19 = .ok (.iload 4, 2) := by decide +kernel
theorem d_R_gram_21 : decode prog_10_method_28_code 21 = .ok (.iastore, 1) := by decide +kernel
theorem d_R_gram_22 : decode prog_10_method_28_code 22 = .ok (.aload_n 0, 1) := by decide +kernel
theorem d_R_gram_23 : decode prog_10_method_28_code 23 = .ok (.getfield 75, 3) := by decide +kernel
theorem d_R_gram_26 : decode prog_10_method_28_code 26 = .ok (.iload_n 1, 1) := by decide +kernel
theorem d_R_gram_27 : decode prog_10_method_28_code 27 = .ok (.iload 5, 2) := by decide +kernel
theorem d_R_gram_29 : decode prog_10_method_28_code 29 = .ok (.iastore, 1) := by decide +kernel
theorem d_R_gram_30 : decode prog_10_method_28_code 30 = .ok (.aload_n 0, 1) := by decide +kernel
theorem d_R_gram_31 : decode prog_10_method_28_code 31 = .ok (.getfield 78, 3) := by decide +kernel
theorem d_R_gram_34 : decode prog_10_method_28_code 34 = .ok (.iload_n 1, 1) := by decide +kernel
theorem d_R_gram_35 : decode prog_10_method_28_code 35 = .ok (.iconst 0, 1) := by decide +kernel
theorem d_R_gram_36 : decode prog_10_method_28_code 36 = .ok (.iastore, 1) := by decide +kernel
theorem d_R_gram_37 : decode prog_10_method_28_code 37 = .ok (.iconst 0, 1) := by decide +kernel
theorem d_R_gram_38 : decode prog_10_method_28_code 38 = .ok (.istore 6, 2) := by decide +kernel
theorem d_R_gram_40 : decode prog_10_method_28_code 40 = .ok (.iload 6, 2) := by decide +kernel
theorem d_R_gram_42 : decode prog_10_method_28_code 42 = .ok (.bipush 8, 2) := by decide +kernel
theorem d_R_gram_44 : decode prog_10_method_28_code 44 = .ok (.if_icmp .ge 22, 3) := by decide +kernel
theorem d_R_gram_47 : decode prog_10_method_28_code 47 = .ok (.aload_n 0, 1) := by decide +kernel
theorem d_R_gram_48 : decode prog_10_method_28_code 48 = .ok (.getfield 81, 3) := by decide +kernel
theorem d_R_gram_51 : decode prog_10_method_28_code 51 = .ok (.bipush 8, 2) := by decide +kernel
theorem d_R_gram_53 : decode prog_10_method_28_code 53 = .ok (.iload_n 1, 1) := by decide +kernel
theorem d_R_gram_54 : decode prog_10_method_28_code 54 = .ok (.imul, 1) := by decide +kernel
theorem d_R_gram_55 : decode prog_10_method_28_code 55 = .ok (.iload 6, 2) := by decide +kernel
theorem d_R_gram_57 : decode prog_10_method_28_code 57 = .ok (.iadd, 1) := by decide +kernel
theorem d_R_gram_58 : decode prog_10_method_28_code 58 = .ok (.iconst 0, 1) := by decide +kernel
theorem d_R_gram_59 : decode prog_10_method_28_code 59 = .ok (.iastore, 1) := by decide +kernel
theorem d_R_gram_60 : decode prog_10_method_28_code 60 = .ok (.iinc 6 1, 3) := by decide +kernel
theorem d_R_gram_63 : decode prog_10_method_28_code 63 = .ok (.goto (-23), 3) := by decide +kernel
theorem d_R_gram_66 : decode prog_10_method_28_code 66 = .ok (.return_, 1) := by decide +kernel
theorem d_R_copyGram_0 : decode prog_10_method_25_code 0 = .ok (.aload_n 0, 1) := by decide +kernel
theorem d_R_copyGram_1 : decode prog_10_method_25_code 1 = .ok (.getfield 66, 3) := by decide +kernel
theorem d_R_copyGram_4 : decode prog_10_method_25_code 4 = .ok (.iload_n 2, 1) := by decide +kernel
theorem d_R_copyGram_5 : decode prog_10_method_25_code 5 = .ok (.aload_n 0, 1) := by decide +kernel
theorem d_R_copyGram_6 : decode prog_10_method_25_code 6 = .ok (.getfield 66, 3) := by decide +kernel
theorem d_R_copyGram_9 : decode prog_10_method_25_code 9 = .ok (.iload_n 1, 1) := by decide +kernel
theorem d_R_copyGram_10 : decode prog_10_method_25_code 10 = .ok (.iaload, 1) := by decide +kernel
theorem d_R_copyGram_11 : decode prog_10_method_25_code 11 = .ok (.iastore, 1) := by decide +kernel
theorem d_R_copyGram_12 : decode prog_10_method_25_code 12 = .ok (.aload_n 0, 1) := by decide +kernel
theorem d_R_copyGram_13 : decode prog_10_method_25_code 13 = .ok (.getfield 69, 3) := by decide +kernel
theorem d_R_copyGram_16 : decode prog_10_method_25_code 16 = .ok (.iload_n 2, 1) := by decide +kernel
theorem d_R_copyGram_17 : decode prog_10_method_25_code 17 = .ok (.aload_n 0, 1) := by decide +kernel
theorem d_R_copyGram_18 : decode prog_10_method_25_code 18 = .ok (.getfield 69, 3) := by decide +kernel
theorem d_R_copyGram_21 : decode prog_10_method_25_code 21 = .ok (.iload_n 1, 1) := by decide +kernel
theorem d_R_copyGram_22 : decode prog_10_method_25_code 22 = .ok (.iaload, 1) := by decide +kernel
theorem d_R_copyGram_23 : decode prog_10_method_25_code 23 = .ok (.iastore, 1) := by decide +kernel
theorem d_R_copyGram_24 : decode prog_10_method_25_code 24 = .ok (.aload_n 0, 1) := by decide +kernel
theorem d_R_copyGram_25 : decode prog_10_method_25_code 25 = .ok (.getfield 72, 3) := by decide +kernel
theorem d_R_copyGram_28 : decode prog_10_method_25_code 28 = .ok (.iload_n 2, 1) := by decide +kernel
theorem d_R_copyGram_29 : decode prog_10_method_25_code 29 = .ok (.aload_n 0, 1) := by decide +kernel
theorem d_R_copyGram_30 : decode prog_10_method_25_code 30 = .ok (.getfield 72, 3) := by decide +kernel
theorem d_R_copyGram_33 : decode prog_10_method_25_code 33 = .ok (.iload_n 1, 1) := by decide +kernel
theorem d_R_copyGram_34 : decode prog_10_method_25_code 34 = .ok (.iaload, 1) := by decide +kernel
theorem d_R_copyGram_35 : decode prog_10_method_25_code 35 = .ok (.iastore, 1) := by decide +kernel
theorem d_R_copyGram_36 : decode prog_10_method_25_code 36 = .ok (.aload_n 0, 1) := by decide +kernel
theorem d_R_copyGram_37 : decode prog_10_method_25_code 37 = .ok (.getfield 75, 3) := by decide +kernel
theorem d_R_copyGram_40 : decode prog_10_method_25_code 40 = .ok (.iload_n 2, 1) := by decide +kernel
theorem d_R_copyGram_41 : decode prog_10_method_25_code 41 = .ok (.aload_n 0, 1) := by decide +kernel
theorem d_R_copyGram_42 : decode prog_10_method_25_code 42 = .ok (.getfield 75, 3) := by decide +kernel
theorem d_R_copyGram_45 : decode prog_10_method_25_code 45 = .ok (.iload_n 1, 1) := by decide +kernel
theorem d_R_copyGram_46 : decode prog_10_method_25_code 46 = .ok (.iaload, 1) := by decide +kernel
theorem d_R_copyGram_47 : decode prog_10_method_25_code 47 = .ok (.iastore, 1) := by decide +kernel
theorem d_R_copyGram_48 : decode prog_10_method_25_code 48 = .ok (.aload_n 0, 1) := by decide +kernel
theorem d_R_copyGram_49 : decode prog_10_method_25_code 49 = .ok (.getfield 78, 3) := by decide +kernel
theorem d_R_copyGram_52 : decode prog_10_method_25_code 52 = .ok (.iload_n 2, 1) := by decide +kernel
theorem d_R_copyGram_53 : decode prog_10_method_25_code 53 = .ok (.aload_n 0, 1) := by decide +kernel
theorem d_R_copyGram_54 : decode prog_10_method_25_code 54 = .ok (.getfield 78, 3) := by decide +kernel
theorem d_R_copyGram_57 : decode prog_10_method_25_code 57 = .ok (.iload_n 1, 1) := by decide +kernel
theorem d_R_copyGram_58 : decode prog_10_method_25_code 58 = .ok (.iaload, 1) := by decide +kernel
theorem d_R_copyGram_59 : decode prog_10_method_25_code 59 = .ok (.iastore, 1) := by decide +kernel
theorem d_R_copyGram_60 : decode prog_10_method_25_code 60 = .ok (.iconst 0, 1) := by decide +kernel
theorem d_R_copyGram_61 : decode prog_10_method_25_code 61 = .ok (.istore_n 3, 1) := by decide +kernel
theorem d_R_copyGram_62 : decode prog_10_method_25_code 62 = .ok (.iload_n 3, 1) := by decide +kernel
theorem d_R_copyGram_63 : decode prog_10_method_25_code 63 = .ok (.bipush 8, 2) := by decide +kernel
theorem d_R_copyGram_65 : decode prog_10_method_25_code 65 = .ok (.if_icmp .ge 31, 3) := by decide +kernel
theorem d_R_copyGram_68 : decode prog_10_method_25_code 68 = .ok (.aload_n 0, 1) := by decide +kernel
theorem d_R_copyGram_69 : decode prog_10_method_25_code 69 = .ok (.getfield 81, 3) := by decide +kernel
theorem d_R_copyGram_72 : decode prog_10_method_25_code 72 = .ok (.bipush 8, 2) := by decide +kernel
theorem d_R_copyGram_74 : decode prog_10_method_25_code 74 = .ok (.iload_n 2, 1) := by decide +kernel
theorem d_R_copyGram_75 : decode prog_10_method_25_code 75 = .ok (.imul, 1) := by decide +kernel
theorem d_R_copyGram_76 : decode prog_10_method_25_code 76 = .ok (.iload_n 3, 1) := by decide +kernel
theorem d_R_copyGram_77 : decode prog_10_method_25_code 77 = .ok (.iadd, 1) := by decide +kernel
theorem d_R_copyGram_78 : decode prog_10_method_25_code 78 = .ok (.aload_n 0, 1) := by decide +kernel
theorem d_R_copyGram_79 : decode prog_10_method_25_code 79 = .ok (.getfield 81, 3) := by decide +kernel
theorem d_R_copyGram_82 : decode prog_10_method_25_code 82 = .ok (.bipush 8, 2) := by decide +kernel
theorem d_R_copyGram_84 : decode prog_10_method_25_code 84 = .ok (.iload_n 1, 1) := by decide +kernel
theorem d_R_copyGram_85 : decode prog_10_method_25_code 85 = .ok (.imul, 1) := by decide +kernel
theorem d_R_copyGram_86 : decode prog_10_method_25_code 86 = .ok (.iload_n 3, 1) := by decide +kernel
theorem d_R_copyGram_87 : decode prog_10_method_25_code 87 = .ok (.iadd, 1) := by decide +kernel
theorem d_R_copyGram_88 : decode prog_10_method_25_code 88 = .ok (.iaload, 1) := by decide +kernel
theorem d_R_copyGram_89 : decode prog_10_method_25_code 89 = .ok (.iastore, 1) := by decide +kernel
theorem d_R_copyGram_90 : decode prog_10_method_25_code 90 = .ok (.iinc 3 1, 3) := by decide +kernel
theorem d_R_copyGram_93 : decode prog_10_method_25_code 93 = .ok (.goto (-31), 3) := by decide +kernel
theorem d_R_copyGram_96 : decode prog_10_method_25_code 96 = .ok (.return_, 1) := by decide +kernel
theorem d_R_at_0 : decode prog_10_method_4_code 0 = .ok (.aload_n 0, 1) := by decide +kernel
theorem d_R_at_1 : decode prog_10_method_4_code 1 = .ok (.getfield 20, 3) := by decide +kernel
theorem d_R_at_4 : decode prog_10_method_4_code 4 = .ok (.sipush 128, 3) := by decide +kernel
theorem d_R_at_7 : decode prog_10_method_4_code 7 = .ok (.iload_n 1, 1) := by decide +kernel
theorem d_R_at_8 : decode prog_10_method_4_code 8 = .ok (.imul, 1) := by decide +kernel
theorem d_R_at_9 : decode prog_10_method_4_code 9 = .ok (.iload_n 2, 1) := by decide +kernel
theorem d_R_at_10 : decode prog_10_method_4_code 10 = .ok (.iadd, 1) := by decide +kernel
theorem d_R_at_11 : decode prog_10_method_4_code 11 = .ok (.iaload, 1) := by decide +kernel
theorem d_R_at_12 : decode prog_10_method_4_code 12 = .ok (.ireturn, 1) := by decide +kernel
theorem d_R_begin_0 : decode prog_10_method_5_code 0 = .ok (.aload_n 0, 1) := by decide +kernel
theorem d_R_begin_1 : decode prog_10_method_5_code 1 = .ok (.iload_n 1, 1) := by decide +kernel
theorem d_R_begin_2 : decode prog_10_method_5_code 2 = .ok (.bipush 32, 2) := by decide +kernel
theorem d_R_begin_4 : decode prog_10_method_5_code 4 = .ok (.iconst 4, 1) := by decide +kernel
theorem d_R_begin_5 : decode prog_10_method_5_code 5 = .ok (.iload_n 2, 1) := by decide +kernel
theorem d_R_begin_6 : decode prog_10_method_5_code 6 = .ok (.imul, 1) := by decide +kernel
theorem d_R_begin_7 : decode prog_10_method_5_code 7 = .ok (.iadd, 1) := by decide +kernel
theorem d_R_begin_8 : decode prog_10_method_5_code 8 = .ok (.invokevirtual 111, 3) := by decide +kernel
theorem d_R_begin_11 : decode prog_10_method_5_code 11 = .ok (.ireturn, 1) := by decide +kernel
theorem d_R_many_0 : decode prog_10_method_6_code 0 = .ok (.aload_n 0, 1) := by decide +kernel
theorem d_R_many_1 : decode prog_10_method_6_code 1 = .ok (.iload_n 1, 1) := by decide +kernel
theorem d_R_many_2 : decode prog_10_method_6_code 2 = .ok (.bipush 33, 2) := by decide +kernel
theorem d_R_many_4 : decode prog_10_method_6_code 4 = .ok (.iconst 4, 1) := by decide +kernel
theorem d_R_many_5 : decode prog_10_method_6_code 5 = .ok (.iload_n 2, 1) := by decide +kernel
theorem d_R_many_6 : decode prog_10_method_6_code 6 = .ok (.imul, 1) := by decide +kernel
theorem d_R_many_7 : decode prog_10_method_6_code 7 = .ok (.iadd, 1) := by decide +kernel
theorem d_R_many_8 : decode prog_10_method_6_code 8 = .ok (.invokevirtual 111, 3) := by decide +kernel
theorem d_R_many_11 : decode prog_10_method_6_code 11 = .ok (.ireturn, 1) := by decide +kernel
theorem d_R_open_0 : decode prog_10_method_8_code 0 = .ok (.aload_n 0, 1) := by decide +kernel
theorem d_R_open_1 : decode prog_10_method_8_code 1 = .ok (.iload_n 1, 1) := by decide +kernel
theorem d_R_open_2 : decode prog_10_method_8_code 2 = .ok (.iload_n 2, 1) := by decide +kernel
theorem d_R_open_3 : decode prog_10_method_8_code 3 = .ok (.invokevirtual 115, 3) := by decide +kernel
theorem d_R_open_6 : decode prog_10_method_8_code 6 = .ok (.istore_n 3, 1) := by decide +kernel
theorem d_R_open_7 : decode prog_10_method_8_code 7 = .ok (.aload_n 0, 1) := by decide +kernel
theorem d_R_open_8 : decode prog_10_method_8_code 8 = .ok (.iload_n 1, 1) := by decide +kernel
theorem d_R_open_9 : decode prog_10_method_8_code 9 = .ok (.bipush 35, 2) := by decide +kernel
theorem d_R_open_11 : decode prog_10_method_8_code 11 = .ok (.iconst 4, 1) := by decide +kernel
theorem d_R_open_12 : decode prog_10_method_8_code 12 = .ok (.iload_n 2, 1) := by decide +kernel
theorem d_R_open_13 : decode prog_10_method_8_code 13 = .ok (.imul, 1) := by decide +kernel
theorem d_R_open_14 : decode prog_10_method_8_code 14 = .ok (.iadd, 1) := by decide +kernel
theorem d_R_open_15 : decode prog_10_method_8_code 15 = .ok (.invokevirtual 111, 3) := by decide +kernel
theorem d_R_open_18 : decode prog_10_method_8_code 18 = .ok (.iconst 1, 1) := by decide +kernel
theorem d_R_open_19 : decode prog_10_method_8_code 19 = .ok (.if_icmp .ne 43, 3) := by decide +kernel
theorem d_R_open_22 : decode prog_10_method_8_code 22 = .ok (.aload_n 0, 1) := by decide +kernel
theorem d_R_open_23 : decode prog_10_method_8_code 23 = .ok (.iload_n 1, 1) := by decide +kernel
theorem d_R_open_24 : decode prog_10_method_8_code 24 = .ok (.iload_n 2, 1) := by decide +kernel
theorem d_R_open_25 : decode prog_10_method_8_code 25 = .ok (.invokevirtual 118, 3) := by decide +kernel
theorem d_R_open_28 : decode prog_10_method_8_code 28 = .ok (.bipush 64, 2) := by decide +kernel
theorem d_R_open_30 : decode prog_10_method_8_code 30 = .ok (.if_icmp .lt 32, 3) := by decide +kernel
theorem d_R_open_33 : decode prog_10_method_8_code 33 = .ok (.iload_n 3, 1) := by decide +kernel
theorem d_R_open_34 : decode prog_10_method_8_code 34 = .ok (.iconst 1, 1) := by decide +kernel
theorem d_R_open_35 : decode prog_10_method_8_code 35 = .ok (.if_icmp .lt 27, 3) := by decide +kernel
theorem d_R_open_38 : decode prog_10_method_8_code 38 = .ok (.iload_n 3, 1) := by decide +kernel
theorem d_R_open_39 : decode prog_10_method_8_code 39 = .ok (.bipush 8, 2) := by decide +kernel
theorem d_R_open_41 : decode prog_10_method_8_code 41 = .ok (.if_icmp .gt 21, 3) := by decide +kernel
theorem d_R_open_44 : decode prog_10_method_8_code 44 = .ok (.aload_n 0, 1) := by decide +kernel
theorem d_R_open_45 : decode prog_10_method_8_code 45 = .ok (.iload_n 1, 1) := by decide +kernel
theorem d_R_open_46 : decode prog_10_method_8_code 46 = .ok (.iload_n 2, 1) := by decide +kernel
theorem d_R_open_47 : decode prog_10_method_8_code 47 = .ok (.invokevirtual 118, 3) := by decide +kernel
theorem d_R_open_50 : decode prog_10_method_8_code 50 = .ok (.iload_n 3, 1) := by decide +kernel
theorem d_R_open_51 : decode prog_10_method_8_code 51 = .ok (.iadd, 1) := by decide +kernel
theorem d_R_open_52 : decode prog_10_method_8_code 52 = .ok (.sipush 128, 3) := by decide +kernel
theorem d_R_open_55 : decode prog_10_method_8_code 55 = .ok (.if_icmp .gt 7, 3) := by decide +kernel
theorem d_R_open_58 : decode prog_10_method_8_code 58 = .ok (.iconst 1, 1) := by decide +kernel
theorem d_R_open_59 : decode prog_10_method_8_code 59 = .ok (.goto 4, 3) := by decide +kernel
theorem d_R_open_62 : decode prog_10_method_8_code 62 = .ok (.iconst 0, 1) := by decide +kernel
theorem d_R_open_63 : decode prog_10_method_8_code 63 = .ok (.ireturn, 1) := by decide +kernel
theorem d_R_channelOf_0 : decode prog_10_method_10_code 0 = .ok (.iconst 0, 1) := by decide +kernel
theorem d_R_channelOf_1 : decode prog_10_method_10_code 1 = .ok (.istore_n 3, 1) := by decide +kernel
theorem d_R_channelOf_2 : decode prog_10_method_10_code 2 = .ok (.iload_n 3, 1) := by decide +kernel
theorem d_R_channelOf_3 : decode prog_10_method_10_code 3 = .ok (.iconst 4, 1) := by decide +kernel
theorem d_R_channelOf_4 : decode prog_10_method_10_code 4 = .ok (.if_icmp .ge 47, 3) := by decide +kernel
theorem d_R_channelOf_7 : decode prog_10_method_10_code 7 = .ok (.aload_n 0, 1) := by decide +kernel
theorem d_R_channelOf_8 : decode prog_10_method_10_code 8 = .ok (.iload_n 1, 1) := by decide +kernel
theorem d_R_channelOf_9 : decode prog_10_method_10_code 9 = .ok (.iload_n 3, 1) := by decide +kernel
theorem d_R_channelOf_10 : decode prog_10_method_10_code 10 = .ok (.invokevirtual 121, 3) := by decide +kernel
theorem d_R_channelOf_13 : decode prog_10_method_10_code 13 = .ok (.ifCond .eq 32, 3) := by decide +kernel
theorem d_R_channelOf_16 : decode prog_10_method_10_code 16 = .ok (.iload_n 2, 1) := by decide +kernel
theorem d_R_channelOf_17 : decode prog_10_method_10_code 17 = .ok (.aload_n 0, 1) := by decide +kernel
theorem d_R_channelOf_18 : decode prog_10_method_10_code 18 = .ok (.iload_n 1, 1) := by decide +kernel
theorem d_R_channelOf_19 : decode prog_10_method_10_code 19 = .ok (.iload_n 3, 1) := by decide +kernel
theorem d_R_channelOf_20 : decode prog_10_method_10_code 20 = .ok (.invokevirtual 118, 3) := by decide +kernel
theorem d_R_channelOf_23 : decode prog_10_method_10_code 23 = .ok (.if_icmp .lt 22, 3) := by decide +kernel
theorem d_R_channelOf_26 : decode prog_10_method_10_code 26 = .ok (.iload_n 2, 1) := by decide +kernel
theorem d_R_channelOf_27 : decode prog_10_method_10_code 27 = .ok (.aload_n 0, 1) := by decide +kernel
theorem d_R_channelOf_28 : decode prog_10_method_10_code 28 = .ok (.iload_n 1, 1) := by decide +kernel
theorem d_R_channelOf_29 : decode prog_10_method_10_code 29 = .ok (.iload_n 3, 1) := by decide +kernel
theorem d_R_channelOf_30 : decode prog_10_method_10_code 30 = .ok (.invokevirtual 118, 3) := by decide +kernel
theorem d_R_channelOf_33 : decode prog_10_method_10_code 33 = .ok (.aload_n 0, 1) := by decide +kernel
theorem d_R_channelOf_34 : decode prog_10_method_10_code 34 = .ok (.iload_n 1, 1) := by decide +kernel
theorem d_R_channelOf_35 : decode prog_10_method_10_code 35 = .ok (.iload_n 3, 1) := by decide +kernel
theorem d_R_channelOf_36 : decode prog_10_method_10_code 36 = .ok (.invokevirtual 115, 3) := by decide +kernel
theorem d_R_channelOf_39 : decode prog_10_method_10_code 39 = .ok (.iadd, 1) := by decide +kernel
theorem d_R_channelOf_40 : decode prog_10_method_10_code 40 = .ok (.if_icmp .ge 5, 3) := by decide +kernel
theorem d_R_channelOf_43 : decode prog_10_method_10_code 43 = .ok (.iload_n 3, 1) := by decide +kernel
theorem d_R_channelOf_44 : decode prog_10_method_10_code 44 = .ok (.ireturn, 1) := by decide +kernel
theorem d_R_channelOf_45 : decode prog_10_method_10_code 45 = .ok (.iinc 3 1, 3) := by decide +kernel
theorem d_R_channelOf_48 : decode prog_10_method_10_code 48 = .ok (.goto (-46), 3) := by decide +kernel
theorem d_R_channelOf_51 : decode prog_10_method_10_code 51 = .ok (.iconst (-1), 1) := by decide +kernel
theorem d_R_channelOf_52 : decode prog_10_method_10_code 52 = .ok (.ireturn, 1) := by decide +kernel
theorem d_R_full_0 : decode prog_10_method_11_code 0 = .ok (.aload_n 0, 1) := by decide +kernel
theorem d_R_full_1 : decode prog_10_method_11_code 1 = .ok (.iload_n 1, 1) := by decide +kernel
theorem d_R_full_2 : decode prog_10_method_11_code 2 = .ok (.bipush 48, 2) := by decide +kernel
theorem d_R_full_4 : decode prog_10_method_11_code 4 = .ok (.iload_n 2, 1) := by decide +kernel
theorem d_R_full_5 : decode prog_10_method_11_code 5 = .ok (.iadd, 1) := by decide +kernel
theorem d_R_full_6 : decode prog_10_method_11_code 6 = .ok (.invokevirtual 111, 3) := by decide +kernel
theorem d_R_full_9 : decode prog_10_method_11_code 9 = .ok (.iconst 1, 1) := by decide +kernel
theorem d_R_full_10 : decode prog_10_method_11_code 10 = .ok (.if_icmp .ne 7, 3) := by decide +kernel
theorem d_R_full_13 : decode prog_10_method_11_code 13 = .ok (.iconst 1, 1) := by decide +kernel
theorem d_R_full_14 : decode prog_10_method_11_code 14 = .ok (.goto 4, 3) := by decide +kernel
theorem d_R_full_17 : decode prog_10_method_11_code 17 = .ok (.iconst 0, 1) := by decide +kernel
theorem d_R_full_18 : decode prog_10_method_11_code 18 = .ok (.ireturn, 1) := by decide +kernel
theorem d_R_kind_0 : decode prog_10_method_7_code 0 = .ok (.aload_n 0, 1) := by decide +kernel
theorem d_R_kind_1 : decode prog_10_method_7_code 1 = .ok (.iload_n 1, 1) := by decide +kernel
