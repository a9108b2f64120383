theorem dX0_init_0 : decode cX0_init 0 = .ok (.aload_n 0, 1) := by decide +kernel
theorem dX0_init_1 : decode cX0_init 1 = .ok (.invokespecial 3, 3) := by decide +kernel
theorem dX0_init_4 : decode cX0_init 4 = .ok (.aload_n 0, 1) := by decide +kernel
theorem dX0_init_5 : decode cX0_init 5 = .ok (.aload_n 1, 1) := by decide +kernel
theorem dX0_init_6 : decode cX0_init 6 = .ok (.putfield 9, 3) := by decide +kernel
theorem dX0_init_9 : decode cX0_init 9 = .ok (.return_, 1) := by decide +kernel
theorem dX0_does_0 : decode cX0_does 0 = .ok (.aload_n 0, 1) := by decide +kernel
theorem dX0_does_1 : decode cX0_does 1 = .ok (.getfield 15, 3) := by decide +kernel
theorem dX0_does_4 : decode cX0_does 4 = .ok (.ifCond .eq 25, 3) := by decide +kernel
theorem dX0_does_7 : decode cX0_does 7 = .ok (.aload_n 0, 1) := by decide +kernel
theorem dX0_does_8 : decode cX0_does 8 = .ok (.getfield 19, 3) := by decide +kernel
theorem dX0_does_11 : decode cX0_does 11 = .ok (.ifCond .ne 18, 3) := by decide +kernel
theorem dX0_does_14 : decode cX0_does 14 = .ok (.aload_n 0, 1) := by decide +kernel
theorem dX0_does_15 : decode cX0_does 15 = .ok (.getfield 9, 3) := by decide +kernel
theorem dX0_does_18 : decode cX0_does 18 = .ok (.getfield 23, 3) := by decide +kernel
theorem dX0_does_21 : decode cX0_does 21 = .ok (.iload_n 1, 1) := by decide +kernel
theorem dX0_does_22 : decode cX0_does 22 = .ok (.if_icmp .ne 7, 3) := by decide +kernel
theorem dX0_does_25 : decode cX0_does 25 = .ok (.iconst 1, 1) := by decide +kernel
theorem dX0_does_26 : decode cX0_does 26 = .ok (.goto 4, 3) := by decide +kernel
theorem dX0_does_29 : decode cX0_does 29 = .ok (.iconst 0, 1) := by decide +kernel
theorem dX0_does_30 : decode cX0_does 30 = .ok (.ireturn, 1) := by decide +kernel
theorem dX0_writes_0 : decode cX0_writes 0 = .ok (.aload_n 0, 1) := by decide +kernel
theorem dX0_writes_1 : decode cX0_writes 1 = .ok (.getfield 15, 3) := by decide +kernel
theorem dX0_writes_4 : decode cX0_writes 4 = .ok (.ifCond .eq 39, 3) := by decide +kernel
theorem dX0_writes_7 : decode cX0_writes 7 = .ok (.aload_n 0, 1) := by decide +kernel
theorem dX0_writes_8 : decode cX0_writes 8 = .ok (.getfield 19, 3) := by decide +kernel
theorem dX0_writes_11 : decode cX0_writes 11 = .ok (.ifCond .ne 32, 3) := by decide +kernel
theorem dX0_writes_14 : decode cX0_writes 14 = .ok (.iload_n 1, 1) := by decide +kernel
theorem dX0_writes_15 : decode cX0_writes 15 = .ok (.ifCond .eq 28, 3) := by decide +kernel
theorem dX0_writes_18 : decode cX0_writes 18 = .ok (.aload_n 0, 1) := by decide +kernel
theorem dX0_writes_19 : decode cX0_writes 19 = .ok (.getfield 9, 3) := by decide +kernel
theorem dX0_writes_22 : decode cX0_writes 22 = .ok (.invokevirtual 28, 3) := by decide +kernel
theorem dX0_writes_25 : decode cX0_writes 25 = .ok (.ifCond .eq 18, 3) := by decide +kernel
theorem dX0_writes_28 : decode cX0_writes 28 = .ok (.aload_n 0, 1) := by decide +kernel
theorem dX0_writes_29 : decode cX0_writes 29 = .ok (.getfield 9, 3) := by decide +kernel
theorem dX0_writes_32 : decode cX0_writes 32 = .ok (.getfield 32, 3) := by decide +kernel
theorem dX0_writes_35 : decode cX0_writes 35 = .ok (.iload_n 1, 1) := by decide +kernel
theorem dX0_writes_36 : decode cX0_writes 36 = .ok (.if_icmp .ne 7, 3) := by decide +kernel
theorem dX0_writes_39 : decode cX0_writes 39 = .ok (.iconst 1, 1) := by decide +kernel
theorem dX0_writes_40 : decode cX0_writes 40 = .ok (.goto 4, 3) := by decide +kernel
theorem dX0_writes_43 : decode cX0_writes 43 = .ok (.iconst 0, 1) := by decide +kernel
theorem dX0_writes_44 : decode cX0_writes 44 = .ok (.ireturn, 1) := by decide +kernel
theorem dX1_init_0 : decode cX1_init 0 = .ok (.aload_n 0, 1) := by decide +kernel
theorem dX1_init_1 : decode cX1_init 1 = .ok (.invokespecial 3, 3) := by decide +kernel
theorem dX1_init_4 : decode cX1_init 4 = .ok (.aload_n 0, 1) := by decide +kernel
theorem dX1_init_5 : decode cX1_init 5 = .ok (.iload_n 1, 1) := by decide +kernel
theorem dX1_init_6 : decode cX1_init 6 = .ok (.putfield 9, 3) := by decide +kernel
theorem dX1_init_9 : decode cX1_init 9 = .ok (.aload_n 0, 1) := by decide +kernel
theorem dX1_init_10 : decode cX1_init 10 = .ok (.iload_n 2, 1) := by decide +kernel
theorem dX1_init_11 : decode cX1_init 11 = .ok (.putfield 15, 3) := by decide +kernel
theorem dX1_init_14 : decode cX1_init 14 = .ok (.aload_n 0, 1) := by decide +kernel
theorem dX1_init_15 : decode cX1_init 15 = .ok (.iload_n 3, 1) := by decide +kernel
theorem dX1_init_16 : decode cX1_init 16 = .ok (.putfield 18, 3) := by decide +kernel
theorem dX1_init_19 : decode cX1_init 19 = .ok (.aload_n 0, 1) := by decide +kernel
theorem dX1_init_20 : decode cX1_init 20 = .ok (.iload 4, 2) := by decide +kernel
theorem dX1_init_22 : decode cX1_init 22 = .ok (.putfield 21, 3) := by decide +kernel
theorem dX1_init_25 : decode cX1_init 25 = .ok (.aload_n 0, 1) := by decide +kernel
theorem dX1_init_26 : decode cX1_init 26 = .ok (.iload 5, 2) := by decide +kernel
theorem dX1_init_28 : decode cX1_init 28 = .ok (.putfield 24, 3) := by decide +kernel
theorem dX1_init_31 : decode cX1_init 31 = .ok (.return_, 1) := by decide +kernel
theorem dX1_usesS_0 : decode cX1_usesS 0 = .ok (.aload_n 0, 1) := by decide +kernel
theorem dX1_usesS_1 : decode cX1_usesS 1 = .ok (.getfield 9, 3) := by decide +kernel
theorem dX1_usesS_4 : decode cX1_usesS 4 = .ok (.bipush 9, 2) := by decide +kernel
theorem dX1_usesS_6 : decode cX1_usesS 6 = .ok (.if_icmp .le 28, 3) := by decide +kernel
theorem dX1_usesS_9 : decode cX1_usesS 9 = .ok (.aload_n 0, 1) := by decide +kernel
theorem dX1_usesS_10 : decode cX1_usesS 10 = .ok (.getfield 9, 3) := by decide +kernel
theorem dX1_usesS_13 : decode cX1_usesS 13 = .ok (.bipush 11, 2) := by decide +kernel
theorem dX1_usesS_15 : decode cX1_usesS 15 = .ok (.if_icmp .eq 19, 3) := by decide +kernel
theorem dX1_usesS_18 : decode cX1_usesS 18 = .ok (.aload_n 0, 1) := by decide +kernel
theorem dX1_usesS_19 : decode cX1_usesS 19 = .ok (.getfield 9, 3) := by decide +kernel
theorem dX1_usesS_22 : decode cX1_usesS 22 = .ok (.bipush 16, 2) := by decide +kernel
theorem dX1_usesS_24 : decode cX1_usesS 24 = .ok (.if_icmp .eq 10, 3) := by decide +kernel
theorem dX1_usesS_27 : decode cX1_usesS 27 = .ok (.aload_n 0, 1) := by decide +kernel
theorem dX1_usesS_28 : decode cX1_usesS 28 = .ok (.invokevirtual 27, 3) := by decide +kernel
theorem dX1_usesS_31 : decode cX1_usesS 31 = .ok (.ifCond .eq 7, 3) := by decide +kernel
theorem dX1_usesS_34 : decode cX1_usesS 34 = .ok (.iconst 1, 1) := by decide +kernel
theorem dX1_usesS_35 : decode cX1_usesS 35 = .ok (.goto 4, 3) := by decide +kernel
theorem dX1_usesS_38 : decode cX1_usesS 38 = .ok (.iconst 0, 1) := by decide +kernel
theorem dX1_usesS_39 : decode cX1_usesS 39 = .ok (.ireturn, 1) := by decide +kernel
theorem dX1_usesT_0 : decode cX1_usesT 0 = .ok (.aload_n 0, 1) := by decide +kernel
theorem dX1_usesT_1 : decode cX1_usesT 1 = .ok (.getfield 9, 3) := by decide +kernel
theorem dX1_usesT_4 : decode cX1_usesT 4 = .ok (.bipush 8, 2) := by decide +kernel
theorem dX1_usesT_6 : decode cX1_usesT 6 = .ok (.if_icmp .le 19, 3) := by decide +kernel
theorem dX1_usesT_9 : decode cX1_usesT 9 = .ok (.aload_n 0, 1) := by decide +kernel
theorem dX1_usesT_10 : decode cX1_usesT 10 = .ok (.getfield 9, 3) := by decide +kernel
theorem dX1_usesT_13 : decode cX1_usesT 13 = .ok (.bipush 12, 2) := by decide +kernel
theorem dX1_usesT_15 : decode cX1_usesT 15 = .ok (.if_icmp .eq 10, 3) := by decide +kernel
theorem dX1_usesT_18 : decode cX1_usesT 18 = .ok (.aload_n 0, 1) := by decide +kernel
theorem dX1_usesT_19 : decode cX1_usesT 19 = .ok (.invokevirtual 31, 3) := by decide +kernel
theorem dX1_usesT_22 : decode cX1_usesT 22 = .ok (.ifCond .eq 7, 3) := by decide +kernel
theorem dX1_usesT_25 : decode cX1_usesT 25 = .ok (.iconst 1, 1) := by decide +kernel
theorem dX1_usesT_26 : decode cX1_usesT 26 = .ok (.goto 4, 3) := by decide +kernel
theorem dX1_usesT_29 : decode cX1_usesT 29 = .ok (.iconst 0, 1) := by decide +kernel
theorem dX1_usesT_30 : decode cX1_usesT 30 = .ok (.ireturn, 1) := by decide +kernel
theorem dX1_writesD_0 : decode cX1_writesD 0 = .ok (.aload_n 0, 1) := by decide +kernel
theorem dX1_writesD_1 : decode cX1_writesD 1 = .ok (.getfield 9, 3) := by decide +kernel
theorem dX1_writesD_4 : decode cX1_writesD 4 = .ok (.bipush 11, 2) := by decide +kernel
theorem dX1_writesD_6 : decode cX1_writesD 6 = .ok (.if_icmp .le 21, 3) := by decide +kernel
theorem dX1_writesD_9 : decode cX1_writesD 9 = .ok (.aload_n 0, 1) := by decide +kernel
theorem dX1_writesD_10 : decode cX1_writesD 10 = .ok (.getfield 9, 3) := by decide +kernel
theorem dX1_writesD_13 : decode cX1_writesD 13 = .ok (.bipush 15, 2) := by decide +kernel
theorem dX1_writesD_15 : decode cX1_writesD 15 = .ok (.if_icmp .eq 12, 3) := by decide +kernel
theorem dX1_writesD_18 : decode cX1_writesD 18 = .ok (.aload_n 0, 1) := by decide +kernel
theorem dX1_writesD_19 : decode cX1_writesD 19 = .ok (.getfield 9, 3) := by decide +kernel
theorem dX1_writesD_22 : decode cX1_writesD 22 = .ok (.bipush 16, 2) := by decide +kernel
theorem dX1_writesD_24 : decode cX1_writesD 24 = .ok (.if_icmp .ne 7, 3) := by decide +kernel
theorem dX1_writesD_27 : decode cX1_writesD 27 = .ok (.iconst 1, 1) := by decide +kernel
theorem dX1_writesD_28 : decode cX1_writesD 28 = .ok (.goto 4, 3) := by decide +kernel
theorem dX1_writesD_31 : decode cX1_writesD 31 = .ok (.iconst 0, 1) := by decide +kernel
theorem dX1_writesD_32 : decode cX1_writesD 32 = .ok (.ireturn, 1) := by decide +kernel
theorem dX1_isBranch_0 : decode cX1_isBranch 0 = .ok (.aload_n 0, 1) := by decide +kernel
theorem dX1_isBranch_1 : decode cX1_isBranch 1 = .ok (.getfield 9, 3) := by decide +kernel
theorem dX1_isBranch_4 : decode cX1_isBranch 4 = .ok (.bipush 13, 2) := by decide +kernel
theorem dX1_isBranch_6 : decode cX1_isBranch 6 = .ok (.if_icmp .eq 12, 3) := by decide +kernel
theorem dX1_isBranch_9 : decode cX1_isBranch 9 = .ok (.aload_n 0, 1) := by decide +kernel
theorem dX1_isBranch_10 : decode cX1_isBranch 10 = .ok (.getfield 9, 3) := by decide +kernel
theorem dX1_isBranch_13 : decode cX1_isBranch 13 = .ok (.bipush 14, 2) := by decide +kernel
theorem dX1_isBranch_15 : decode cX1_isBranch 15 = .ok (.if_icmp .ne 7, 3) := by decide +kernel
theorem dX1_isBranch_18 : decode cX1_isBranch 18 = .ok (.iconst 1, 1) := by decide +kernel
theorem dX1_isBranch_19 : decode cX1_isBranch 19 = .ok (.goto 4, 3) := by decide +kernel
theorem dX1_isBranch_22 : decode cX1_isBranch 22 = .ok (.iconst 0, 1) := by decide +kernel
theorem dX1_isBranch_23 : decode cX1_isBranch 23 = .ok (.ireturn, 1) := by decide +kernel
theorem dX1_touchesData_0 : decode cX1_touchesData 0 = .ok (.aload_n 0, 1) := by decide +kernel
theorem dX1_touchesData_1 : decode cX1_touchesData 1 = .ok (.getfield 9, 3) := by decide +kernel
theorem dX1_touchesData_4 : decode cX1_touchesData 4 = .ok (.bipush 11, 2) := by decide +kernel
theorem dX1_touchesData_6 : decode cX1_touchesData 6 = .ok (.if_icmp .eq 12, 3) := by decide +kernel
theorem dX1_touchesData_9 : decode cX1_touchesData 9 = .ok (.aload_n 0, 1) := by decide +kernel
theorem dX1_touchesData_10 : decode cX1_touchesData 10 = .ok (.getfield 9, 3) := by decide +kernel
theorem dX1_touchesData_13 : decode cX1_touchesData 13 = .ok (.bipush 12, 2) := by decide +kernel
theorem dX1_touchesData_15 : decode cX1_touchesData 15 = .ok (.if_icmp .ne 7, 3) := by decide +kernel
theorem dX1_touchesData_18 : decode cX1_touchesData 18 = .ok (.iconst 1, 1) := by decide +kernel
theorem dX1_touchesData_19 : decode cX1_touchesData 19 = .ok (.goto 4, 3) := by decide +kernel
theorem dX1_touchesData_22 : decode cX1_touchesData 22 = .ok (.iconst 0, 1) := by decide +kernel
theorem dX1_touchesData_23 : decode cX1_touchesData 23 = .ok (.ireturn, 1) := by decide +kernel
theorem dX1_workCycles_0 : decode cX1_workCycles 0 = .ok (.aload_n 0, 1) := by decide +kernel
theorem dX1_workCycles_1 : decode cX1_workCycles 1 = .ok (.getfield 9, 3) := by decide +kernel
theorem dX1_workCycles_4 : decode cX1_workCycles 4 = .ok (.bipush 7, 2) := by decide +kernel
theorem dX1_workCycles_6 : decode cX1_workCycles 6 = .ok (.if_icmp .ne 5, 3) := by decide +kernel
theorem dX1_workCycles_9 : decode cX1_workCycles 9 = .ok (.iconst 3, 1) := by decide +kernel
theorem dX1_workCycles_10 : decode cX1_workCycles 10 = .ok (.ireturn, 1) := by decide +kernel
theorem dX1_workCycles_11 : decode cX1_workCycles 11 = .ok (.aload_n 0, 1) := by decide +kernel
theorem dX1_workCycles_12 : decode cX1_workCycles 12 = .ok (.getfield 9, 3) := by decide +kernel
theorem dX1_workCycles_15 : decode cX1_workCycles 15 = .ok (.bipush 8, 2) := by decide +kernel
theorem dX1_workCycles_17 : decode cX1_workCycles 17 = .ok (.if_icmp .ne 8, 3) := by decide +kernel
theorem dX1_workCycles_20 : decode cX1_workCycles 20 = .ok (.bipush 6, 2) := by decide +kernel
theorem dX1_workCycles_22 : decode cX1_workCycles 22 = .ok (.goto 4, 3) := by decide +kernel
theorem dX1_workCycles_25 : decode cX1_workCycles 25 = .ok (.iconst 1, 1) := by decide +kernel
theorem dX1_workCycles_26 : decode cX1_workCycles 26 = .ok (.ireturn, 1) := by decide +kernel
theorem dX2_init_0 : decode cX2_init 0 = .ok (.aload_n 0, 1) := by decide +kernel
theorem dX2_init_1 : decode cX2_init 1 = .ok (.invokespecial 1, 3) := by decide +kernel
theorem dX2_init_4 : decode cX2_init 4 = .ok (.aload_n 0, 1) := by decide +kernel
theorem dX2_init_5 : decode cX2_init 5 = .ok (.new 7, 3) := by decide +kernel
theorem dX2_init_8 : decode cX2_init 8 = .ok (.dup, 1) := by decide +kernel
theorem dX2_init_9 : decode cX2_init 9 = .ok (.bipush 19, 2) := by decide +kernel
theorem dX2_init_11 : decode cX2_init 11 = .ok (.iconst 0, 1) := by decide +kernel
theorem dX2_init_12 : decode cX2_init 12 = .ok (.iconst 0, 1) := by decide +kernel
theorem dX2_init_13 : decode cX2_init 13 = .ok (.iconst 0, 1) := by decide +kernel
theorem dX2_init_14 : decode cX2_init 14 = .ok (.iconst 0, 1) := by decide +kernel
theorem dX2_init_15 : decode cX2_init 15 = .ok (.invokespecial 11, 3) := by decide +kernel
theorem dX2_init_18 : decode cX2_init 18 = .ok (.putfield 14, 3) := by decide +kernel
theorem dX2_init_21 : decode cX2_init 21 = .ok (.aload_n 0, 1) := by decide +kernel
theorem dX2_init_22 : decode cX2_init 22 = .ok (.bipush 64, 2) := by decide +kernel
theorem dX2_init_24 : decode cX2_init 24 = .ok (.anewarray 7, 3) := by decide +kernel
theorem dX2_init_27 : decode cX2_init 27 = .ok (.putfield 18, 3) := by decide +kernel
theorem dX2_init_30 : decode cX2_init 30 = .ok (.iconst 0, 1) := by decide +kernel
theorem dX2_init_31 : decode cX2_init 31 = .ok (.istore_n 1, 1) := by decide +kernel
theorem dX2_init_32 : decode cX2_init 32 = .ok (.iload_n 1, 1) := by decide +kernel
theorem dX2_init_33 : decode cX2_init 33 = .ok (.bipush 64, 2) := by decide +kernel
theorem dX2_init_35 : decode cX2_init 35 = .ok (.if_icmp .ge 19, 3) := by decide +kernel
theorem dX2_init_38 : decode cX2_init 38 = .ok (.aload_n 0, 1) := by decide +kernel
theorem dX2_init_39 : decode cX2_init 39 = .ok (.getfield 18, 3) := by decide +kernel
theorem dX2_init_42 : decode cX2_init 42 = .ok (.iload_n 1, 1) := by decide +kernel
theorem dX2_init_43 : decode cX2_init 43 = .ok (.aload_n 0, 1) := by decide +kernel
theorem dX2_init_44 : decode cX2_init 44 = .ok (.getfield 14, 3) := by decide +kernel
theorem dX2_init_47 : decode cX2_init 47 = .ok (.aastore, 1) := by decide +kernel
theorem dX2_init_48 : decode cX2_init 48 = .ok (.iinc 1 1, 3) := by decide +kernel
theorem dX2_init_51 : decode cX2_init 51 = .ok (.goto (-19), 3) := by decide +kernel
theorem dX2_init_54 : decode cX2_init 54 = .ok (.aload_n 0, 1) := by decide +kernel
theorem dX2_init_55 : decode cX2_init 55 = .ok (.bipush 32, 2) := by decide +kernel
theorem dX2_init_57 : decode cX2_init 57 = .ok (.newarray .int, 2) := by decide +kernel
theorem dX2_init_59 : decode cX2_init 59 = .ok (.putfield 22, 3) := by decide +kernel
theorem dX2_init_62 : decode cX2_init 62 = .ok (.aload_n 0, 1) := by decide +kernel
theorem dX2_init_63 : decode cX2_init 63 = .ok (.bipush 16, 2) := by decide +kernel
theorem dX2_init_65 : decode cX2_init 65 = .ok (.newarray .int, 2) := by decide +kernel
theorem dX2_init_67 : decode cX2_init 67 = .ok (.putfield 26, 3) := by decide +kernel
theorem dX2_init_70 : decode cX2_init 70 = .ok (.aload_n 0, 1) := by decide +kernel
theorem dX2_init_71 : decode cX2_init 71 = .ok (.bipush 8, 2) := by decide +kernel
theorem dX2_init_73 : decode cX2_init 73 = .ok (.newarray .int, 2) := by decide +kernel
theorem dX2_init_75 : decode cX2_init 75 = .ok (.putfield 29, 3) := by decide +kernel
theorem dX2_init_78 : decode cX2_init 78 = .ok (.iconst 0, 1) := by decide +kernel
theorem dX2_init_79 : decode cX2_init 79 = .ok (.istore_n 1, 1) := by decide +kernel
theorem dX2_init_80 : decode cX2_init 80 = .ok (.iload_n 1, 1) := by decide +kernel
theorem dX2_init_81 : decode cX2_init 81 = .ok (.bipush 8, 2) := by decide +kernel
theorem dX2_init_83 : decode cX2_init 83 = .ok (.if_icmp .ge 16, 3) := by decide +kernel
theorem dX2_init_86 : decode cX2_init 86 = .ok (.aload_n 0, 1) := by decide +kernel
theorem dX2_init_87 : decode cX2_init 87 = .ok (.getfield 29, 3) := by decide +kernel
theorem dX2_init_90 : decode cX2_init 90 = .ok (.iload_n 1, 1) := by decide +kernel
theorem dX2_init_91 : decode cX2_init 91 = .ok (.iconst 1, 1) := by decide +kernel
theorem dX2_init_92 : decode cX2_init 92 = .ok (.iastore, 1) := by decide +kernel
theorem dX2_init_93 : decode cX2_init 93 = .ok (.iinc 1 1, 3) := by decide +kernel
theorem dX2_init_96 : decode cX2_init 96 = .ok (.goto (-16), 3) := by decide +kernel
theorem dX2_init_99 : decode cX2_init 99 = .ok (.aload_n 0, 1) := by decide +kernel
theorem dX2_init_100 : decode cX2_init 100 = .ok (.iconst 5, 1) := by decide +kernel
theorem dX2_init_101 : decode cX2_init 101 = .ok (.anewarray 32, 3) := by decide +kernel
theorem dX2_init_104 : decode cX2_init 104 = .ok (.putfield 34, 3) := by decide +kernel
theorem dX2_init_107 : decode cX2_init 107 = .ok (.iconst 0, 1) := by decide +kernel
theorem dX2_init_108 : decode cX2_init 108 = .ok (.istore_n 1, 1) := by decide +kernel
theorem dX2_init_109 : decode cX2_init 109 = .ok (.iload_n 1, 1) := by decide +kernel
theorem dX2_init_110 : decode cX2_init 110 = .ok (.iconst 5, 1) := by decide +kernel
theorem dX2_init_111 : decode cX2_init 111 = .ok (.if_icmp .ge 26, 3) := by decide +kernel
theorem dX2_init_114 : decode cX2_init 114 = .ok (.aload_n 0, 1) := by decide +kernel
theorem dX2_init_115 : decode cX2_init 115 = .ok (.getfield 34, 3) := by decide +kernel
theorem dX2_init_118 : decode cX2_init 118 = .ok (.iload_n 1, 1) := by decide +kernel
theorem dX2_init_119 : decode cX2_init 119 = .ok (.new 32, 3) := by decide +kernel
theorem dX2_init_122 : decode cX2_init 122 = .ok (.dup, 1) := by decide +kernel
theorem dX2_init_123 : decode cX2_init 123 = .ok (.aload_n 0, 1) := by decide +kernel
theorem dX2_init_124 : decode cX2_init 124 = .ok (.getfield 14, 3) := by decide +kernel
theorem dX2_init_127 : decode cX2_init 127 = .ok (.invokespecial 38, 3) := by decide +kernel
theorem dX2_init_130 : decode cX2_init 130 = .ok (.aastore, 1) := by decide +kernel
theorem dX2_init_131 : decode cX2_init 131 = .ok (.iinc 1 1, 3) := by decide +kernel
theorem dX2_init_134 : decode cX2_init 134 = .ok (.goto (-25), 3) := by decide +kernel
theorem dX2_init_137 : decode cX2_init 137 = .ok (.aload_n 0, 1) := by decide +kernel
theorem dX2_init_138 : decode cX2_init 138 = .ok (.bipush 16, 2) := by decide +kernel
theorem dX2_init_140 : decode cX2_init 140 = .ok (.newarray .int, 2) := by decide +kernel
theorem dX2_init_142 : decode cX2_init 142 = .ok (.putfield 41, 3) := by decide +kernel
theorem dX2_init_145 : decode cX2_init 145 = .ok (.return_, 1) := by decide +kernel
theorem dX2_put_0 : decode cX2_put 0 = .ok (.iload_n 1, 1) := by decide +kernel
theorem dX2_put_1 : decode cX2_put 1 = .ok (.bipush 64, 2) := by decide +kernel
theorem dX2_put_3 : decode cX2_put 3 = .ok (.invokestatic 44, 3) := by decide +kernel
theorem dX2_put_6 : decode cX2_put 6 = .ok (.iload_n 2, 1) := by decide +kernel
theorem dX2_put_7 : decode cX2_put 7 = .ok (.iconst 0, 1) := by decide +kernel
theorem dX2_put_8 : decode cX2_put 8 = .ok (.bipush 19, 2) := by decide +kernel
theorem dX2_put_10 : decode cX2_put 10 = .ok (.invokestatic 48, 3) := by decide +kernel
theorem dX2_put_13 : decode cX2_put 13 = .ok (.iload_n 3, 1) := by decide +kernel
theorem dX2_put_14 : decode cX2_put 14 = .ok (.iconst 0, 1) := by decide +kernel
theorem dX2_put_15 : decode cX2_put 15 = .ok (.bipush 15, 2) := by decide +kernel
theorem dX2_put_17 : decode cX2_put 17 = .ok (.invokestatic 48, 3) := by decide +kernel
theorem dX2_put_20 : decode cX2_put 20 = .ok (.iload 4, 2) := by decide +kernel
theorem dX2_put_22 : decode cX2_put 22 = .ok (.iconst 0, 1) := by decide +kernel
theorem dX2_put_23 : decode cX2_put 23 = .ok (.bipush 15, 2) := by decide +kernel
theorem dX2_put_25 : decode cX2_put 25 = .ok (.invokestatic 48, 3) := by decide +kernel
theorem dX2_put_28 : decode cX2_put 28 = .ok (.iload 5, 2) := by decide +kernel
theorem dX2_put_30 : decode cX2_put 30 = .ok (.iconst 0, 1) := by decide +kernel
theorem dX2_put_31 : decode cX2_put 31 = .ok (.bipush 15, 2) := by decide +kernel
theorem dX2_put_33 : decode cX2_put 33 = .ok (.invokestatic 48, 3) := by decide +kernel
theorem dX2_put_36 : decode cX2_put 36 = .ok (.iload 6, 2) := by decide +kernel
theorem dX2_put_38 : decode cX2_put 38 = .ok (.bipush (-64), 2) := by decide +kernel
theorem dX2_put_40 : decode cX2_put 40 = .ok (.bipush 63, 2) := by decide +kernel
theorem dX2_put_42 : decode cX2_put 42 = .ok (.invokestatic 48, 3) := by decide +kernel
theorem dX2_put_45 : decode cX2_put 45 = .ok (.aload_n 0, 1) := by decide +kernel
theorem dX2_put_46 : decode cX2_put 46 = .ok (.getfield 18, 3) := by decide +kernel
theorem dX2_put_49 : decode cX2_put 49 = .ok (.iload_n 1, 1) := by decide +kernel
theorem dX2_put_50 : decode cX2_put 50 = .ok (.new 7, 3) := by decide +kernel
theorem dX2_put_53 : decode cX2_put 53 = .ok (.dup, 1) := by decide +kernel
theorem dX2_put_54 : decode cX2_put 54 = .ok (.iload_n 2, 1) := by decide +kernel
theorem dX2_put_55 : decode cX2_put 55 = .ok (.iload_n 3, 1) := by decide +kernel
theorem dX2_put_56 : decode cX2_put 56 = .ok (.iload 4, 2) := by decide +kernel
theorem dX2_put_58 : decode cX2_put 58 = .ok (.iload 5, 2) := by decide +kernel
theorem dX2_put_60 : decode cX2_put 60 = .ok (.iload 6, 2) := by decide +kernel
theorem dX2_put_62 : decode cX2_put 62 = .ok (.invokespecial 11, 3) := by decide +kernel
theorem dX2_put_65 : decode cX2_put 65 = .ok (.aastore, 1) := by decide +kernel
theorem dX2_put_66 : decode cX2_put 66 = .ok (.return_, 1) := by decide +kernel
theorem dX2_poke_0 : decode cX2_poke 0 = .ok (.iload_n 1, 1) := by decide +kernel
theorem dX2_poke_1 : decode cX2_poke 1 = .ok (.bipush 32, 2) := by decide +kernel
theorem dX2_poke_3 : decode cX2_poke 3 = .ok (.invokestatic 44, 3) := by decide +kernel
theorem dX2_poke_6 : decode cX2_poke 6 = .ok (.aload_n 0, 1) := by decide +kernel
theorem dX2_poke_7 : decode cX2_poke 7 = .ok (.getfield 22, 3) := by decide +kernel
theorem dX2_poke_10 : decode cX2_poke 10 = .ok (.iload_n 1, 1) := by decide +kernel
theorem dX2_poke_11 : decode cX2_poke 11 = .ok (.iaload, 1) := by decide +kernel
theorem dX2_poke_12 : decode cX2_poke 12 = .ok (.istore_n 3, 1) := by decide +kernel
theorem dX2_poke_13 : decode cX2_poke 13 = .ok (.aload_n 0, 1) := by decide +kernel
theorem dX2_poke_14 : decode cX2_poke 14 = .ok (.getfield 22, 3) := by decide +kernel
theorem dX2_poke_17 : decode cX2_poke 17 = .ok (.iload_n 1, 1) := by decide +kernel
theorem dX2_poke_18 : decode cX2_poke 18 = .ok (.iload_n 2, 1) := by decide +kernel
theorem dX2_poke_19 : decode cX2_poke 19 = .ok (.iastore, 1) := by decide +kernel
theorem dX2_poke_20 : decode cX2_poke 20 = .ok (.iload_n 3, 1) := by decide +kernel
theorem dX2_poke_21 : decode cX2_poke 21 = .ok (.ireturn, 1) := by decide +kernel
theorem dX2_peek_0 : decode cX2_peek 0 = .ok (.iload_n 1, 1) := by decide +kernel
theorem dX2_peek_1 : decode cX2_peek 1 = .ok (.bipush 32, 2) := by decide +kernel
theorem dX2_peek_3 : decode cX2_peek 3 = .ok (.invokestatic 44, 3) := by decide +kernel
theorem dX2_peek_6 : decode cX2_peek 6 = .ok (.aload_n 0, 1) := by decide +kernel
theorem dX2_peek_7 : decode cX2_peek 7 = .ok (.getfield 22, 3) := by decide +kernel
theorem dX2_peek_10 : decode cX2_peek 10 = .ok (.iload_n 1, 1) := by decide +kernel
theorem dX2_peek_11 : decode cX2_peek 11 = .ok (.iaload, 1) := by decide +kernel
theorem dX2_peek_12 : decode cX2_peek 12 = .ok (.ireturn, 1) := by decide +kernel
theorem dX2_set_0 : decode cX2_set 0 = .ok (.iload_n 1, 1) := by decide +kernel
theorem dX2_set_1 : decode cX2_set 1 = .ok (.bipush 16, 2) := by decide +kernel
theorem dX2_set_3 : decode cX2_set 3 = .ok (.invokestatic 44, 3) := by decide +kernel
theorem dX2_set_6 : decode cX2_set 6 = .ok (.iload_n 1, 1) := by decide +kernel
theorem dX2_set_7 : decode cX2_set 7 = .ok (.ifCond .ne 13, 3) := by decide +kernel
theorem dX2_set_10 : decode cX2_set 10 = .ok (.new 52, 3) := by decide +kernel
theorem dX2_set_13 : decode cX2_set 13 = .ok (.dup, 1) := by decide +kernel
theorem dX2_set_14 : decode cX2_set 14 = .ok (.ldc 54, 2) := by decide +kernel
theorem dX2_set_16 : decode cX2_set 16 = .ok (.invokespecial 56, 3) := by decide +kernel
theorem dX2_set_19 : decode cX2_set 19 = .ok (.athrow, 1) := by decide +kernel
theorem dX2_set_20 : decode cX2_set 20 = .ok (.aload_n 0, 1) := by decide +kernel
theorem dX2_set_21 : decode cX2_set 21 = .ok (.getfield 26, 3) := by decide +kernel
theorem dX2_set_24 : decode cX2_set 24 = .ok (.iload_n 1, 1) := by decide +kernel
theorem dX2_set_25 : decode cX2_set 25 = .ok (.iaload, 1) := by decide +kernel
theorem dX2_set_26 : decode cX2_set 26 = .ok (.istore_n 3, 1) := by decide +kernel
theorem dX2_set_27 : decode cX2_set 27 = .ok (.aload_n 0, 1) := by decide +kernel
theorem dX2_set_28 : decode cX2_set 28 = .ok (.getfield 26, 3) := by decide +kernel
theorem dX2_set_31 : decode cX2_set 31 = .ok (.iload_n 1, 1) := by decide +kernel
theorem dX2_set_32 : decode cX2_set 32 = .ok (.iload_n 2, 1) := by decide +kernel
theorem dX2_set_33 : decode cX2_set 33 = .ok (.iastore, 1) := by decide +kernel
theorem dX2_set_34 : decode cX2_set 34 = .ok (.iload_n 3, 1) := by decide +kernel
theorem dX2_set_35 : decode cX2_set 35 = .ok (.ireturn, 1) := by decide +kernel
theorem dX2_register_0 : decode cX2_register 0 = .ok (.iload_n 1, 1) := by decide +kernel
theorem dX2_register_1 : decode cX2_register 1 = .ok (.bipush 16, 2) := by decide +kernel
theorem dX2_register_3 : decode cX2_register 3 = .ok (.invokestatic 44, 3) := by decide +kernel
theorem dX2_register_6 : decode cX2_register 6 = .ok (.aload_n 0, 1) := by decide +kernel
theorem dX2_register_7 : decode cX2_register 7 = .ok (.getfield 26, 3) := by decide +kernel
theorem dX2_register_10 : decode cX2_register 10 = .ok (.iload_n 1, 1) := by decide +kernel
theorem dX2_register_11 : decode cX2_register 11 = .ok (.iaload, 1) := by decide +kernel
theorem dX2_register_12 : decode cX2_register 12 = .ok (.ireturn, 1) := by decide +kernel
theorem dX2_start_0 : decode cX2_start 0 = .ok (.iload_n 1, 1) := by decide +kernel
theorem dX2_start_1 : decode cX2_start 1 = .ok (.bipush 64, 2) := by decide +kernel
theorem dX2_start_3 : decode cX2_start 3 = .ok (.invokestatic 44, 3) := by decide +kernel
theorem dX2_start_6 : decode cX2_start 6 = .ok (.aload_n 0, 1) := by decide +kernel
theorem dX2_start_7 : decode cX2_start 7 = .ok (.iconst 5, 1) := by decide +kernel
theorem dX2_start_8 : decode cX2_start 8 = .ok (.invokevirtual 59, 3) := by decide +kernel
theorem dX2_start_11 : decode cX2_start 11 = .ok (.aload_n 0, 1) := by decide +kernel
theorem dX2_start_12 : decode cX2_start 12 = .ok (.iload_n 1, 1) := by decide +kernel
theorem dX2_start_13 : decode cX2_start 13 = .ok (.putfield 63, 3) := by decide +kernel
theorem dX2_start_16 : decode cX2_start 16 = .ok (.aload_n 0, 1) := by decide +kernel
theorem dX2_start_17 : decode cX2_start 17 = .ok (.iconst 0, 1) := by decide +kernel
theorem dX2_start_18 : decode cX2_start 18 = .ok (.putfield 67, 3) := by decide +kernel
theorem dX2_start_21 : decode cX2_start 21 = .ok (.return_, 1) := by decide +kernel
theorem dX2_handler_0 : decode cX2_handler 0 = .ok (.iload_n 1, 1) := by decide +kernel
theorem dX2_handler_1 : decode cX2_handler 1 = .ok (.bipush 64, 2) := by decide +kernel
theorem dX2_handler_3 : decode cX2_handler 3 = .ok (.invokestatic 44, 3) := by decide +kernel
theorem dX2_handler_6 : decode cX2_handler 6 = .ok (.aload_n 0, 1) := by decide +kernel
theorem dX2_handler_7 : decode cX2_handler 7 = .ok (.getfield 71, 3) := by decide +kernel
theorem dX2_handler_10 : decode cX2_handler 10 = .ok (.istore_n 2, 1) := by decide +kernel
theorem dX2_handler_11 : decode cX2_handler 11 = .ok (.aload_n 0, 1) := by decide +kernel
theorem dX2_handler_12 : decode cX2_handler 12 = .ok (.iload_n 1, 1) := by decide +kernel
theorem dX2_handler_13 : decode cX2_handler 13 = .ok (.putfield 71, 3) := by decide +kernel
theorem dX2_handler_16 : decode cX2_handler 16 = .ok (.iload_n 2, 1) := by decide +kernel
theorem dX2_handler_17 : decode cX2_handler 17 = .ok (.ireturn, 1) := by decide +kernel
theorem dX2_cycles_0 : decode cX2_cycles 0 = .ok (.iload_n 1, 1) := by decide +kernel
theorem dX2_cycles_1 : decode cX2_cycles 1 = .ok (.iconst 1, 1) := by decide +kernel
theorem dX2_cycles_2 : decode cX2_cycles 2 = .ok (.sipush 300, 3) := by decide +kernel
theorem dX2_cycles_5 : decode cX2_cycles 5 = .ok (.invokestatic 48, 3) := by decide +kernel
theorem dX2_cycles_8 : decode cX2_cycles 8 = .ok (.aload_n 0, 1) := by decide +kernel
theorem dX2_cycles_9 : decode cX2_cycles 9 = .ok (.getfield 74, 3) := by decide +kernel
theorem dX2_cycles_12 : decode cX2_cycles 12 = .ok (.istore_n 2, 1) := by decide +kernel
theorem dX2_cycles_13 : decode cX2_cycles 13 = .ok (.iconst 0, 1) := by decide +kernel
theorem dX2_cycles_14 : decode cX2_cycles 14 = .ok (.istore_n 3, 1) := by decide +kernel
theorem dX2_cycles_15 : decode cX2_cycles 15 = .ok (.iload_n 3, 1) := by decide +kernel
theorem dX2_cycles_16 : decode cX2_cycles 16 = .ok (.iload_n 1, 1) := by decide +kernel
theorem dX2_cycles_17 : decode cX2_cycles 17 = .ok (.if_icmp .ge 20, 3) := by decide +kernel
theorem dX2_cycles_20 : decode cX2_cycles 20 = .ok (.aload_n 0, 1) := by decide +kernel
theorem dX2_cycles_21 : decode cX2_cycles 21 = .ok (.getfield 67, 3) := by decide +kernel
theorem dX2_cycles_24 : decode cX2_cycles 24 = .ok (.ifCond .ne 13, 3) := by decide +kernel
theorem dX2_cycles_27 : decode cX2_cycles 27 = .ok (.aload_n 0, 1) := by decide +kernel
theorem dX2_cycles_28 : decode cX2_cycles 28 = .ok (.invokevirtual 77, 3) := by decide +kernel
theorem dX2_cycles_31 : decode cX2_cycles 31 = .ok (.iinc 3 1, 3) := by decide +kernel
theorem dX2_cycles_34 : decode cX2_cycles 34 = .ok (.goto (-19), 3) := by decide +kernel
theorem dX2_cycles_37 : decode cX2_cycles 37 = .ok (.aload_n 0, 1) := by decide +kernel
theorem dX2_cycles_38 : decode cX2_cycles 38 = .ok (.getfield 74, 3) := by decide +kernel
theorem dX2_cycles_41 : decode cX2_cycles 41 = .ok (.iload_n 2, 1) := by decide +kernel
theorem dX2_cycles_42 : decode cX2_cycles 42 = .ok (.isub, 1) := by decide +kernel
theorem dX2_cycles_43 : decode cX2_cycles 43 = .ok (.ireturn, 1) := by decide +kernel
theorem dX2_stage_0 : decode cX2_stage 0 = .ok (.iload_n 1, 1) := by decide +kernel
theorem dX2_stage_1 : decode cX2_stage 1 = .ok (.iconst 5, 1) := by decide +kernel
theorem dX2_stage_2 : decode cX2_stage 2 = .ok (.invokestatic 44, 3) := by decide +kernel
theorem dX2_stage_5 : decode cX2_stage 5 = .ok (.aload_n 0, 1) := by decide +kernel
theorem dX2_stage_6 : decode cX2_stage 6 = .ok (.getfield 34, 3) := by decide +kernel
theorem dX2_stage_9 : decode cX2_stage 9 = .ok (.iload_n 1, 1) := by decide +kernel
theorem dX2_stage_10 : decode cX2_stage 10 = .ok (.aaload, 1) := by decide +kernel
theorem dX2_stage_11 : decode cX2_stage 11 = .ok (.astore_n 2, 1) := by decide +kernel
theorem dX2_stage_12 : decode cX2_stage 12 = .ok (.aload_n 2, 1) := by decide +kernel
theorem dX2_stage_13 : decode cX2_stage 13 = .ok (.getfield 80, 3) := by decide +kernel
theorem dX2_stage_16 : decode cX2_stage 16 = .ok (.ifCond .eq 10, 3) := by decide +kernel
theorem dX2_stage_19 : decode cX2_stage 19 = .ok (.aload_n 2, 1) := by decide +kernel
theorem dX2_stage_20 : decode cX2_stage 20 = .ok (.getfield 83, 3) := by decide +kernel
theorem dX2_stage_23 : decode cX2_stage 23 = .ok (.goto 4, 3) := by decide +kernel
theorem dX2_stage_26 : decode cX2_stage 26 = .ok (.iconst (-1), 1) := by decide +kernel
theorem dX2_stage_27 : decode cX2_stage 27 = .ok (.ireturn, 1) := by decide +kernel
theorem dX2_counter_0 : decode cX2_counter 0 = .ok (.iload_n 1, 1) := by decide +kernel
theorem dX2_counter_1 : decode cX2_counter 1 = .ok (.bipush 8, 2) := by decide +kernel
theorem dX2_counter_3 : decode cX2_counter 3 = .ok (.invokestatic 44, 3) := by decide +kernel
theorem dX2_counter_6 : decode cX2_counter 6 = .ok (.aload_n 0, 1) := by decide +kernel
theorem dX2_counter_7 : decode cX2_counter 7 = .ok (.getfield 29, 3) := by decide +kernel
theorem dX2_counter_10 : decode cX2_counter 10 = .ok (.iload_n 1, 1) := by decide +kernel
theorem dX2_counter_11 : decode cX2_counter 11 = .ok (.iaload, 1) := by decide +kernel
theorem dX2_counter_12 : decode cX2_counter 12 = .ok (.ireturn, 1) := by decide +kernel
theorem dX2_retired_0 : decode cX2_retired 0 = .ok (.iload_n 1, 1) := by decide +kernel
theorem dX2_retired_1 : decode cX2_retired 1 = .ok (.aload_n 0, 1) := by decide +kernel
theorem dX2_retired_2 : decode cX2_retired 2 = .ok (.getfield 74, 3) := by decide +kernel
theorem dX2_retired_5 : decode cX2_retired 5 = .ok (.bipush 16, 2) := by decide +kernel
theorem dX2_retired_7 : decode cX2_retired 7 = .ok (.invokestatic 86, 3) := by decide +kernel
theorem dX2_retired_10 : decode cX2_retired 10 = .ok (.invokestatic 44, 3) := by decide +kernel
theorem dX2_retired_13 : decode cX2_retired 13 = .ok (.aload_n 0, 1) := by decide +kernel
theorem dX2_retired_14 : decode cX2_retired 14 = .ok (.getfield 41, 3) := by decide +kernel
theorem dX2_retired_17 : decode cX2_retired 17 = .ok (.aload_n 0, 1) := by decide +kernel
theorem dX2_retired_18 : decode cX2_retired 18 = .ok (.getfield 74, 3) := by decide +kernel
theorem dX2_retired_21 : decode cX2_retired 21 = .ok (.iconst 1, 1) := by decide +kernel
theorem dX2_retired_22 : decode cX2_retired 22 = .ok (.isub, 1) := by decide +kernel
theorem dX2_retired_23 : decode cX2_retired 23 = .ok (.iload_n 1, 1) := by decide +kernel
theorem dX2_retired_24 : decode cX2_retired 24 = .ok (.isub, 1) := by decide +kernel
theorem dX2_retired_25 : decode cX2_retired 25 = .ok (.bipush 16, 2) := by decide +kernel
theorem dX2_retired_27 : decode cX2_retired 27 = .ok (.irem, 1) := by decide +kernel
theorem dX2_retired_28 : decode cX2_retired 28 = .ok (.iaload, 1) := by decide +kernel
theorem dX2_retired_29 : decode cX2_retired 29 = .ok (.ireturn, 1) := by decide +kernel
theorem dX2_count_0 : decode cX2_count 0 = .ok (.iload_n 1, 1) := by decide +kernel
theorem dX2_count_1 : decode cX2_count 1 = .ok (.tableswitch 104 0 8 #[51, 56, 61, 66, 71, 76, 81, 86, 91], 51) := by decide +kernel
theorem dX2_count_52 : decode cX2_count 52 = .ok (.aload_n 0, 1) := by decide +kernel
theorem dX2_count_53 : decode cX2_count 53 = .ok (.getfield 92, 3) := by decide +kernel
theorem dX2_count_56 : decode cX2_count 56 = .ok (.ireturn, 1) := by decide +kernel
theorem dX2_count_57 : decode cX2_count 57 = .ok (.aload_n 0, 1) := by decide +kernel
theorem dX2_count_58 : decode cX2_count 58 = .ok (.getfield 74, 3) := by decide +kernel
theorem dX2_count_61 : decode cX2_count 61 = .ok (.ireturn, 1) := by decide +kernel
theorem dX2_count_62 : decode cX2_count 62 = .ok (.aload_n 0, 1) := by decide +kernel
theorem dX2_count_63 : decode cX2_count 63 = .ok (.getfield 95, 3) := by decide +kernel
theorem dX2_count_66 : decode cX2_count 66 = .ok (.ireturn, 1) := by decide +kernel
theorem dX2_count_67 : decode cX2_count 67 = .ok (.aload_n 0, 1) := by decide +kernel
theorem dX2_count_68 : decode cX2_count 68 = .ok (.getfield 98, 3) := by decide +kernel
theorem dX2_count_71 : decode cX2_count 71 = .ok (.ireturn, 1) := by decide +kernel
theorem dX2_count_72 : decode cX2_count 72 = .ok (.aload_n 0, 1) := by decide +kernel
theorem dX2_count_73 : decode cX2_count 73 = .ok (.getfield 101, 3) := by decide +kernel
theorem dX2_count_76 : decode cX2_count 76 = .ok (.ireturn, 1) := by decide +kernel
theorem dX2_count_77 : decode cX2_count 77 = .ok (.aload_n 0, 1) := by decide +kernel
theorem dX2_count_78 : decode cX2_count 78 = .ok (.getfield 63, 3) := by decide +kernel
theorem dX2_count_81 : decode cX2_count 81 = .ok (.ireturn, 1) := by decide +kernel
theorem dX2_count_82 : decode cX2_count 82 = .ok (.aload_n 0, 1) := by decide +kernel
theorem dX2_count_83 : decode cX2_count 83 = .ok (.getfield 104, 3) := by decide +kernel
theorem dX2_count_86 : decode cX2_count 86 = .ok (.ireturn, 1) := by decide +kernel
theorem dX2_count_87 : decode cX2_count 87 = .ok (.aload_n 0, 1) := by decide +kernel
theorem dX2_count_88 : decode cX2_count 88 = .ok (.getfield 107, 3) := by decide +kernel
theorem dX2_count_91 : decode cX2_count 91 = .ok (.ireturn, 1) := by decide +kernel
theorem dX2_count_92 : decode cX2_count 92 = .ok (.aload_n 0, 1) := by decide +kernel
theorem dX2_count_93 : decode cX2_count 93 = .ok (.getfield 67, 3) := by decide +kernel
theorem dX2_count_96 : decode cX2_count 96 = .ok (.ifCond .eq 7, 3) := by decide +kernel
theorem dX2_count_99 : decode cX2_count 99 = .ok (.iconst 1, 1) := by decide +kernel
theorem dX2_count_100 : decode cX2_count 100 = .ok (.goto 4, 3) := by decide +kernel
theorem dX2_count_103 : decode cX2_count 103 = .ok (.iconst 0, 1) := by decide +kernel
theorem dX2_count_104 : decode cX2_count 104 = .ok (.ireturn, 1) := by decide +kernel
theorem dX2_count_105 : decode cX2_count 105 = .ok (.new 110, 3) := by decide +kernel
theorem dX2_count_108 : decode cX2_count 108 = .ok (.dup, 1) := by decide +kernel
theorem dX2_count_109 : decode cX2_count 109 = .ok (.ldc 112, 2) := by decide +kernel
theorem dX2_count_111 : decode cX2_count 111 = .ok (.invokespecial 114, 3) := by decide +kernel
theorem dX2_count_114 : decode cX2_count 114 = .ok (.athrow, 1) := by decide +kernel
theorem dX2_pace_0 : decode cX2_pace 0 = .ok (.aload_n 0, 1) := by decide +kernel
theorem dX2_pace_1 : decode cX2_pace 1 = .ok (.getfield 74, 3) := by decide +kernel
theorem dX2_pace_4 : decode cX2_pace 4 = .ok (.ifCond .ne 7, 3) := by decide +kernel
theorem dX2_pace_7 : decode cX2_pace 7 = .ok (.fconst 0, 1) := by decide +kernel
theorem dX2_pace_8 : decode cX2_pace 8 = .ok (.goto 14, 3) := by decide +kernel
theorem dX2_pace_11 : decode cX2_pace 11 = .ok (.aload_n 0, 1) := by decide +kernel
theorem dX2_pace_12 : decode cX2_pace 12 = .ok (.getfield 92, 3) := by decide +kernel
theorem dX2_pace_15 : decode cX2_pace 15 = .ok (.i2f, 1) := by decide +kernel
theorem dX2_pace_16 : decode cX2_pace 16 = .ok (.aload_n 0, 1) := by decide +kernel
theorem dX2_pace_17 : decode cX2_pace 17 = .ok (.getfield 74, 3) := by decide +kernel
theorem dX2_pace_20 : decode cX2_pace 20 = .ok (.i2f, 1) := by decide +kernel
theorem dX2_pace_21 : decode cX2_pace 21 = .ok (.fdiv, 1) := by decide +kernel
theorem dX2_pace_22 : decode cX2_pace 22 = .ok (.freturn, 1) := by decide +kernel
theorem dX2_checkIndex_0 : decode cX2_checkIndex 0 = .ok (.iload_n 0, 1) := by decide +kernel
theorem dX2_checkIndex_1 : decode cX2_checkIndex 1 = .ok (.ifCond .lt 8, 3) := by decide +kernel
theorem dX2_checkIndex_4 : decode cX2_checkIndex 4 = .ok (.iload_n 0, 1) := by decide +kernel
theorem dX2_checkIndex_5 : decode cX2_checkIndex 5 = .ok (.iload_n 1, 1) := by decide +kernel
theorem dX2_checkIndex_6 : decode cX2_checkIndex 6 = .ok (.if_icmp .lt 13, 3) := by decide +kernel
theorem dX2_checkIndex_9 : decode cX2_checkIndex 9 = .ok (.new 52, 3) := by decide +kernel
theorem dX2_checkIndex_12 : decode cX2_checkIndex 12 = .ok (.dup, 1) := by decide +kernel
theorem dX2_checkIndex_13 : decode cX2_checkIndex 13 = .ok (.ldc 115, 2) := by decide +kernel
theorem dX2_checkIndex_15 : decode cX2_checkIndex 15 = .ok (.invokespecial 56, 3) := by decide +kernel
theorem dX2_checkIndex_18 : decode cX2_checkIndex 18 = .ok (.athrow, 1) := by decide +kernel
theorem dX2_checkIndex_19 : decode cX2_checkIndex 19 = .ok (.return_, 1) := by decide +kernel
theorem dX2_checkArgument_0 : decode cX2_checkArgument 0 = .ok (.iload_n 0, 1) := by decide +kernel
theorem dX2_checkArgument_1 : decode cX2_checkArgument 1 = .ok (.iload_n 1, 1) := by decide +kernel
theorem dX2_checkArgument_2 : decode cX2_checkArgument 2 = .ok (.if_icmp .lt 8, 3) := by decide +kernel
theorem dX2_checkArgument_5 : decode cX2_checkArgument 5 = .ok (.iload_n 0, 1) := by decide +kernel
theorem dX2_checkArgument_6 : decode cX2_checkArgument 6 = .ok (.iload_n 2, 1) := by decide +kernel
theorem dX2_checkArgument_7 : decode cX2_checkArgument 7 = .ok (.if_icmp .le 13, 3) := by decide +kernel
theorem dX2_checkArgument_10 : decode cX2_checkArgument 10 = .ok (.new 110, 3) := by decide +kernel
theorem dX2_checkArgument_13 : decode cX2_checkArgument 13 = .ok (.dup, 1) := by decide +kernel
theorem dX2_checkArgument_14 : decode cX2_checkArgument 14 = .ok (.ldc 117, 2) := by decide +kernel
theorem dX2_checkArgument_16 : decode cX2_checkArgument 16 = .ok (.invokespecial 114, 3) := by decide +kernel
theorem dX2_checkArgument_19 : decode cX2_checkArgument 19 = .ok (.athrow, 1) := by decide +kernel
theorem dX2_checkArgument_20 : decode cX2_checkArgument 20 = .ok (.return_, 1) := by decide +kernel
theorem dX2_runCycle_0 : decode cX2_runCycle 0 = .ok (.aload_n 0, 1) := by decide +kernel
theorem dX2_runCycle_1 : decode cX2_runCycle 1 = .ok (.dup, 1) := by decide +kernel
theorem dX2_runCycle_2 : decode cX2_runCycle 2 = .ok (.getfield 92, 3) := by decide +kernel
theorem dX2_runCycle_5 : decode cX2_runCycle 5 = .ok (.iconst 1, 1) := by decide +kernel
theorem dX2_runCycle_6 : decode cX2_runCycle 6 = .ok (.iadd, 1) := by decide +kernel
theorem dX2_runCycle_7 : decode cX2_runCycle 7 = .ok (.putfield 92, 3) := by decide +kernel
theorem dX2_runCycle_10 : decode cX2_runCycle 10 = .ok (.aload_n 0, 1) := by decide +kernel
theorem dX2_runCycle_11 : decode cX2_runCycle 11 = .ok (.aload_n 0, 1) := by decide +kernel
theorem dX2_runCycle_12 : decode cX2_runCycle 12 = .ok (.getfield 34, 3) := by decide +kernel
theorem dX2_runCycle_15 : decode cX2_runCycle 15 = .ok (.iconst 4, 1) := by decide +kernel
theorem dX2_runCycle_16 : decode cX2_runCycle 16 = .ok (.aaload, 1) := by decide +kernel
theorem dX2_runCycle_17 : decode cX2_runCycle 17 = .ok (.invokevirtual 119, 3) := by decide +kernel
theorem dX2_runCycle_20 : decode cX2_runCycle 20 = .ok (.ifCond .eq 4, 3) := by decide +kernel
theorem dX2_runCycle_23 : decode cX2_runCycle 23 = .ok (.return_, 1) := by decide +kernel
theorem dX2_runCycle_24 : decode cX2_runCycle 24 = .ok (.aload_n 0, 1) := by decide +kernel
theorem dX2_runCycle_25 : decode cX2_runCycle 25 = .ok (.aload_n 0, 1) := by decide +kernel
theorem dX2_runCycle_26 : decode cX2_runCycle 26 = .ok (.getfield 34, 3) := by decide +kernel
theorem dX2_runCycle_29 : decode cX2_runCycle 29 = .ok (.iconst 3, 1) := by decide +kernel
theorem dX2_runCycle_30 : decode cX2_runCycle 30 = .ok (.aaload, 1) := by decide +kernel
theorem dX2_runCycle_31 : decode cX2_runCycle 31 = .ok (.invokevirtual 123, 3) := by decide +kernel
theorem dX2_runCycle_34 : decode cX2_runCycle 34 = .ok (.aload_n 0, 1) := by decide +kernel
theorem dX2_runCycle_35 : decode cX2_runCycle 35 = .ok (.aload_n 0, 1) := by decide +kernel
theorem dX2_runCycle_36 : decode cX2_runCycle 36 = .ok (.getfield 34, 3) := by decide +kernel
theorem dX2_runCycle_39 : decode cX2_runCycle 39 = .ok (.iconst 2, 1) := by decide +kernel
theorem dX2_runCycle_40 : decode cX2_runCycle 40 = .ok (.aaload, 1) := by decide +kernel
theorem dX2_runCycle_41 : decode cX2_runCycle 41 = .ok (.invokevirtual 127, 3) := by decide +kernel
theorem dX2_runCycle_44 : decode cX2_runCycle 44 = .ok (.aload_n 0, 1) := by decide +kernel
theorem dX2_runCycle_45 : decode cX2_runCycle 45 = .ok (.iconst 1, 1) := by decide +kernel
theorem dX2_runCycle_46 : decode cX2_runCycle 46 = .ok (.invokevirtual 130, 3) := by decide +kernel
theorem dX2_runCycle_49 : decode cX2_runCycle 49 = .ok (.aload_n 0, 1) := by decide +kernel
theorem dX2_runCycle_50 : decode cX2_runCycle 50 = .ok (.iconst 0, 1) := by decide +kernel
theorem dX2_runCycle_51 : decode cX2_runCycle 51 = .ok (.invokevirtual 130, 3) := by decide +kernel
theorem dX2_runCycle_54 : decode cX2_runCycle 54 = .ok (.aload_n 0, 1) := by decide +kernel
theorem dX2_runCycle_55 : decode cX2_runCycle 55 = .ok (.aload_n 0, 1) := by decide +kernel
theorem dX2_runCycle_56 : decode cX2_runCycle 56 = .ok (.getfield 34, 3) := by decide +kernel
theorem dX2_runCycle_59 : decode cX2_runCycle 59 = .ok (.iconst 0, 1) := by decide +kernel
theorem dX2_runCycle_60 : decode cX2_runCycle 60 = .ok (.aaload, 1) := by decide +kernel
theorem dX2_runCycle_61 : decode cX2_runCycle 61 = .ok (.invokevirtual 133, 3) := by decide +kernel
theorem dX2_runCycle_64 : decode cX2_runCycle 64 = .ok (.return_, 1) := by decide +kernel
theorem dX2_leaveEndsCycle_0 : decode cX2_leaveEndsCycle 0 = .ok (.aload_n 1, 1) := by decide +kernel
theorem dX2_leaveEndsCycle_1 : decode cX2_leaveEndsCycle 1 = .ok (.getfield 80, 3) := by decide +kernel
theorem dX2_leaveEndsCycle_4 : decode cX2_leaveEndsCycle 4 = .ok (.ifCond .ne 5, 3) := by decide +kernel
theorem dX2_leaveEndsCycle_7 : decode cX2_leaveEndsCycle 7 = .ok (.iconst 0, 1) := by decide +kernel
theorem dX2_leaveEndsCycle_8 : decode cX2_leaveEndsCycle 8 = .ok (.ireturn, 1) := by decide +kernel
theorem dX2_leaveEndsCycle_9 : decode cX2_leaveEndsCycle 9 = .ok (.aload_n 1, 1) := by decide +kernel
theorem dX2_leaveEndsCycle_10 : decode cX2_leaveEndsCycle 10 = .ok (.getfield 136, 3) := by decide +kernel
theorem dX2_leaveEndsCycle_13 : decode cX2_leaveEndsCycle 13 = .ok (.ifCond .eq 10, 3) := by decide +kernel
theorem dX2_leaveEndsCycle_16 : decode cX2_leaveEndsCycle 16 = .ok (.aload_n 0, 1) := by decide +kernel
theorem dX2_leaveEndsCycle_17 : decode cX2_leaveEndsCycle 17 = .ok (.aload_n 1, 1) := by decide +kernel
theorem dX2_leaveEndsCycle_18 : decode cX2_leaveEndsCycle 18 = .ok (.invokevirtual 139, 3) := by decide +kernel
theorem dX2_leaveEndsCycle_21 : decode cX2_leaveEndsCycle 21 = .ok (.iconst 1, 1) := by decide +kernel
theorem dX2_leaveEndsCycle_22 : decode cX2_leaveEndsCycle 22 = .ok (.ireturn, 1) := by decide +kernel
theorem dX2_leaveEndsCycle_23 : decode cX2_leaveEndsCycle 23 = .ok (.aload_n 1, 1) := by decide +kernel
theorem dX2_leaveEndsCycle_24 : decode cX2_leaveEndsCycle 24 = .ok (.bipush 18, 2) := by decide +kernel
theorem dX2_leaveEndsCycle_26 : decode cX2_leaveEndsCycle 26 = .ok (.invokevirtual 142, 3) := by decide +kernel
theorem dX2_leaveEndsCycle_29 : decode cX2_leaveEndsCycle 29 = .ok (.ifCond .eq 15, 3) := by decide +kernel
theorem dX2_leaveEndsCycle_32 : decode cX2_leaveEndsCycle 32 = .ok (.aload_n 0, 1) := by decide +kernel
theorem dX2_leaveEndsCycle_33 : decode cX2_leaveEndsCycle 33 = .ok (.iconst 5, 1) := by decide +kernel
theorem dX2_leaveEndsCycle_34 : decode cX2_leaveEndsCycle 34 = .ok (.invokevirtual 59, 3) := by decide +kernel
theorem dX2_leaveEndsCycle_37 : decode cX2_leaveEndsCycle 37 = .ok (.aload_n 0, 1) := by decide +kernel
theorem dX2_leaveEndsCycle_38 : decode cX2_leaveEndsCycle 38 = .ok (.iconst 1, 1) := by decide +kernel
theorem dX2_leaveEndsCycle_39 : decode cX2_leaveEndsCycle 39 = .ok (.putfield 67, 3) := by decide +kernel
theorem dX2_leaveEndsCycle_42 : decode cX2_leaveEndsCycle 42 = .ok (.iconst 1, 1) := by decide +kernel
theorem dX2_leaveEndsCycle_43 : decode cX2_leaveEndsCycle 43 = .ok (.ireturn, 1) := by decide +kernel
theorem dX2_leaveEndsCycle_44 : decode cX2_leaveEndsCycle 44 = .ok (.aload_n 0, 1) := by decide +kernel
theorem dX2_leaveEndsCycle_45 : decode cX2_leaveEndsCycle 45 = .ok (.aload_n 1, 1) := by decide +kernel
theorem dX2_leaveEndsCycle_46 : decode cX2_leaveEndsCycle 46 = .ok (.invokevirtual 146, 3) := by decide +kernel
theorem dX2_leaveEndsCycle_49 : decode cX2_leaveEndsCycle 49 = .ok (.iconst 0, 1) := by decide +kernel
theorem dX2_leaveEndsCycle_50 : decode cX2_leaveEndsCycle 50 = .ok (.ireturn, 1) := by decide +kernel
theorem dX2_takeFault_0 : decode cX2_takeFault 0 = .ok (.aload_n 0, 1) := by decide +kernel
theorem dX2_takeFault_1 : decode cX2_takeFault 1 = .ok (.dup, 1) := by decide +kernel
theorem dX2_takeFault_2 : decode cX2_takeFault 2 = .ok (.getfield 101, 3) := by decide +kernel
theorem dX2_takeFault_5 : decode cX2_takeFault 5 = .ok (.iconst 1, 1) := by decide +kernel
theorem dX2_takeFault_6 : decode cX2_takeFault 6 = .ok (.iadd, 1) := by decide +kernel
theorem dX2_takeFault_7 : decode cX2_takeFault 7 = .ok (.putfield 101, 3) := by decide +kernel
theorem dX2_takeFault_10 : decode cX2_takeFault 10 = .ok (.aload_n 0, 1) := by decide +kernel
theorem dX2_takeFault_11 : decode cX2_takeFault 11 = .ok (.aload_n 1, 1) := by decide +kernel
theorem dX2_takeFault_12 : decode cX2_takeFault 12 = .ok (.getfield 136, 3) := by decide +kernel
theorem dX2_takeFault_15 : decode cX2_takeFault 15 = .ok (.putfield 104, 3) := by decide +kernel
theorem dX2_takeFault_18 : decode cX2_takeFault 18 = .ok (.aload_n 0, 1) := by decide +kernel
theorem dX2_takeFault_19 : decode cX2_takeFault 19 = .ok (.aload_n 1, 1) := by decide +kernel
theorem dX2_takeFault_20 : decode cX2_takeFault 20 = .ok (.getfield 83, 3) := by decide +kernel
theorem dX2_takeFault_23 : decode cX2_takeFault 23 = .ok (.putfield 107, 3) := by decide +kernel
theorem dX2_takeFault_26 : decode cX2_takeFault 26 = .ok (.aload_n 0, 1) := by decide +kernel
theorem dX2_takeFault_27 : decode cX2_takeFault 27 = .ok (.iconst 5, 1) := by decide +kernel
theorem dX2_takeFault_28 : decode cX2_takeFault 28 = .ok (.invokevirtual 59, 3) := by decide +kernel
theorem dX2_takeFault_31 : decode cX2_takeFault 31 = .ok (.aload_n 0, 1) := by decide +kernel
theorem dX2_takeFault_32 : decode cX2_takeFault 32 = .ok (.aload_n 0, 1) := by decide +kernel
theorem dX2_takeFault_33 : decode cX2_takeFault 33 = .ok (.getfield 71, 3) := by decide +kernel
theorem dX2_takeFault_36 : decode cX2_takeFault 36 = .ok (.putfield 63, 3) := by decide +kernel
theorem dX2_takeFault_39 : decode cX2_takeFault 39 = .ok (.return_, 1) := by decide +kernel
theorem dX2_retire_0 : decode cX2_retire 0 = .ok (.aload_n 1, 1) := by decide +kernel
theorem dX2_retire_1 : decode cX2_retire 1 = .ok (.getfield 149, 3) := by decide +kernel
theorem dX2_retire_4 : decode cX2_retire 4 = .ok (.getfield 152, 3) := by decide +kernel
theorem dX2_retire_7 : decode cX2_retire 7 = .ok (.istore_n 2, 1) := by decide +kernel
theorem dX2_retire_8 : decode cX2_retire 8 = .ok (.aload_n 1, 1) := by decide +kernel
theorem dX2_retire_9 : decode cX2_retire 9 = .ok (.iload_n 2, 1) := by decide +kernel
theorem dX2_retire_10 : decode cX2_retire 10 = .ok (.invokevirtual 155, 3) := by decide +kernel
theorem dX2_retire_13 : decode cX2_retire 13 = .ok (.ifCond .eq 13, 3) := by decide +kernel
theorem dX2_retire_16 : decode cX2_retire 16 = .ok (.aload_n 0, 1) := by decide +kernel
theorem dX2_retire_17 : decode cX2_retire 17 = .ok (.getfield 26, 3) := by decide +kernel
theorem dX2_retire_20 : decode cX2_retire 20 = .ok (.iload_n 2, 1) := by decide +kernel
theorem dX2_retire_21 : decode cX2_retire 21 = .ok (.aload_n 1, 1) := by decide +kernel
theorem dX2_retire_22 : decode cX2_retire 22 = .ok (.getfield 158, 3) := by decide +kernel
theorem dX2_retire_25 : decode cX2_retire 25 = .ok (.iastore, 1) := by decide +kernel
theorem dX2_retire_26 : decode cX2_retire 26 = .ok (.aload_n 0, 1) := by decide +kernel
theorem dX2_retire_27 : decode cX2_retire 27 = .ok (.getfield 41, 3) := by decide +kernel
theorem dX2_retire_30 : decode cX2_retire 30 = .ok (.aload_n 0, 1) := by decide +kernel
theorem dX2_retire_31 : decode cX2_retire 31 = .ok (.getfield 74, 3) := by decide +kernel
theorem dX2_retire_34 : decode cX2_retire 34 = .ok (.bipush 16, 2) := by decide +kernel
theorem dX2_retire_36 : decode cX2_retire 36 = .ok (.invokestatic 161, 3) := by decide +kernel
theorem dX2_retire_39 : decode cX2_retire 39 = .ok (.aload_n 1, 1) := by decide +kernel
theorem dX2_retire_40 : decode cX2_retire 40 = .ok (.getfield 83, 3) := by decide +kernel
theorem dX2_retire_43 : decode cX2_retire 43 = .ok (.iastore, 1) := by decide +kernel
theorem dX2_retire_44 : decode cX2_retire 44 = .ok (.aload_n 0, 1) := by decide +kernel
theorem dX2_retire_45 : decode cX2_retire 45 = .ok (.dup, 1) := by decide +kernel
theorem dX2_retire_46 : decode cX2_retire 46 = .ok (.getfield 74, 3) := by decide +kernel
theorem dX2_retire_49 : decode cX2_retire 49 = .ok (.iconst 1, 1) := by decide +kernel
theorem dX2_retire_50 : decode cX2_retire 50 = .ok (.iadd, 1) := by decide +kernel
theorem dX2_retire_51 : decode cX2_retire 51 = .ok (.putfield 74, 3) := by decide +kernel
theorem dX2_retire_54 : decode cX2_retire 54 = .ok (.aload_n 1, 1) := by decide +kernel
theorem dX2_retire_55 : decode cX2_retire 55 = .ok (.iconst 0, 1) := by decide +kernel
theorem dX2_retire_56 : decode cX2_retire 56 = .ok (.putfield 80, 3) := by decide +kernel
theorem dX2_retire_59 : decode cX2_retire 59 = .ok (.return_, 1) := by decide +kernel
theorem dX2_passMemory_0 : decode cX2_passMemory 0 = .ok (.aload_n 1, 1) := by decide +kernel
theorem dX2_passMemory_1 : decode cX2_passMemory 1 = .ok (.bipush 11, 2) := by decide +kernel
theorem dX2_passMemory_3 : decode cX2_passMemory 3 = .ok (.invokevirtual 142, 3) := by decide +kernel
theorem dX2_passMemory_6 : decode cX2_passMemory 6 = .ok (.ifCond .eq 19, 3) := by decide +kernel
theorem dX2_passMemory_9 : decode cX2_passMemory 9 = .ok (.aload_n 1, 1) := by decide +kernel
theorem dX2_passMemory_10 : decode cX2_passMemory 10 = .ok (.aload_n 0, 1) := by decide +kernel
theorem dX2_passMemory_11 : decode cX2_passMemory 11 = .ok (.getfield 22, 3) := by decide +kernel
theorem dX2_passMemory_14 : decode cX2_passMemory 14 = .ok (.aload_n 1, 1) := by decide +kernel
theorem dX2_passMemory_15 : decode cX2_passMemory 15 = .ok (.getfield 164, 3) := by decide +kernel
theorem dX2_passMemory_18 : decode cX2_passMemory 18 = .ok (.iaload, 1) := by decide +kernel
theorem dX2_passMemory_19 : decode cX2_passMemory 19 = .ok (.putfield 158, 3) := by decide +kernel
theorem dX2_passMemory_22 : decode cX2_passMemory 22 = .ok (.goto 25, 3) := by decide +kernel
theorem dX2_passMemory_25 : decode cX2_passMemory 25 = .ok (.aload_n 1, 1) := by decide +kernel
theorem dX2_passMemory_26 : decode cX2_passMemory 26 = .ok (.bipush 12, 2) := by decide +kernel
theorem dX2_passMemory_28 : decode cX2_passMemory 28 = .ok (.invokevirtual 142, 3) := by decide +kernel
theorem dX2_passMemory_31 : decode cX2_passMemory 31 = .ok (.ifCond .eq 16, 3) := by decide +kernel
theorem dX2_passMemory_34 : decode cX2_passMemory 34 = .ok (.aload_n 0, 1) := by decide +kernel
theorem dX2_passMemory_35 : decode cX2_passMemory 35 = .ok (.getfield 22, 3) := by decide +kernel
theorem dX2_passMemory_38 : decode cX2_passMemory 38 = .ok (.aload_n 1, 1) := by decide +kernel
theorem dX2_passMemory_39 : decode cX2_passMemory 39 = .ok (.getfield 164, 3) := by decide +kernel
theorem dX2_passMemory_42 : decode cX2_passMemory 42 = .ok (.aload_n 1, 1) := by decide +kernel
theorem dX2_passMemory_43 : decode cX2_passMemory 43 = .ok (.getfield 158, 3) := by decide +kernel
theorem dX2_passMemory_46 : decode cX2_passMemory 46 = .ok (.iastore, 1) := by decide +kernel
theorem dX2_passMemory_47 : decode cX2_passMemory 47 = .ok (.aload_n 0, 1) := by decide +kernel
theorem dX2_passMemory_48 : decode cX2_passMemory 48 = .ok (.iconst 3, 1) := by decide +kernel
theorem dX2_passMemory_49 : decode cX2_passMemory 49 = .ok (.invokevirtual 130, 3) := by decide +kernel
theorem dX2_passMemory_52 : decode cX2_passMemory 52 = .ok (.return_, 1) := by decide +kernel
theorem dX2_workInReached_0 : decode cX2_workInReached 0 = .ok (.aload_n 1, 1) := by decide +kernel
theorem dX2_workInReached_1 : decode cX2_workInReached 1 = .ok (.getfield 80, 3) := by decide +kernel
theorem dX2_workInReached_4 : decode cX2_workInReached 4 = .ok (.ifCond .ne 4, 3) := by decide +kernel
theorem dX2_workInReached_7 : decode cX2_workInReached 7 = .ok (.return_, 1) := by decide +kernel
theorem dX2_workInReached_8 : decode cX2_workInReached 8 = .ok (.aload_n 0, 1) := by decide +kernel
theorem dX2_workInReached_9 : decode cX2_workInReached 9 = .ok (.aload_n 1, 1) := by decide +kernel
theorem dX2_workInReached_10 : decode cX2_workInReached 10 = .ok (.getfield 149, 3) := by decide +kernel
theorem dX2_workInReached_13 : decode cX2_workInReached 13 = .ok (.invokevirtual 167, 3) := by decide +kernel
theorem dX2_workInReached_16 : decode cX2_workInReached 16 = .ok (.ifCond .eq 14, 3) := by decide +kernel
theorem dX2_workInReached_19 : decode cX2_workInReached 19 = .ok (.aload_n 0, 1) := by decide +kernel
theorem dX2_workInReached_20 : decode cX2_workInReached 20 = .ok (.dup, 1) := by decide +kernel
theorem dX2_workInReached_21 : decode cX2_workInReached 21 = .ok (.getfield 95, 3) := by decide +kernel
theorem dX2_workInReached_24 : decode cX2_workInReached 24 = .ok (.iconst 1, 1) := by decide +kernel
theorem dX2_workInReached_25 : decode cX2_workInReached 25 = .ok (.iadd, 1) := by decide +kernel
theorem dX2_workInReached_26 : decode cX2_workInReached 26 = .ok (.putfield 95, 3) := by decide +kernel
theorem dX2_workInReached_29 : decode cX2_workInReached 29 = .ok (.return_, 1) := by decide +kernel
theorem dX2_workInReached_30 : decode cX2_workInReached 30 = .ok (.aload_n 1, 1) := by decide +kernel
theorem dX2_workInReached_31 : decode cX2_workInReached 31 = .ok (.dup, 1) := by decide +kernel
theorem dX2_workInReached_32 : decode cX2_workInReached 32 = .ok (.getfield 171, 3) := by decide +kernel
theorem dX2_workInReached_35 : decode cX2_workInReached 35 = .ok (.iconst 1, 1) := by decide +kernel
theorem dX2_workInReached_36 : decode cX2_workInReached 36 = .ok (.iadd, 1) := by decide +kernel
theorem dX2_workInReached_37 : decode cX2_workInReached 37 = .ok (.putfield 171, 3) := by decide +kernel
theorem dX2_workInReached_40 : decode cX2_workInReached 40 = .ok (.aload_n 1, 1) := by decide +kernel
theorem dX2_workInReached_41 : decode cX2_workInReached 41 = .ok (.getfield 171, 3) := by decide +kernel
theorem dX2_workInReached_44 : decode cX2_workInReached 44 = .ok (.aload_n 1, 1) := by decide +kernel
theorem dX2_workInReached_45 : decode cX2_workInReached 45 = .ok (.getfield 149, 3) := by decide +kernel
theorem dX2_workInReached_48 : decode cX2_workInReached 48 = .ok (.invokevirtual 174, 3) := by decide +kernel
theorem dX2_workInReached_51 : decode cX2_workInReached 51 = .ok (.if_icmp .ge 14, 3) := by decide +kernel
theorem dX2_workInReached_54 : decode cX2_workInReached 54 = .ok (.aload_n 0, 1) := by decide +kernel
theorem dX2_workInReached_55 : decode cX2_workInReached 55 = .ok (.dup, 1) := by decide +kernel
theorem dX2_workInReached_56 : decode cX2_workInReached 56 = .ok (.getfield 95, 3) := by decide +kernel
theorem dX2_workInReached_59 : decode cX2_workInReached 59 = .ok (.iconst 1, 1) := by decide +kernel
theorem dX2_workInReached_60 : decode cX2_workInReached 60 = .ok (.iadd, 1) := by decide +kernel
theorem dX2_workInReached_61 : decode cX2_workInReached 61 = .ok (.putfield 95, 3) := by decide +kernel
theorem dX2_workInReached_64 : decode cX2_workInReached 64 = .ok (.return_, 1) := by decide +kernel
theorem dX2_workInReached_65 : decode cX2_workInReached 65 = .ok (.aload_n 0, 1) := by decide +kernel
theorem dX2_workInReached_66 : decode cX2_workInReached 66 = .ok (.aload_n 1, 1) := by decide +kernel
theorem dX2_workInReached_67 : decode cX2_workInReached 67 = .ok (.invokevirtual 178, 3) := by decide +kernel
theorem dX2_workInReached_70 : decode cX2_workInReached 70 = .ok (.aload_n 0, 1) := by decide +kernel
theorem dX2_workInReached_71 : decode cX2_workInReached 71 = .ok (.iconst 2, 1) := by decide +kernel
theorem dX2_workInReached_72 : decode cX2_workInReached 72 = .ok (.invokevirtual 130, 3) := by decide +kernel
theorem dX2_workInReached_75 : decode cX2_workInReached 75 = .ok (.return_, 1) := by decide +kernel
theorem dX2_needsLoadAhead_0 : decode cX2_needsLoadAhead 0 = .ok (.aload_n 0, 1) := by decide +kernel
theorem dX2_needsLoadAhead_1 : decode cX2_needsLoadAhead 1 = .ok (.getfield 34, 3) := by decide +kernel
theorem dX2_needsLoadAhead_4 : decode cX2_needsLoadAhead 4 = .ok (.iconst 4, 1) := by decide +kernel
theorem dX2_needsLoadAhead_5 : decode cX2_needsLoadAhead 5 = .ok (.aaload, 1) := by decide +kernel
theorem dX2_needsLoadAhead_6 : decode cX2_needsLoadAhead 6 = .ok (.astore_n 2, 1) := by decide +kernel
theorem dX2_needsLoadAhead_7 : decode cX2_needsLoadAhead 7 = .ok (.aload_n 2, 1) := by decide +kernel
theorem dX2_needsLoadAhead_8 : decode cX2_needsLoadAhead 8 = .ok (.bipush 11, 2) := by decide +kernel
theorem dX2_needsLoadAhead_10 : decode cX2_needsLoadAhead 10 = .ok (.invokevirtual 142, 3) := by decide +kernel
theorem dX2_needsLoadAhead_13 : decode cX2_needsLoadAhead 13 = .ok (.ifCond .ne 5, 3) := by decide +kernel
theorem dX2_needsLoadAhead_16 : decode cX2_needsLoadAhead 16 = .ok (.iconst 0, 1) := by decide +kernel
theorem dX2_needsLoadAhead_17 : decode cX2_needsLoadAhead 17 = .ok (.ireturn, 1) := by decide +kernel
theorem dX2_needsLoadAhead_18 : decode cX2_needsLoadAhead 18 = .ok (.aload_n 1, 1) := by decide +kernel
theorem dX2_needsLoadAhead_19 : decode cX2_needsLoadAhead 19 = .ok (.invokevirtual 181, 3) := by decide +kernel
theorem dX2_needsLoadAhead_22 : decode cX2_needsLoadAhead 22 = .ok (.ifCond .eq 14, 3) := by decide +kernel
theorem dX2_needsLoadAhead_25 : decode cX2_needsLoadAhead 25 = .ok (.aload_n 2, 1) := by decide +kernel
theorem dX2_needsLoadAhead_26 : decode cX2_needsLoadAhead 26 = .ok (.aload_n 1, 1) := by decide +kernel
theorem dX2_needsLoadAhead_27 : decode cX2_needsLoadAhead 27 = .ok (.getfield 185, 3) := by decide +kernel
theorem dX2_needsLoadAhead_30 : decode cX2_needsLoadAhead 30 = .ok (.invokevirtual 155, 3) := by decide +kernel
theorem dX2_needsLoadAhead_33 : decode cX2_needsLoadAhead 33 = .ok (.ifCond .ne 21, 3) := by decide +kernel
theorem dX2_needsLoadAhead_36 : decode cX2_needsLoadAhead 36 = .ok (.aload_n 1, 1) := by decide +kernel
theorem dX2_needsLoadAhead_37 : decode cX2_needsLoadAhead 37 = .ok (.invokevirtual 188, 3) := by decide +kernel
theorem dX2_needsLoadAhead_40 : decode cX2_needsLoadAhead 40 = .ok (.ifCond .eq 18, 3) := by decide +kernel
theorem dX2_needsLoadAhead_43 : decode cX2_needsLoadAhead 43 = .ok (.aload_n 2, 1) := by decide +kernel
theorem dX2_needsLoadAhead_44 : decode cX2_needsLoadAhead 44 = .ok (.aload_n 1, 1) := by decide +kernel
theorem dX2_needsLoadAhead_45 : decode cX2_needsLoadAhead 45 = .ok (.getfield 191, 3) := by decide +kernel
theorem dX2_needsLoadAhead_48 : decode cX2_needsLoadAhead 48 = .ok (.invokevirtual 155, 3) := by decide +kernel
theorem dX2_needsLoadAhead_51 : decode cX2_needsLoadAhead 51 = .ok (.ifCond .eq 7, 3) := by decide +kernel
theorem dX2_needsLoadAhead_54 : decode cX2_needsLoadAhead 54 = .ok (.iconst 1, 1) := by decide +kernel
theorem dX2_needsLoadAhead_55 : decode cX2_needsLoadAhead 55 = .ok (.goto 4, 3) := by decide +kernel
theorem dX2_needsLoadAhead_58 : decode cX2_needsLoadAhead 58 = .ok (.iconst 0, 1) := by decide +kernel
theorem dX2_needsLoadAhead_59 : decode cX2_needsLoadAhead 59 = .ok (.ireturn, 1) := by decide +kernel
theorem dX2_finishWork_0 : decode cX2_finishWork 0 = .ok (.aload_n 0, 1) := by decide +kernel
theorem dX2_finishWork_1 : decode cX2_finishWork 1 = .ok (.aload_n 1, 1) := by decide +kernel
theorem dX2_finishWork_2 : decode cX2_finishWork 2 = .ok (.getfield 149, 3) := by decide +kernel
theorem dX2_finishWork_5 : decode cX2_finishWork 5 = .ok (.getfield 185, 3) := by decide +kernel
theorem dX2_finishWork_8 : decode cX2_finishWork 8 = .ok (.invokevirtual 194, 3) := by decide +kernel
theorem dX2_finishWork_11 : decode cX2_finishWork 11 = .ok (.istore_n 2, 1) := by decide +kernel
theorem dX2_finishWork_12 : decode cX2_finishWork 12 = .ok (.aload_n 0, 1) := by decide +kernel
theorem dX2_finishWork_13 : decode cX2_finishWork 13 = .ok (.aload_n 1, 1) := by decide +kernel
theorem dX2_finishWork_14 : decode cX2_finishWork 14 = .ok (.getfield 149, 3) := by decide +kernel
theorem dX2_finishWork_17 : decode cX2_finishWork 17 = .ok (.getfield 191, 3) := by decide +kernel
theorem dX2_finishWork_20 : decode cX2_finishWork 20 = .ok (.invokevirtual 194, 3) := by decide +kernel
theorem dX2_finishWork_23 : decode cX2_finishWork 23 = .ok (.istore_n 3, 1) := by decide +kernel
theorem dX2_finishWork_24 : decode cX2_finishWork 24 = .ok (.aload_n 1, 1) := by decide +kernel
theorem dX2_finishWork_25 : decode cX2_finishWork 25 = .ok (.getfield 136, 3) := by decide +kernel
theorem dX2_finishWork_28 : decode cX2_finishWork 28 = .ok (.ifCond .ne 16, 3) := by decide +kernel
theorem dX2_finishWork_31 : decode cX2_finishWork 31 = .ok (.aload_n 1, 1) := by decide +kernel
theorem dX2_finishWork_32 : decode cX2_finishWork 32 = .ok (.aload_n 1, 1) := by decide +kernel
theorem dX2_finishWork_33 : decode cX2_finishWork 33 = .ok (.getfield 149, 3) := by decide +kernel
theorem dX2_finishWork_36 : decode cX2_finishWork 36 = .ok (.iload_n 2, 1) := by decide +kernel
theorem dX2_finishWork_37 : decode cX2_finishWork 37 = .ok (.iload_n 3, 1) := by decide +kernel
theorem dX2_finishWork_38 : decode cX2_finishWork 38 = .ok (.invokestatic 198, 3) := by decide +kernel
theorem dX2_finishWork_41 : decode cX2_finishWork 41 = .ok (.putfield 136, 3) := by decide +kernel
theorem dX2_finishWork_44 : decode cX2_finishWork 44 = .ok (.aload_n 1, 1) := by decide +kernel
theorem dX2_finishWork_45 : decode cX2_finishWork 45 = .ok (.getfield 136, 3) := by decide +kernel
theorem dX2_finishWork_48 : decode cX2_finishWork 48 = .ok (.ifCond .eq 4, 3) := by decide +kernel
theorem dX2_finishWork_51 : decode cX2_finishWork 51 = .ok (.return_, 1) := by decide +kernel
theorem dX2_finishWork_52 : decode cX2_finishWork 52 = .ok (.aload_n 1, 1) := by decide +kernel
theorem dX2_finishWork_53 : decode cX2_finishWork 53 = .ok (.aload_n 1, 1) := by decide +kernel
theorem dX2_finishWork_54 : decode cX2_finishWork 54 = .ok (.iload_n 2, 1) := by decide +kernel
theorem dX2_finishWork_55 : decode cX2_finishWork 55 = .ok (.iload_n 3, 1) := by decide +kernel
theorem dX2_finishWork_56 : decode cX2_finishWork 56 = .ok (.invokestatic 202, 3) := by decide +kernel
theorem dX2_finishWork_59 : decode cX2_finishWork 59 = .ok (.putfield 158, 3) := by decide +kernel
theorem dX2_finishWork_62 : decode cX2_finishWork 62 = .ok (.aload_n 1, 1) := by decide +kernel
theorem dX2_finishWork_63 : decode cX2_finishWork 63 = .ok (.aload_n 1, 1) := by decide +kernel
theorem dX2_finishWork_64 : decode cX2_finishWork 64 = .ok (.getfield 149, 3) := by decide +kernel
theorem dX2_finishWork_67 : decode cX2_finishWork 67 = .ok (.invokevirtual 206, 3) := by decide +kernel
theorem dX2_finishWork_70 : decode cX2_finishWork 70 = .ok (.ifCond .eq 15, 3) := by decide +kernel
theorem dX2_finishWork_73 : decode cX2_finishWork 73 = .ok (.iload_n 2, 1) := by decide +kernel
theorem dX2_finishWork_74 : decode cX2_finishWork 74 = .ok (.aload_n 1, 1) := by decide +kernel
theorem dX2_finishWork_75 : decode cX2_finishWork 75 = .ok (.getfield 149, 3) := by decide +kernel
theorem dX2_finishWork_78 : decode cX2_finishWork 78 = .ok (.getfield 209, 3) := by decide +kernel
theorem dX2_finishWork_81 : decode cX2_finishWork 81 = .ok (.iadd, 1) := by decide +kernel
theorem dX2_finishWork_82 : decode cX2_finishWork 82 = .ok (.goto 4, 3) := by decide +kernel
theorem dX2_finishWork_85 : decode cX2_finishWork 85 = .ok (.iconst 0, 1) := by decide +kernel
theorem dX2_finishWork_86 : decode cX2_finishWork 86 = .ok (.putfield 164, 3) := by decide +kernel
theorem dX2_finishWork_89 : decode cX2_finishWork 89 = .ok (.aload_n 1, 1) := by decide +kernel
theorem dX2_finishWork_90 : decode cX2_finishWork 90 = .ok (.getfield 149, 3) := by decide +kernel
theorem dX2_finishWork_93 : decode cX2_finishWork 93 = .ok (.getfield 212, 3) := by decide +kernel
theorem dX2_finishWork_96 : decode cX2_finishWork 96 = .ok (.iload_n 2, 1) := by decide +kernel
theorem dX2_finishWork_97 : decode cX2_finishWork 97 = .ok (.iload_n 3, 1) := by decide +kernel
theorem dX2_finishWork_98 : decode cX2_finishWork 98 = .ok (.invokestatic 215, 3) := by decide +kernel
theorem dX2_finishWork_101 : decode cX2_finishWork 101 = .ok (.istore 4, 2) := by decide +kernel
theorem dX2_finishWork_103 : decode cX2_finishWork 103 = .ok (.aload_n 1, 1) := by decide +kernel
theorem dX2_finishWork_104 : decode cX2_finishWork 104 = .ok (.getfield 149, 3) := by decide +kernel
theorem dX2_finishWork_107 : decode cX2_finishWork 107 = .ok (.invokevirtual 219, 3) := by decide +kernel
theorem dX2_finishWork_110 : decode cX2_finishWork 110 = .ok (.ifCond .eq 13, 3) := by decide +kernel
theorem dX2_finishWork_113 : decode cX2_finishWork 113 = .ok (.aload_n 0, 1) := by decide +kernel
theorem dX2_finishWork_114 : decode cX2_finishWork 114 = .ok (.aload_n 1, 1) := by decide +kernel
theorem dX2_finishWork_115 : decode cX2_finishWork 115 = .ok (.getfield 83, 3) := by decide +kernel
theorem dX2_finishWork_118 : decode cX2_finishWork 118 = .ok (.iload 4, 2) := by decide +kernel
theorem dX2_finishWork_120 : decode cX2_finishWork 120 = .ok (.invokevirtual 222, 3) := by decide +kernel
theorem dX2_finishWork_123 : decode cX2_finishWork 123 = .ok (.aload_n 0, 1) := by decide +kernel
theorem dX2_finishWork_124 : decode cX2_finishWork 124 = .ok (.aload_n 1, 1) := by decide +kernel
theorem dX2_finishWork_125 : decode cX2_finishWork 125 = .ok (.iload 4, 2) := by decide +kernel
theorem dX2_finishWork_127 : decode cX2_finishWork 127 = .ok (.ifCond .eq 11, 3) := by decide +kernel
theorem dX2_finishWork_130 : decode cX2_finishWork 130 = .ok (.aload_n 1, 1) := by decide +kernel
theorem dX2_finishWork_131 : decode cX2_finishWork 131 = .ok (.iload_n 2, 1) := by decide +kernel
theorem dX2_finishWork_132 : decode cX2_finishWork 132 = .ok (.invokestatic 226, 3) := by decide +kernel
theorem dX2_finishWork_135 : decode cX2_finishWork 135 = .ok (.goto 9, 3) := by decide +kernel
theorem dX2_finishWork_138 : decode cX2_finishWork 138 = .ok (.aload_n 1, 1) := by decide +kernel
theorem dX2_finishWork_139 : decode cX2_finishWork 139 = .ok (.getfield 83, 3) := by decide +kernel
theorem dX2_finishWork_142 : decode cX2_finishWork 142 = .ok (.iconst 1, 1) := by decide +kernel
theorem dX2_finishWork_143 : decode cX2_finishWork 143 = .ok (.iadd, 1) := by decide +kernel
theorem dX2_finishWork_144 : decode cX2_finishWork 144 = .ok (.invokevirtual 230, 3) := by decide +kernel
theorem dX2_finishWork_147 : decode cX2_finishWork 147 = .ok (.return_, 1) := by decide +kernel
theorem dX2_handedOn_0 : decode cX2_handedOn 0 = .ok (.aload_n 0, 1) := by decide +kernel
theorem dX2_handedOn_1 : decode cX2_handedOn 1 = .ok (.getfield 34, 3) := by decide +kernel
theorem dX2_handedOn_4 : decode cX2_handedOn 4 = .ok (.iconst 4, 1) := by decide +kernel
theorem dX2_handedOn_5 : decode cX2_handedOn 5 = .ok (.aaload, 1) := by decide +kernel
theorem dX2_handedOn_6 : decode cX2_handedOn 6 = .ok (.astore_n 2, 1) := by decide +kernel
theorem dX2_handedOn_7 : decode cX2_handedOn 7 = .ok (.aload_n 2, 1) := by decide +kernel
theorem dX2_handedOn_8 : decode cX2_handedOn 8 = .ok (.iload_n 1, 1) := by decide +kernel
theorem dX2_handedOn_9 : decode cX2_handedOn 9 = .ok (.invokevirtual 155, 3) := by decide +kernel
theorem dX2_handedOn_12 : decode cX2_handedOn 12 = .ok (.ifCond .eq 10, 3) := by decide +kernel
theorem dX2_handedOn_15 : decode cX2_handedOn 15 = .ok (.aload_n 2, 1) := by decide +kernel
theorem dX2_handedOn_16 : decode cX2_handedOn 16 = .ok (.getfield 158, 3) := by decide +kernel
theorem dX2_handedOn_19 : decode cX2_handedOn 19 = .ok (.goto 9, 3) := by decide +kernel
theorem dX2_handedOn_22 : decode cX2_handedOn 22 = .ok (.aload_n 0, 1) := by decide +kernel
theorem dX2_handedOn_23 : decode cX2_handedOn 23 = .ok (.getfield 26, 3) := by decide +kernel
theorem dX2_handedOn_26 : decode cX2_handedOn 26 = .ok (.iload_n 1, 1) := by decide +kernel
theorem dX2_handedOn_27 : decode cX2_handedOn 27 = .ok (.iaload, 1) := by decide +kernel
theorem dX2_handedOn_28 : decode cX2_handedOn 28 = .ok (.ireturn, 1) := by decide +kernel
theorem dX2_faultOf_0 : decode cX2_faultOf 0 = .ok (.aload_n 0, 1) := by decide +kernel
theorem dX2_faultOf_1 : decode cX2_faultOf 1 = .ok (.getfield 212, 3) := by decide +kernel
theorem dX2_faultOf_4 : decode cX2_faultOf 4 = .ok (.bipush 17, 2) := by decide +kernel
theorem dX2_faultOf_6 : decode cX2_faultOf 6 = .ok (.if_icmp .ne 5, 3) := by decide +kernel
theorem dX2_faultOf_9 : decode cX2_faultOf 9 = .ok (.iconst 2, 1) := by decide +kernel
theorem dX2_faultOf_10 : decode cX2_faultOf 10 = .ok (.ireturn, 1) := by decide +kernel
theorem dX2_faultOf_11 : decode cX2_faultOf 11 = .ok (.aload_n 0, 1) := by decide +kernel
theorem dX2_faultOf_12 : decode cX2_faultOf 12 = .ok (.invokevirtual 206, 3) := by decide +kernel
theorem dX2_faultOf_15 : decode cX2_faultOf 15 = .ok (.ifCond .eq 17, 3) := by decide +kernel
theorem dX2_faultOf_18 : decode cX2_faultOf 18 = .ok (.iload_n 1, 1) := by decide +kernel
theorem dX2_faultOf_19 : decode cX2_faultOf 19 = .ok (.aload_n 0, 1) := by decide +kernel
theorem dX2_faultOf_20 : decode cX2_faultOf 20 = .ok (.getfield 209, 3) := by decide +kernel
theorem dX2_faultOf_23 : decode cX2_faultOf 23 = .ok (.iadd, 1) := by decide +kernel
theorem dX2_faultOf_24 : decode cX2_faultOf 24 = .ok (.invokestatic 234, 3) := by decide +kernel
theorem dX2_faultOf_27 : decode cX2_faultOf 27 = .ok (.ifCond .ne 5, 3) := by decide +kernel
theorem dX2_faultOf_30 : decode cX2_faultOf 30 = .ok (.iconst 3, 1) := by decide +kernel
theorem dX2_faultOf_31 : decode cX2_faultOf 31 = .ok (.ireturn, 1) := by decide +kernel
theorem dX2_faultOf_32 : decode cX2_faultOf 32 = .ok (.aload_n 0, 1) := by decide +kernel
theorem dX2_faultOf_33 : decode cX2_faultOf 33 = .ok (.getfield 212, 3) := by decide +kernel
theorem dX2_faultOf_36 : decode cX2_faultOf 36 = .ok (.bipush 8, 2) := by decide +kernel
theorem dX2_faultOf_38 : decode cX2_faultOf 38 = .ok (.if_icmp .ne 11, 3) := by decide +kernel
theorem dX2_faultOf_41 : decode cX2_faultOf 41 = .ok (.iload_n 2, 1) := by decide +kernel
theorem dX2_faultOf_42 : decode cX2_faultOf 42 = .ok (.ifCond .ne 7, 3) := by decide +kernel
theorem dX2_faultOf_45 : decode cX2_faultOf 45 = .ok (.iconst 4, 1) := by decide +kernel
theorem dX2_faultOf_46 : decode cX2_faultOf 46 = .ok (.goto 4, 3) := by decide +kernel
theorem dX2_faultOf_49 : decode cX2_faultOf 49 = .ok (.iconst 0, 1) := by decide +kernel
theorem dX2_faultOf_50 : decode cX2_faultOf 50 = .ok (.ireturn, 1) := by decide +kernel
theorem dX2_isWord_0 : decode cX2_isWord 0 = .ok (.iload_n 0, 1) := by decide +kernel
theorem dX2_isWord_1 : decode cX2_isWord 1 = .ok (.ifCond .lt 13, 3) := by decide +kernel
theorem dX2_isWord_4 : decode cX2_isWord 4 = .ok (.iload_n 0, 1) := by decide +kernel
theorem dX2_isWord_5 : decode cX2_isWord 5 = .ok (.bipush 32, 2) := by decide +kernel
theorem dX2_isWord_7 : decode cX2_isWord 7 = .ok (.if_icmp .ge 7, 3) := by decide +kernel
theorem dX2_isWord_10 : decode cX2_isWord 10 = .ok (.iconst 1, 1) := by decide +kernel
theorem dX2_isWord_11 : decode cX2_isWord 11 = .ok (.goto 4, 3) := by decide +kernel
theorem dX2_isWord_14 : decode cX2_isWord 14 = .ok (.iconst 0, 1) := by decide +kernel
theorem dX2_isWord_15 : decode cX2_isWord 15 = .ok (.ireturn, 1) := by decide +kernel
theorem dX2_valueOf_0 : decode cX2_valueOf 0 = .ok (.aload_n 0, 1) := by decide +kernel
theorem dX2_valueOf_1 : decode cX2_valueOf 1 = .ok (.getfield 149, 3) := by decide +kernel
theorem dX2_valueOf_4 : decode cX2_valueOf 4 = .ok (.getfield 212, 3) := by decide +kernel
theorem dX2_valueOf_7 : decode cX2_valueOf 7 = .ok (.tableswitch 169 0 16 #[81, 85, 89, 93, 97, 101, 108, 119, 123, 135, 145, 169, 153, 169, 169, 155, 162], 81) := by decide +kernel
theorem dX2_valueOf_88 : decode cX2_valueOf 88 = .ok (.iload_n 1, 1) := by decide +kernel
theorem dX2_valueOf_89 : decode cX2_valueOf 89 = .ok (.iload_n 2, 1) := by decide +kernel
theorem dX2_valueOf_90 : decode cX2_valueOf 90 = .ok (.iadd, 1) := by decide +kernel
theorem dX2_valueOf_91 : decode cX2_valueOf 91 = .ok (.ireturn, 1) := by decide +kernel
theorem dX2_valueOf_92 : decode cX2_valueOf 92 = .ok (.iload_n 1, 1) := by decide +kernel
theorem dX2_valueOf_93 : decode cX2_valueOf 93 = .ok (.iload_n 2, 1) := by decide +kernel
theorem dX2_valueOf_94 : decode cX2_valueOf 94 = .ok (.isub, 1) := by decide +kernel
theorem dX2_valueOf_95 : decode cX2_valueOf 95 = .ok (.ireturn, 1) := by decide +kernel
theorem dX2_valueOf_96 : decode cX2_valueOf 96 = .ok (.iload_n 1, 1) := by decide +kernel
theorem dX2_valueOf_97 : decode cX2_valueOf 97 = .ok (.iload_n 2, 1) := by decide +kernel
theorem dX2_valueOf_98 : decode cX2_valueOf 98 = .ok (.iand, 1) := by decide +kernel
theorem dX2_valueOf_99 : decode cX2_valueOf 99 = .ok (.ireturn, 1) := by decide +kernel
theorem dX2_valueOf_100 : decode cX2_valueOf 100 = .ok (.iload_n 1, 1) := by decide +kernel
theorem dX2_valueOf_101 : decode cX2_valueOf 101 = .ok (.iload_n 2, 1) := by decide +kernel
theorem dX2_valueOf_102 : decode cX2_valueOf 102 = .ok (.ior, 1) := by decide +kernel
theorem dX2_valueOf_103 : decode cX2_valueOf 103 = .ok (.ireturn, 1) := by decide +kernel
theorem dX2_valueOf_104 : decode cX2_valueOf 104 = .ok (.iload_n 1, 1) := by decide +kernel
theorem dX2_valueOf_105 : decode cX2_valueOf 105 = .ok (.iload_n 2, 1) := by decide +kernel
theorem dX2_valueOf_106 : decode cX2_valueOf 106 = .ok (.ixor, 1) := by decide +kernel
theorem dX2_valueOf_107 : decode cX2_valueOf 107 = .ok (.ireturn, 1) := by decide +kernel
theorem dX2_valueOf_108 : decode cX2_valueOf 108 = .ok (.iload_n 1, 1) := by decide +kernel
theorem dX2_valueOf_109 : decode cX2_valueOf 109 = .ok (.iload_n 2, 1) := by decide +kernel
theorem dX2_valueOf_110 : decode cX2_valueOf 110 = .ok (.bipush 31, 2) := by decide +kernel
theorem dX2_valueOf_112 : decode cX2_valueOf 112 = .ok (.iand, 1) := by decide +kernel
theorem dX2_valueOf_113 : decode cX2_valueOf 113 = .ok (.ishl, 1) := by decide +kernel
theorem dX2_valueOf_114 : decode cX2_valueOf 114 = .ok (.ireturn, 1) := by decide +kernel
theorem dX2_valueOf_115 : decode cX2_valueOf 115 = .ok (.iload_n 1, 1) := by decide +kernel
theorem dX2_valueOf_116 : decode cX2_valueOf 116 = .ok (.iload_n 2, 1) := by decide +kernel
theorem dX2_valueOf_117 : decode cX2_valueOf 117 = .ok (.if_icmp .ge 7, 3) := by decide +kernel
theorem dX2_valueOf_120 : decode cX2_valueOf 120 = .ok (.iconst 1, 1) := by decide +kernel
theorem dX2_valueOf_121 : decode cX2_valueOf 121 = .ok (.goto 4, 3) := by decide +kernel
theorem dX2_valueOf_124 : decode cX2_valueOf 124 = .ok (.iconst 0, 1) := by decide +kernel
theorem dX2_valueOf_125 : decode cX2_valueOf 125 = .ok (.ireturn, 1) := by decide +kernel
theorem dX2_valueOf_126 : decode cX2_valueOf 126 = .ok (.iload_n 1, 1) := by decide +kernel
theorem dX2_valueOf_127 : decode cX2_valueOf 127 = .ok (.iload_n 2, 1) := by decide +kernel
theorem dX2_valueOf_128 : decode cX2_valueOf 128 = .ok (.imul, 1) := by decide +kernel
theorem dX2_valueOf_129 : decode cX2_valueOf 129 = .ok (.ireturn, 1) := by decide +kernel
theorem dX2_valueOf_130 : decode cX2_valueOf 130 = .ok (.iload_n 2, 1) := by decide +kernel
theorem dX2_valueOf_131 : decode cX2_valueOf 131 = .ok (.ifCond .ne 7, 3) := by decide +kernel
theorem dX2_valueOf_134 : decode cX2_valueOf 134 = .ok (.iconst 0, 1) := by decide +kernel
theorem dX2_valueOf_135 : decode cX2_valueOf 135 = .ok (.goto 6, 3) := by decide +kernel
theorem dX2_valueOf_138 : decode cX2_valueOf 138 = .ok (.iload_n 1, 1) := by decide +kernel
theorem dX2_valueOf_139 : decode cX2_valueOf 139 = .ok (.iload_n 2, 1) := by decide +kernel
theorem dX2_valueOf_140 : decode cX2_valueOf 140 = .ok (.idiv, 1) := by decide +kernel
theorem dX2_valueOf_141 : decode cX2_valueOf 141 = .ok (.ireturn, 1) := by decide +kernel
theorem dX2_valueOf_142 : decode cX2_valueOf 142 = .ok (.iload_n 1, 1) := by decide +kernel
theorem dX2_valueOf_143 : decode cX2_valueOf 143 = .ok (.aload_n 0, 1) := by decide +kernel
theorem dX2_valueOf_144 : decode cX2_valueOf 144 = .ok (.getfield 149, 3) := by decide +kernel
theorem dX2_valueOf_147 : decode cX2_valueOf 147 = .ok (.getfield 209, 3) := by decide +kernel
theorem dX2_valueOf_150 : decode cX2_valueOf 150 = .ok (.iadd, 1) := by decide +kernel
theorem dX2_valueOf_151 : decode cX2_valueOf 151 = .ok (.ireturn, 1) := by decide +kernel
theorem dX2_valueOf_152 : decode cX2_valueOf 152 = .ok (.aload_n 0, 1) := by decide +kernel
theorem dX2_valueOf_153 : decode cX2_valueOf 153 = .ok (.getfield 149, 3) := by decide +kernel
theorem dX2_valueOf_156 : decode cX2_valueOf 156 = .ok (.getfield 209, 3) := by decide +kernel
theorem dX2_valueOf_159 : decode cX2_valueOf 159 = .ok (.ireturn, 1) := by decide +kernel
theorem dX2_valueOf_160 : decode cX2_valueOf 160 = .ok (.iload_n 2, 1) := by decide +kernel
theorem dX2_valueOf_161 : decode cX2_valueOf 161 = .ok (.ireturn, 1) := by decide +kernel
theorem dX2_valueOf_162 : decode cX2_valueOf 162 = .ok (.aload_n 0, 1) := by decide +kernel
theorem dX2_valueOf_163 : decode cX2_valueOf 163 = .ok (.getfield 83, 3) := by decide +kernel
theorem dX2_valueOf_166 : decode cX2_valueOf 166 = .ok (.iconst 1, 1) := by decide +kernel
theorem dX2_valueOf_167 : decode cX2_valueOf 167 = .ok (.iadd, 1) := by decide +kernel
theorem dX2_valueOf_168 : decode cX2_valueOf 168 = .ok (.ireturn, 1) := by decide +kernel
theorem dX2_valueOf_169 : decode cX2_valueOf 169 = .ok (.aload_n 0, 1) := by decide +kernel
theorem dX2_valueOf_170 : decode cX2_valueOf 170 = .ok (.getfield 83, 3) := by decide +kernel
theorem dX2_valueOf_173 : decode cX2_valueOf 173 = .ok (.iconst 1, 1) := by decide +kernel
theorem dX2_valueOf_174 : decode cX2_valueOf 174 = .ok (.iadd, 1) := by decide +kernel
theorem dX2_valueOf_175 : decode cX2_valueOf 175 = .ok (.ireturn, 1) := by decide +kernel
theorem dX2_valueOf_176 : decode cX2_valueOf 176 = .ok (.iconst 0, 1) := by decide +kernel
theorem dX2_valueOf_177 : decode cX2_valueOf 177 = .ok (.ireturn, 1) := by decide +kernel
theorem dX2_goesElsewhere_0 : decode cX2_goesElsewhere 0 = .ok (.iload_n 0, 1) := by decide +kernel
theorem dX2_goesElsewhere_1 : decode cX2_goesElsewhere 1 = .ok (.tableswitch 57 13 16 #[31, 42, 53, 55], 31) := by decide +kernel
theorem dX2_goesElsewhere_32 : decode cX2_goesElsewhere 32 = .ok (.iload_n 1, 1) := by decide +kernel
theorem dX2_goesElsewhere_33 : decode cX2_goesElsewhere 33 = .ok (.iload_n 2, 1) := by decide +kernel
theorem dX2_goesElsewhere_34 : decode cX2_goesElsewhere 34 = .ok (.if_icmp .ne 7, 3) := by decide +kernel
theorem dX2_goesElsewhere_37 : decode cX2_goesElsewhere 37 = .ok (.iconst 1, 1) := by decide +kernel
theorem dX2_goesElsewhere_38 : decode cX2_goesElsewhere 38 = .ok (.goto 4, 3) := by decide +kernel
theorem dX2_goesElsewhere_41 : decode cX2_goesElsewhere 41 = .ok (.iconst 0, 1) := by decide +kernel
theorem dX2_goesElsewhere_42 : decode cX2_goesElsewhere 42 = .ok (.ireturn, 1) := by decide +kernel
theorem dX2_goesElsewhere_43 : decode cX2_goesElsewhere 43 = .ok (.iload_n 1, 1) := by decide +kernel
theorem dX2_goesElsewhere_44 : decode cX2_goesElsewhere 44 = .ok (.iload_n 2, 1) := by decide +kernel
theorem dX2_goesElsewhere_45 : decode cX2_goesElsewhere 45 = .ok (.if_icmp .eq 7, 3) := by decide +kernel
theorem dX2_goesElsewhere_48 : decode cX2_goesElsewhere 48 = .ok (.iconst 1, 1) := by decide +kernel
theorem dX2_goesElsewhere_49 : decode cX2_goesElsewhere 49 = .ok (.goto 4, 3) := by decide +kernel
theorem dX2_goesElsewhere_52 : decode cX2_goesElsewhere 52 = .ok (.iconst 0, 1) := by decide +kernel
theorem dX2_goesElsewhere_53 : decode cX2_goesElsewhere 53 = .ok (.ireturn, 1) := by decide +kernel
theorem dX2_goesElsewhere_54 : decode cX2_goesElsewhere 54 = .ok (.iconst 1, 1) := by decide +kernel
theorem dX2_goesElsewhere_55 : decode cX2_goesElsewhere 55 = .ok (.ireturn, 1) := by decide +kernel
theorem dX2_goesElsewhere_56 : decode cX2_goesElsewhere 56 = .ok (.iconst 1, 1) := by decide +kernel
theorem dX2_goesElsewhere_57 : decode cX2_goesElsewhere 57 = .ok (.ireturn, 1) := by decide +kernel
theorem dX2_goesElsewhere_58 : decode cX2_goesElsewhere 58 = .ok (.iconst 0, 1) := by decide +kernel
theorem dX2_goesElsewhere_59 : decode cX2_goesElsewhere 59 = .ok (.ireturn, 1) := by decide +kernel
theorem dX2_target_0 : decode cX2_target 0 = .ok (.aload_n 0, 1) := by decide +kernel
theorem dX2_target_1 : decode cX2_target 1 = .ok (.getfield 149, 3) := by decide +kernel
theorem dX2_target_4 : decode cX2_target 4 = .ok (.getfield 212, 3) := by decide +kernel
theorem dX2_target_7 : decode cX2_target 7 = .ok (.bipush 16, 2) := by decide +kernel
theorem dX2_target_9 : decode cX2_target 9 = .ok (.if_icmp .ne 7, 3) := by decide +kernel
theorem dX2_target_12 : decode cX2_target 12 = .ok (.iload_n 1, 1) := by decide +kernel
theorem dX2_target_13 : decode cX2_target 13 = .ok (.goto 7, 3) := by decide +kernel
theorem dX2_target_16 : decode cX2_target 16 = .ok (.aload_n 0, 1) := by decide +kernel
theorem dX2_target_17 : decode cX2_target 17 = .ok (.getfield 83, 3) := by decide +kernel
theorem dX2_target_20 : decode cX2_target 20 = .ok (.istore_n 2, 1) := by decide +kernel
theorem dX2_target_21 : decode cX2_target 21 = .ok (.iload_n 2, 1) := by decide +kernel
theorem dX2_target_22 : decode cX2_target 22 = .ok (.aload_n 0, 1) := by decide +kernel
theorem dX2_target_23 : decode cX2_target 23 = .ok (.getfield 149, 3) := by decide +kernel
theorem dX2_target_26 : decode cX2_target 26 = .ok (.getfield 209, 3) := by decide +kernel
theorem dX2_target_29 : decode cX2_target 29 = .ok (.iadd, 1) := by decide +kernel
theorem dX2_target_30 : decode cX2_target 30 = .ok (.ireturn, 1) := by decide +kernel
theorem dX2_learn_0 : decode cX2_learn 0 = .ok (.iload_n 1, 1) := by decide +kernel
theorem dX2_learn_1 : decode cX2_learn 1 = .ok (.bipush 8, 2) := by decide +kernel
theorem dX2_learn_3 : decode cX2_learn 3 = .ok (.invokestatic 161, 3) := by decide +kernel
theorem dX2_learn_6 : decode cX2_learn 6 = .ok (.istore_n 3, 1) := by decide +kernel
theorem dX2_learn_7 : decode cX2_learn 7 = .ok (.aload_n 0, 1) := by decide +kernel
theorem dX2_learn_8 : decode cX2_learn 8 = .ok (.getfield 29, 3) := by decide +kernel
theorem dX2_learn_11 : decode cX2_learn 11 = .ok (.iload_n 3, 1) := by decide +kernel
theorem dX2_learn_12 : decode cX2_learn 12 = .ok (.iaload, 1) := by decide +kernel
theorem dX2_learn_13 : decode cX2_learn 13 = .ok (.iload_n 2, 1) := by decide +kernel
theorem dX2_learn_14 : decode cX2_learn 14 = .ok (.ifCond .eq 7, 3) := by decide +kernel
theorem dX2_learn_17 : decode cX2_learn 17 = .ok (.iconst 1, 1) := by decide +kernel
theorem dX2_learn_18 : decode cX2_learn 18 = .ok (.goto 4, 3) := by decide +kernel
theorem dX2_learn_21 : decode cX2_learn 21 = .ok (.iconst (-1), 1) := by decide +kernel
theorem dX2_learn_22 : decode cX2_learn 22 = .ok (.iadd, 1) := by decide +kernel
theorem dX2_learn_23 : decode cX2_learn 23 = .ok (.istore 4, 2) := by decide +kernel
theorem dX2_learn_25 : decode cX2_learn 25 = .ok (.aload_n 0, 1) := by decide +kernel
theorem dX2_learn_26 : decode cX2_learn 26 = .ok (.getfield 29, 3) := by decide +kernel
theorem dX2_learn_29 : decode cX2_learn 29 = .ok (.iload_n 3, 1) := by decide +kernel
theorem dX2_learn_30 : decode cX2_learn 30 = .ok (.iconst 0, 1) := by decide +kernel
theorem dX2_learn_31 : decode cX2_learn 31 = .ok (.iconst 3, 1) := by decide +kernel
theorem dX2_learn_32 : decode cX2_learn 32 = .ok (.iload 4, 2) := by decide +kernel
theorem dX2_learn_34 : decode cX2_learn 34 = .ok (.invokestatic 86, 3) := by decide +kernel
theorem dX2_learn_37 : decode cX2_learn 37 = .ok (.invokestatic 237, 3) := by decide +kernel
theorem dX2_learn_40 : decode cX2_learn 40 = .ok (.iastore, 1) := by decide +kernel
theorem dX2_learn_41 : decode cX2_learn 41 = .ok (.return_, 1) := by decide +kernel
theorem dX2_holdAgainstGuess_0 : decode cX2_holdAgainstGuess 0 = .ok (.iload_n 2, 1) := by decide +kernel
theorem dX2_holdAgainstGuess_1 : decode cX2_holdAgainstGuess 1 = .ok (.aload_n 1, 1) := by decide +kernel
theorem dX2_holdAgainstGuess_2 : decode cX2_holdAgainstGuess 2 = .ok (.getfield 240, 3) := by decide +kernel
theorem dX2_holdAgainstGuess_5 : decode cX2_holdAgainstGuess 5 = .ok (.if_icmp .eq 23, 3) := by decide +kernel
theorem dX2_holdAgainstGuess_8 : decode cX2_holdAgainstGuess 8 = .ok (.aload_n 0, 1) := by decide +kernel
theorem dX2_holdAgainstGuess_9 : decode cX2_holdAgainstGuess 9 = .ok (.dup, 1) := by decide +kernel
theorem dX2_holdAgainstGuess_10 : decode cX2_holdAgainstGuess 10 = .ok (.getfield 98, 3) := by decide +kernel
theorem dX2_holdAgainstGuess_13 : decode cX2_holdAgainstGuess 13 = .ok (.iconst 1, 1) := by decide +kernel
theorem dX2_holdAgainstGuess_14 : decode cX2_holdAgainstGuess 14 = .ok (.iadd, 1) := by decide +kernel
theorem dX2_holdAgainstGuess_15 : decode cX2_holdAgainstGuess 15 = .ok (.putfield 98, 3) := by decide +kernel
theorem dX2_holdAgainstGuess_18 : decode cX2_holdAgainstGuess 18 = .ok (.aload_n 0, 1) := by decide +kernel
theorem dX2_holdAgainstGuess_19 : decode cX2_holdAgainstGuess 19 = .ok (.iconst 2, 1) := by decide +kernel
theorem dX2_holdAgainstGuess_20 : decode cX2_holdAgainstGuess 20 = .ok (.invokevirtual 59, 3) := by decide +kernel
theorem dX2_holdAgainstGuess_23 : decode cX2_holdAgainstGuess 23 = .ok (.aload_n 0, 1) := by decide +kernel
theorem dX2_holdAgainstGuess_24 : decode cX2_holdAgainstGuess 24 = .ok (.iload_n 2, 1) := by decide +kernel
theorem dX2_holdAgainstGuess_25 : decode cX2_holdAgainstGuess 25 = .ok (.putfield 63, 3) := by decide +kernel
theorem dX2_holdAgainstGuess_28 : decode cX2_holdAgainstGuess 28 = .ok (.return_, 1) := by decide +kernel
theorem dX2_emptyStagesBelow_0 : decode cX2_emptyStagesBelow 0 = .ok (.iconst 0, 1) := by decide +kernel
theorem dX2_emptyStagesBelow_1 : decode cX2_emptyStagesBelow 1 = .ok (.istore_n 2, 1) := by decide +kernel
theorem dX2_emptyStagesBelow_2 : decode cX2_emptyStagesBelow 2 = .ok (.iload_n 2, 1) := by decide +kernel
theorem dX2_emptyStagesBelow_3 : decode cX2_emptyStagesBelow 3 = .ok (.iload_n 1, 1) := by decide +kernel
theorem dX2_emptyStagesBelow_4 : decode cX2_emptyStagesBelow 4 = .ok (.if_icmp .ge 19, 3) := by decide +kernel
theorem dX2_emptyStagesBelow_7 : decode cX2_emptyStagesBelow 7 = .ok (.aload_n 0, 1) := by decide +kernel
theorem dX2_emptyStagesBelow_8 : decode cX2_emptyStagesBelow 8 = .ok (.getfield 34, 3) := by decide +kernel
theorem dX2_emptyStagesBelow_11 : decode cX2_emptyStagesBelow 11 = .ok (.iload_n 2, 1) := by decide +kernel
theorem dX2_emptyStagesBelow_12 : decode cX2_emptyStagesBelow 12 = .ok (.aaload, 1) := by decide +kernel
theorem dX2_emptyStagesBelow_13 : decode cX2_emptyStagesBelow 13 = .ok (.iconst 0, 1) := by decide +kernel
theorem dX2_emptyStagesBelow_14 : decode cX2_emptyStagesBelow 14 = .ok (.putfield 80, 3) := by decide +kernel
theorem dX2_emptyStagesBelow_17 : decode cX2_emptyStagesBelow 17 = .ok (.iinc 2 1, 3) := by decide +kernel
theorem dX2_emptyStagesBelow_20 : decode cX2_emptyStagesBelow 20 = .ok (.goto (-18), 3) := by decide +kernel
theorem dX2_emptyStagesBelow_23 : decode cX2_emptyStagesBelow 23 = .ok (.return_, 1) := by decide +kernel
theorem dX2_moveOnIfFree_0 : decode cX2_moveOnIfFree 0 = .ok (.aload_n 0, 1) := by decide +kernel
theorem dX2_moveOnIfFree_1 : decode cX2_moveOnIfFree 1 = .ok (.getfield 34, 3) := by decide +kernel
theorem dX2_moveOnIfFree_4 : decode cX2_moveOnIfFree 4 = .ok (.iload_n 1, 1) := by decide +kernel
theorem dX2_moveOnIfFree_5 : decode cX2_moveOnIfFree 5 = .ok (.iconst 1, 1) := by decide +kernel
theorem dX2_moveOnIfFree_6 : decode cX2_moveOnIfFree 6 = .ok (.iadd, 1) := by decide +kernel
theorem dX2_moveOnIfFree_7 : decode cX2_moveOnIfFree 7 = .ok (.aaload, 1) := by decide +kernel
theorem dX2_moveOnIfFree_8 : decode cX2_moveOnIfFree 8 = .ok (.getfield 80, 3) := by decide +kernel
theorem dX2_moveOnIfFree_11 : decode cX2_moveOnIfFree 11 = .ok (.ifCond .ne 33, 3) := by decide +kernel
theorem dX2_moveOnIfFree_14 : decode cX2_moveOnIfFree 14 = .ok (.aload_n 0, 1) := by decide +kernel
theorem dX2_moveOnIfFree_15 : decode cX2_moveOnIfFree 15 = .ok (.getfield 34, 3) := by decide +kernel
theorem dX2_moveOnIfFree_18 : decode cX2_moveOnIfFree 18 = .ok (.iload_n 1, 1) := by decide +kernel
theorem dX2_moveOnIfFree_19 : decode cX2_moveOnIfFree 19 = .ok (.aaload, 1) := by decide +kernel
theorem dX2_moveOnIfFree_20 : decode cX2_moveOnIfFree 20 = .ok (.astore_n 2, 1) := by decide +kernel
theorem dX2_moveOnIfFree_21 : decode cX2_moveOnIfFree 21 = .ok (.aload_n 0, 1) := by decide +kernel
theorem dX2_moveOnIfFree_22 : decode cX2_moveOnIfFree 22 = .ok (.getfield 34, 3) := by decide +kernel
theorem dX2_moveOnIfFree_25 : decode cX2_moveOnIfFree 25 = .ok (.iload_n 1, 1) := by decide +kernel
theorem dX2_moveOnIfFree_26 : decode cX2_moveOnIfFree 26 = .ok (.aload_n 0, 1) := by decide +kernel
theorem dX2_moveOnIfFree_27 : decode cX2_moveOnIfFree 27 = .ok (.getfield 34, 3) := by decide +kernel
theorem dX2_moveOnIfFree_30 : decode cX2_moveOnIfFree 30 = .ok (.iload_n 1, 1) := by decide +kernel
theorem dX2_moveOnIfFree_31 : decode cX2_moveOnIfFree 31 = .ok (.iconst 1, 1) := by decide +kernel
theorem dX2_moveOnIfFree_32 : decode cX2_moveOnIfFree 32 = .ok (.iadd, 1) := by decide +kernel
theorem dX2_moveOnIfFree_33 : decode cX2_moveOnIfFree 33 = .ok (.aaload, 1) := by decide +kernel
theorem dX2_moveOnIfFree_34 : decode cX2_moveOnIfFree 34 = .ok (.aastore, 1) := by decide +kernel
theorem dX2_moveOnIfFree_35 : decode cX2_moveOnIfFree 35 = .ok (.aload_n 0, 1) := by decide +kernel
theorem dX2_moveOnIfFree_36 : decode cX2_moveOnIfFree 36 = .ok (.getfield 34, 3) := by decide +kernel
theorem dX2_moveOnIfFree_39 : decode cX2_moveOnIfFree 39 = .ok (.iload_n 1, 1) := by decide +kernel
theorem dX2_moveOnIfFree_40 : decode cX2_moveOnIfFree 40 = .ok (.iconst 1, 1) := by decide +kernel
theorem dX2_moveOnIfFree_41 : decode cX2_moveOnIfFree 41 = .ok (.iadd, 1) := by decide +kernel
theorem dX2_moveOnIfFree_42 : decode cX2_moveOnIfFree 42 = .ok (.aload_n 2, 1) := by decide +kernel
theorem dX2_moveOnIfFree_43 : decode cX2_moveOnIfFree 43 = .ok (.aastore, 1) := by decide +kernel
theorem dX2_moveOnIfFree_44 : decode cX2_moveOnIfFree 44 = .ok (.return_, 1) := by decide +kernel
theorem dX2_fetchIfFree_0 : decode cX2_fetchIfFree 0 = .ok (.aload_n 1, 1) := by decide +kernel
theorem dX2_fetchIfFree_1 : decode cX2_fetchIfFree 1 = .ok (.getfield 80, 3) := by decide +kernel
theorem dX2_fetchIfFree_4 : decode cX2_fetchIfFree 4 = .ok (.ifCond .eq 4, 3) := by decide +kernel
theorem dX2_fetchIfFree_7 : decode cX2_fetchIfFree 7 = .ok (.return_, 1) := by decide +kernel
theorem dX2_fetchIfFree_8 : decode cX2_fetchIfFree 8 = .ok (.aload_n 0, 1) := by decide +kernel
theorem dX2_fetchIfFree_9 : decode cX2_fetchIfFree 9 = .ok (.getfield 63, 3) := by decide +kernel
theorem dX2_fetchIfFree_12 : decode cX2_fetchIfFree 12 = .ok (.ifCond .lt 16, 3) := by decide +kernel
theorem dX2_fetchIfFree_15 : decode cX2_fetchIfFree 15 = .ok (.aload_n 0, 1) := by decide +kernel
theorem dX2_fetchIfFree_16 : decode cX2_fetchIfFree 16 = .ok (.getfield 63, 3) := by decide +kernel
theorem dX2_fetchIfFree_19 : decode cX2_fetchIfFree 19 = .ok (.bipush 64, 2) := by decide +kernel
theorem dX2_fetchIfFree_21 : decode cX2_fetchIfFree 21 = .ok (.if_icmp .ge 7, 3) := by decide +kernel
theorem dX2_fetchIfFree_24 : decode cX2_fetchIfFree 24 = .ok (.iconst 1, 1) := by decide +kernel
theorem dX2_fetchIfFree_25 : decode cX2_fetchIfFree 25 = .ok (.goto 4, 3) := by decide +kernel
theorem dX2_fetchIfFree_28 : decode cX2_fetchIfFree 28 = .ok (.iconst 0, 1) := by decide +kernel
theorem dX2_fetchIfFree_29 : decode cX2_fetchIfFree 29 = .ok (.istore_n 2, 1) := by decide +kernel
theorem dX2_fetchIfFree_30 : decode cX2_fetchIfFree 30 = .ok (.aload_n 1, 1) := by decide +kernel
theorem dX2_fetchIfFree_31 : decode cX2_fetchIfFree 31 = .ok (.iconst 1, 1) := by decide +kernel
theorem dX2_fetchIfFree_32 : decode cX2_fetchIfFree 32 = .ok (.putfield 80, 3) := by decide +kernel
theorem dX2_fetchIfFree_35 : decode cX2_fetchIfFree 35 = .ok (.aload_n 1, 1) := by decide +kernel
theorem dX2_fetchIfFree_36 : decode cX2_fetchIfFree 36 = .ok (.aload_n 0, 1) := by decide +kernel
theorem dX2_fetchIfFree_37 : decode cX2_fetchIfFree 37 = .ok (.getfield 63, 3) := by decide +kernel
theorem dX2_fetchIfFree_40 : decode cX2_fetchIfFree 40 = .ok (.putfield 83, 3) := by decide +kernel
theorem dX2_fetchIfFree_43 : decode cX2_fetchIfFree 43 = .ok (.aload_n 1, 1) := by decide +kernel
theorem dX2_fetchIfFree_44 : decode cX2_fetchIfFree 44 = .ok (.iload_n 2, 1) := by decide +kernel
theorem dX2_fetchIfFree_45 : decode cX2_fetchIfFree 45 = .ok (.ifCond .eq 15, 3) := by decide +kernel
theorem dX2_fetchIfFree_48 : decode cX2_fetchIfFree 48 = .ok (.aload_n 0, 1) := by decide +kernel
theorem dX2_fetchIfFree_49 : decode cX2_fetchIfFree 49 = .ok (.getfield 18, 3) := by decide +kernel
theorem dX2_fetchIfFree_52 : decode cX2_fetchIfFree 52 = .ok (.aload_n 0, 1) := by decide +kernel
theorem dX2_fetchIfFree_53 : decode cX2_fetchIfFree 53 = .ok (.getfield 63, 3) := by decide +kernel
theorem dX2_fetchIfFree_56 : decode cX2_fetchIfFree 56 = .ok (.aaload, 1) := by decide +kernel
theorem dX2_fetchIfFree_57 : decode cX2_fetchIfFree 57 = .ok (.goto 7, 3) := by decide +kernel
theorem dX2_fetchIfFree_60 : decode cX2_fetchIfFree 60 = .ok (.aload_n 0, 1) := by decide +kernel
theorem dX2_fetchIfFree_61 : decode cX2_fetchIfFree 61 = .ok (.getfield 14, 3) := by decide +kernel
theorem dX2_fetchIfFree_64 : decode cX2_fetchIfFree 64 = .ok (.putfield 149, 3) := by decide +kernel
theorem dX2_fetchIfFree_67 : decode cX2_fetchIfFree 67 = .ok (.aload_n 1, 1) := by decide +kernel
theorem dX2_fetchIfFree_68 : decode cX2_fetchIfFree 68 = .ok (.iload_n 2, 1) := by decide +kernel
theorem dX2_fetchIfFree_69 : decode cX2_fetchIfFree 69 = .ok (.ifCond .eq 7, 3) := by decide +kernel
theorem dX2_fetchIfFree_72 : decode cX2_fetchIfFree 72 = .ok (.iconst 0, 1) := by decide +kernel
theorem dX2_fetchIfFree_73 : decode cX2_fetchIfFree 73 = .ok (.goto 4, 3) := by decide +kernel
theorem dX2_fetchIfFree_76 : decode cX2_fetchIfFree 76 = .ok (.iconst 1, 1) := by decide +kernel
theorem dX2_fetchIfFree_77 : decode cX2_fetchIfFree 77 = .ok (.putfield 136, 3) := by decide +kernel
theorem dX2_fetchIfFree_80 : decode cX2_fetchIfFree 80 = .ok (.aload_n 1, 1) := by decide +kernel
theorem dX2_fetchIfFree_81 : decode cX2_fetchIfFree 81 = .ok (.iconst 0, 1) := by decide +kernel
theorem dX2_fetchIfFree_82 : decode cX2_fetchIfFree 82 = .ok (.putfield 171, 3) := by decide +kernel
theorem dX2_fetchIfFree_85 : decode cX2_fetchIfFree 85 = .ok (.aload_n 1, 1) := by decide +kernel
theorem dX2_fetchIfFree_86 : decode cX2_fetchIfFree 86 = .ok (.iconst 0, 1) := by decide +kernel
theorem dX2_fetchIfFree_87 : decode cX2_fetchIfFree 87 = .ok (.putfield 164, 3) := by decide +kernel
theorem dX2_fetchIfFree_90 : decode cX2_fetchIfFree 90 = .ok (.aload_n 1, 1) := by decide +kernel
theorem dX2_fetchIfFree_91 : decode cX2_fetchIfFree 91 = .ok (.iconst 0, 1) := by decide +kernel
theorem dX2_fetchIfFree_92 : decode cX2_fetchIfFree 92 = .ok (.putfield 158, 3) := by decide +kernel
theorem dX2_fetchIfFree_95 : decode cX2_fetchIfFree 95 = .ok (.aload_n 1, 1) := by decide +kernel
theorem dX2_fetchIfFree_96 : decode cX2_fetchIfFree 96 = .ok (.aload_n 0, 1) := by decide +kernel
theorem dX2_fetchIfFree_97 : decode cX2_fetchIfFree 97 = .ok (.aload_n 1, 1) := by decide +kernel
theorem dX2_fetchIfFree_98 : decode cX2_fetchIfFree 98 = .ok (.getfield 149, 3) := by decide +kernel
theorem dX2_fetchIfFree_101 : decode cX2_fetchIfFree 101 = .ok (.aload_n 0, 1) := by decide +kernel
theorem dX2_fetchIfFree_102 : decode cX2_fetchIfFree 102 = .ok (.getfield 63, 3) := by decide +kernel
theorem dX2_fetchIfFree_105 : decode cX2_fetchIfFree 105 = .ok (.invokevirtual 243, 3) := by decide +kernel
theorem dX2_fetchIfFree_108 : decode cX2_fetchIfFree 108 = .ok (.putfield 240, 3) := by decide +kernel
theorem dX2_fetchIfFree_111 : decode cX2_fetchIfFree 111 = .ok (.aload_n 0, 1) := by decide +kernel
theorem dX2_fetchIfFree_112 : decode cX2_fetchIfFree 112 = .ok (.aload_n 1, 1) := by decide +kernel
theorem dX2_fetchIfFree_113 : decode cX2_fetchIfFree 113 = .ok (.getfield 240, 3) := by decide +kernel
theorem dX2_fetchIfFree_116 : decode cX2_fetchIfFree 116 = .ok (.putfield 63, 3) := by decide +kernel
theorem dX2_fetchIfFree_119 : decode cX2_fetchIfFree 119 = .ok (.return_, 1) := by decide +kernel
theorem dX2_guessNext_0 : decode cX2_guessNext 0 = .ok (.aload_n 1, 1) := by decide +kernel
theorem dX2_guessNext_1 : decode cX2_guessNext 1 = .ok (.getfield 212, 3) := by decide +kernel
theorem dX2_guessNext_4 : decode cX2_guessNext 4 = .ok (.bipush 15, 2) := by decide +kernel
theorem dX2_guessNext_6 : decode cX2_guessNext 6 = .ok (.if_icmp .eq 25, 3) := by decide +kernel
theorem dX2_guessNext_9 : decode cX2_guessNext 9 = .ok (.aload_n 1, 1) := by decide +kernel
theorem dX2_guessNext_10 : decode cX2_guessNext 10 = .ok (.invokevirtual 219, 3) := by decide +kernel
theorem dX2_guessNext_13 : decode cX2_guessNext 13 = .ok (.ifCond .eq 22, 3) := by decide +kernel
theorem dX2_guessNext_16 : decode cX2_guessNext 16 = .ok (.aload_n 0, 1) := by decide +kernel
theorem dX2_guessNext_17 : decode cX2_guessNext 17 = .ok (.getfield 29, 3) := by decide +kernel
theorem dX2_guessNext_20 : decode cX2_guessNext 20 = .ok (.iload_n 2, 1) := by decide +kernel
theorem dX2_guessNext_21 : decode cX2_guessNext 21 = .ok (.bipush 8, 2) := by decide +kernel
theorem dX2_guessNext_23 : decode cX2_guessNext 23 = .ok (.invokestatic 161, 3) := by decide +kernel
theorem dX2_guessNext_26 : decode cX2_guessNext 26 = .ok (.iaload, 1) := by decide +kernel
theorem dX2_guessNext_27 : decode cX2_guessNext 27 = .ok (.iconst 2, 1) := by decide +kernel
theorem dX2_guessNext_28 : decode cX2_guessNext 28 = .ok (.if_icmp .lt 7, 3) := by decide +kernel
theorem dX2_guessNext_31 : decode cX2_guessNext 31 = .ok (.iconst 1, 1) := by decide +kernel
theorem dX2_guessNext_32 : decode cX2_guessNext 32 = .ok (.goto 4, 3) := by decide +kernel
theorem dX2_guessNext_35 : decode cX2_guessNext 35 = .ok (.iconst 0, 1) := by decide +kernel
theorem dX2_guessNext_36 : decode cX2_guessNext 36 = .ok (.istore_n 3, 1) := by decide +kernel
theorem dX2_guessNext_37 : decode cX2_guessNext 37 = .ok (.iload_n 3, 1) := by decide +kernel
theorem dX2_guessNext_38 : decode cX2_guessNext 38 = .ok (.ifCond .eq 12, 3) := by decide +kernel
theorem dX2_guessNext_41 : decode cX2_guessNext 41 = .ok (.iload_n 2, 1) := by decide +kernel
theorem dX2_guessNext_42 : decode cX2_guessNext 42 = .ok (.aload_n 1, 1) := by decide +kernel
theorem dX2_guessNext_43 : decode cX2_guessNext 43 = .ok (.getfield 209, 3) := by decide +kernel
theorem dX2_guessNext_46 : decode cX2_guessNext 46 = .ok (.iadd, 1) := by decide +kernel
theorem dX2_guessNext_47 : decode cX2_guessNext 47 = .ok (.goto 6, 3) := by decide +kernel
theorem dX2_guessNext_50 : decode cX2_guessNext 50 = .ok (.iload_n 2, 1) := by decide +kernel
theorem dX2_guessNext_51 : decode cX2_guessNext 51 = .ok (.iconst 1, 1) := by decide +kernel
theorem dX2_guessNext_52 : decode cX2_guessNext 52 = .ok (.iadd, 1) := by decide +kernel
theorem dX2_guessNext_53 : decode cX2_guessNext 53 = .ok (.ireturn, 1) := by decide +kernel
theorem dX3_init_0 : decode cX3_init 0 = .ok (.aload_n 0, 1) := by decide +kernel
theorem dX3_init_1 : decode cX3_init 1 = .ok (.invokespecial 1, 3) := by decide +kernel
theorem dX3_init_4 : decode cX3_init 4 = .ok (.aload_n 0, 1) := by decide +kernel
theorem dX3_init_5 : decode cX3_init 5 = .ok (.bipush 64, 2) := by decide +kernel
theorem dX3_init_7 : decode cX3_init 7 = .ok (.newarray .int, 2) := by decide +kernel
theorem dX3_init_9 : decode cX3_init 9 = .ok (.putfield 7, 3) := by decide +kernel
theorem dX3_init_12 : decode cX3_init 12 = .ok (.aload_n 0, 1) := by decide +kernel
theorem dX3_init_13 : decode cX3_init 13 = .ok (.bipush 64, 2) := by decide +kernel
theorem dX3_init_15 : decode cX3_init 15 = .ok (.newarray .int, 2) := by decide +kernel
theorem dX3_init_17 : decode cX3_init 17 = .ok (.putfield 13, 3) := by decide +kernel
theorem dX3_init_20 : decode cX3_init 20 = .ok (.aload_n 0, 1) := by decide +kernel
theorem dX3_init_21 : decode cX3_init 21 = .ok (.bipush 64, 2) := by decide +kernel
theorem dX3_init_23 : decode cX3_init 23 = .ok (.newarray .int, 2) := by decide +kernel
theorem dX3_init_25 : decode cX3_init 25 = .ok (.putfield 16, 3) := by decide +kernel
theorem dX3_init_28 : decode cX3_init 28 = .ok (.aload_n 0, 1) := by decide +kernel
theorem dX3_init_29 : decode cX3_init 29 = .ok (.bipush 64, 2) := by decide +kernel
theorem dX3_init_31 : decode cX3_init 31 = .ok (.newarray .int, 2) := by decide +kernel
theorem dX3_init_33 : decode cX3_init 33 = .ok (.putfield 19, 3) := by decide +kernel
theorem dX3_init_36 : decode cX3_init 36 = .ok (.aload_n 0, 1) := by decide +kernel
theorem dX3_init_37 : decode cX3_init 37 = .ok (.bipush 64, 2) := by decide +kernel
theorem dX3_init_39 : decode cX3_init 39 = .ok (.newarray .int, 2) := by decide +kernel
theorem dX3_init_41 : decode cX3_init 41 = .ok (.putfield 22, 3) := by decide +kernel
theorem dX3_init_44 : decode cX3_init 44 = .ok (.aload_n 0, 1) := by decide +kernel
theorem dX3_init_45 : decode cX3_init 45 = .ok (.bipush 32, 2) := by decide +kernel
theorem dX3_init_47 : decode cX3_init 47 = .ok (.newarray .int, 2) := by decide +kernel
theorem dX3_init_49 : decode cX3_init 49 = .ok (.putfield 25, 3) := by decide +kernel
theorem dX3_init_52 : decode cX3_init 52 = .ok (.aload_n 0, 1) := by decide +kernel
theorem dX3_init_53 : decode cX3_init 53 = .ok (.bipush 16, 2) := by decide +kernel
theorem dX3_init_55 : decode cX3_init 55 = .ok (.newarray .int, 2) := by decide +kernel
theorem dX3_init_57 : decode cX3_init 57 = .ok (.putfield 28, 3) := by decide +kernel
theorem dX3_init_60 : decode cX3_init 60 = .ok (.aload_n 0, 1) := by decide +kernel
theorem dX3_init_61 : decode cX3_init 61 = .ok (.bipush 8, 2) := by decide +kernel
theorem dX3_init_63 : decode cX3_init 63 = .ok (.newarray .int, 2) := by decide +kernel
theorem dX3_init_65 : decode cX3_init 65 = .ok (.putfield 31, 3) := by decide +kernel
theorem dX3_init_68 : decode cX3_init 68 = .ok (.aload_n 0, 1) := by decide +kernel
theorem dX3_init_69 : decode cX3_init 69 = .ok (.iconst 5, 1) := by decide +kernel
theorem dX3_init_70 : decode cX3_init 70 = .ok (.newarray .boolean, 2) := by decide +kernel
theorem dX3_init_72 : decode cX3_init 72 = .ok (.putfield 34, 3) := by decide +kernel
theorem dX3_init_75 : decode cX3_init 75 = .ok (.aload_n 0, 1) := by decide +kernel
theorem dX3_init_76 : decode cX3_init 76 = .ok (.iconst 5, 1) := by decide +kernel
theorem dX3_init_77 : decode cX3_init 77 = .ok (.newarray .int, 2) := by decide +kernel
theorem dX3_init_79 : decode cX3_init 79 = .ok (.putfield 38, 3) := by decide +kernel
theorem dX3_init_82 : decode cX3_init 82 = .ok (.aload_n 0, 1) := by decide +kernel
theorem dX3_init_83 : decode cX3_init 83 = .ok (.iconst 5, 1) := by decide +kernel
theorem dX3_init_84 : decode cX3_init 84 = .ok (.newarray .int, 2) := by decide +kernel
theorem dX3_init_86 : decode cX3_init 86 = .ok (.putfield 41, 3) := by decide +kernel
theorem dX3_init_89 : decode cX3_init 89 = .ok (.aload_n 0, 1) := by decide +kernel
theorem dX3_init_90 : decode cX3_init 90 = .ok (.iconst 5, 1) := by decide +kernel
theorem dX3_init_91 : decode cX3_init 91 = .ok (.newarray .int, 2) := by decide +kernel
theorem dX3_init_93 : decode cX3_init 93 = .ok (.putfield 44, 3) := by decide +kernel
theorem dX3_init_96 : decode cX3_init 96 = .ok (.aload_n 0, 1) := by decide +kernel
theorem dX3_init_97 : decode cX3_init 97 = .ok (.iconst 5, 1) := by decide +kernel
theorem dX3_init_98 : decode cX3_init 98 = .ok (.newarray .int, 2) := by decide +kernel
theorem dX3_init_100 : decode cX3_init 100 = .ok (.putfield 47, 3) := by decide +kernel
theorem dX3_init_103 : decode cX3_init 103 = .ok (.aload_n 0, 1) := by decide +kernel
theorem dX3_init_104 : decode cX3_init 104 = .ok (.iconst 5, 1) := by decide +kernel
theorem dX3_init_105 : decode cX3_init 105 = .ok (.newarray .int, 2) := by decide +kernel
theorem dX3_init_107 : decode cX3_init 107 = .ok (.putfield 50, 3) := by decide +kernel
theorem dX3_init_110 : decode cX3_init 110 = .ok (.aload_n 0, 1) := by decide +kernel
theorem dX3_init_111 : decode cX3_init 111 = .ok (.iconst 5, 1) := by decide +kernel
theorem dX3_init_112 : decode cX3_init 112 = .ok (.newarray .int, 2) := by decide +kernel
theorem dX3_init_114 : decode cX3_init 114 = .ok (.putfield 53, 3) := by decide +kernel
theorem dX3_init_117 : decode cX3_init 117 = .ok (.aload_n 0, 1) := by decide +kernel
theorem dX3_init_118 : decode cX3_init 118 = .ok (.iconst 5, 1) := by decide +kernel
theorem dX3_init_119 : decode cX3_init 119 = .ok (.newarray .int, 2) := by decide +kernel
theorem dX3_init_121 : decode cX3_init 121 = .ok (.putfield 56, 3) := by decide +kernel
theorem dX3_init_124 : decode cX3_init 124 = .ok (.aload_n 0, 1) := by decide +kernel
theorem dX3_init_125 : decode cX3_init 125 = .ok (.iconst 5, 1) := by decide +kernel
theorem dX3_init_126 : decode cX3_init 126 = .ok (.newarray .int, 2) := by decide +kernel
theorem dX3_init_128 : decode cX3_init 128 = .ok (.putfield 59, 3) := by decide +kernel
theorem dX3_init_131 : decode cX3_init 131 = .ok (.aload_n 0, 1) := by decide +kernel
theorem dX3_init_132 : decode cX3_init 132 = .ok (.iconst 5, 1) := by decide +kernel
theorem dX3_init_133 : decode cX3_init 133 = .ok (.newarray .int, 2) := by decide +kernel
theorem dX3_init_135 : decode cX3_init 135 = .ok (.putfield 62, 3) := by decide +kernel
theorem dX3_init_138 : decode cX3_init 138 = .ok (.aload_n 0, 1) := by decide +kernel
theorem dX3_init_139 : decode cX3_init 139 = .ok (.iconst 5, 1) := by decide +kernel
theorem dX3_init_140 : decode cX3_init 140 = .ok (.newarray .int, 2) := by decide +kernel
theorem dX3_init_142 : decode cX3_init 142 = .ok (.putfield 65, 3) := by decide +kernel
theorem dX3_init_145 : decode cX3_init 145 = .ok (.aload_n 0, 1) := by decide +kernel
theorem dX3_init_146 : decode cX3_init 146 = .ok (.bipush 16, 2) := by decide +kernel
theorem dX3_init_148 : decode cX3_init 148 = .ok (.newarray .int, 2) := by decide +kernel
theorem dX3_init_150 : decode cX3_init 150 = .ok (.putfield 68, 3) := by decide +kernel
theorem dX3_init_153 : decode cX3_init 153 = .ok (.iconst 0, 1) := by decide +kernel
theorem dX3_init_154 : decode cX3_init 154 = .ok (.istore_n 1, 1) := by decide +kernel
theorem dX3_init_155 : decode cX3_init 155 = .ok (.iload_n 1, 1) := by decide +kernel
theorem dX3_init_156 : decode cX3_init 156 = .ok (.bipush 64, 2) := by decide +kernel
theorem dX3_init_158 : decode cX3_init 158 = .ok (.if_icmp .ge 17, 3) := by decide +kernel
theorem dX3_init_161 : decode cX3_init 161 = .ok (.aload_n 0, 1) := by decide +kernel
theorem dX3_init_162 : decode cX3_init 162 = .ok (.getfield 7, 3) := by decide +kernel
theorem dX3_init_165 : decode cX3_init 165 = .ok (.iload_n 1, 1) := by decide +kernel
theorem dX3_init_166 : decode cX3_init 166 = .ok (.bipush 19, 2) := by decide +kernel
theorem dX3_init_168 : decode cX3_init 168 = .ok (.iastore, 1) := by decide +kernel
theorem dX3_init_169 : decode cX3_init 169 = .ok (.iinc 1 1, 3) := by decide +kernel
theorem dX3_init_172 : decode cX3_init 172 = .ok (.goto (-17), 3) := by decide +kernel
theorem dX3_init_175 : decode cX3_init 175 = .ok (.iconst 0, 1) := by decide +kernel
theorem dX3_init_176 : decode cX3_init 176 = .ok (.istore_n 1, 1) := by decide +kernel
theorem dX3_init_177 : decode cX3_init 177 = .ok (.iload_n 1, 1) := by decide +kernel
theorem dX3_init_178 : decode cX3_init 178 = .ok (.bipush 8, 2) := by decide +kernel
theorem dX3_init_180 : decode cX3_init 180 = .ok (.if_icmp .ge 16, 3) := by decide +kernel
theorem dX3_init_183 : decode cX3_init 183 = .ok (.aload_n 0, 1) := by decide +kernel
theorem dX3_init_184 : decode cX3_init 184 = .ok (.getfield 31, 3) := by decide +kernel
theorem dX3_init_187 : decode cX3_init 187 = .ok (.iload_n 1, 1) := by decide +kernel
theorem dX3_init_188 : decode cX3_init 188 = .ok (.iconst 1, 1) := by decide +kernel
theorem dX3_init_189 : decode cX3_init 189 = .ok (.iastore, 1) := by decide +kernel
theorem dX3_init_190 : decode cX3_init 190 = .ok (.iinc 1 1, 3) := by decide +kernel
theorem dX3_init_193 : decode cX3_init 193 = .ok (.goto (-16), 3) := by decide +kernel
theorem dX3_init_196 : decode cX3_init 196 = .ok (.return_, 1) := by decide +kernel
theorem dX3_thrown_0 : decode cX3_thrown 0 = .ok (.aload_n 0, 1) := by decide +kernel
theorem dX3_thrown_1 : decode cX3_thrown 1 = .ok (.getfield 71, 3) := by decide +kernel
theorem dX3_thrown_4 : decode cX3_thrown 4 = .ok (.ireturn, 1) := by decide +kernel
theorem dX3_out_0 : decode cX3_out 0 = .ok (.aload_n 0, 1) := by decide +kernel
theorem dX3_out_1 : decode cX3_out 1 = .ok (.iload_n 1, 1) := by decide +kernel
theorem dX3_out_2 : decode cX3_out 2 = .ok (.iload_n 2, 1) := by decide +kernel
theorem dX3_out_3 : decode cX3_out 3 = .ok (.if_icmp .lt 12, 3) := by decide +kernel
theorem dX3_out_6 : decode cX3_out 6 = .ok (.iload_n 1, 1) := by decide +kernel
theorem dX3_out_7 : decode cX3_out 7 = .ok (.iload_n 3, 1) := by decide +kernel
theorem dX3_out_8 : decode cX3_out 8 = .ok (.if_icmp .gt 7, 3) := by decide +kernel
theorem dX3_out_11 : decode cX3_out 11 = .ok (.iconst 0, 1) := by decide +kernel
theorem dX3_out_12 : decode cX3_out 12 = .ok (.goto 4, 3) := by decide +kernel
theorem dX3_out_15 : decode cX3_out 15 = .ok (.iconst 1, 1) := by decide +kernel
theorem dX3_out_16 : decode cX3_out 16 = .ok (.putfield 71, 3) := by decide +kernel
theorem dX3_out_19 : decode cX3_out 19 = .ok (.aload_n 0, 1) := by decide +kernel
theorem dX3_out_20 : decode cX3_out 20 = .ok (.getfield 71, 3) := by decide +kernel
theorem dX3_out_23 : decode cX3_out 23 = .ok (.ifCond .le 7, 3) := by decide +kernel
theorem dX3_out_26 : decode cX3_out 26 = .ok (.iconst 1, 1) := by decide +kernel
theorem dX3_out_27 : decode cX3_out 27 = .ok (.goto 4, 3) := by decide +kernel
theorem dX3_out_30 : decode cX3_out 30 = .ok (.iconst 0, 1) := by decide +kernel
theorem dX3_out_31 : decode cX3_out 31 = .ok (.ireturn, 1) := by decide +kernel
theorem dX3_in_0 : decode cX3_in 0 = .ok (.iload_n 0, 1) := by decide +kernel
theorem dX3_in_1 : decode cX3_in 1 = .ok (.iload_n 1, 1) := by decide +kernel
theorem dX3_in_2 : decode cX3_in 2 = .ok (.if_icmp .lt 12, 3) := by decide +kernel
theorem dX3_in_5 : decode cX3_in 5 = .ok (.iload_n 0, 1) := by decide +kernel
theorem dX3_in_6 : decode cX3_in 6 = .ok (.iload_n 2, 1) := by decide +kernel
theorem dX3_in_7 : decode cX3_in 7 = .ok (.if_icmp .gt 7, 3) := by decide +kernel
theorem dX3_in_10 : decode cX3_in 10 = .ok (.iconst 1, 1) := by decide +kernel
theorem dX3_in_11 : decode cX3_in 11 = .ok (.goto 4, 3) := by decide +kernel
theorem dX3_in_14 : decode cX3_in 14 = .ok (.iconst 0, 1) := by decide +kernel
theorem dX3_in_15 : decode cX3_in 15 = .ok (.ireturn, 1) := by decide +kernel
theorem dX3_put_0 : decode cX3_put 0 = .ok (.aload_n 0, 1) := by decide +kernel
theorem dX3_put_1 : decode cX3_put 1 = .ok (.iload_n 1, 1) := by decide +kernel
theorem dX3_put_2 : decode cX3_put 2 = .ok (.iconst 0, 1) := by decide +kernel
theorem dX3_put_3 : decode cX3_put 3 = .ok (.bipush 63, 2) := by decide +kernel
theorem dX3_put_5 : decode cX3_put 5 = .ok (.invokevirtual 75, 3) := by decide +kernel
theorem dX3_put_8 : decode cX3_put 8 = .ok (.ifCond .eq 4, 3) := by decide +kernel
theorem dX3_put_11 : decode cX3_put 11 = .ok (.return_, 1) := by decide +kernel
theorem dX3_put_12 : decode cX3_put 12 = .ok (.iload_n 2, 1) := by decide +kernel
theorem dX3_put_13 : decode cX3_put 13 = .ok (.iconst 0, 1) := by decide +kernel
theorem dX3_put_14 : decode cX3_put 14 = .ok (.bipush 19, 2) := by decide +kernel
theorem dX3_put_16 : decode cX3_put 16 = .ok (.invokestatic 79, 3) := by decide +kernel
theorem dX3_put_19 : decode cX3_put 19 = .ok (.ifCond .eq 47, 3) := by decide +kernel
theorem dX3_put_22 : decode cX3_put 22 = .ok (.iload_n 3, 1) := by decide +kernel
theorem dX3_put_23 : decode cX3_put 23 = .ok (.iconst 0, 1) := by decide +kernel
theorem dX3_put_24 : decode cX3_put 24 = .ok (.bipush 15, 2) := by decide +kernel
theorem dX3_put_26 : decode cX3_put 26 = .ok (.invokestatic 79, 3) := by decide +kernel
theorem dX3_put_29 : decode cX3_put 29 = .ok (.ifCond .eq 37, 3) := by decide +kernel
theorem dX3_put_32 : decode cX3_put 32 = .ok (.iload 4, 2) := by decide +kernel
theorem dX3_put_34 : decode cX3_put 34 = .ok (.iconst 0, 1) := by decide +kernel
theorem dX3_put_35 : decode cX3_put 35 = .ok (.bipush 15, 2) := by decide +kernel
theorem dX3_put_37 : decode cX3_put 37 = .ok (.invokestatic 79, 3) := by decide +kernel
theorem dX3_put_40 : decode cX3_put 40 = .ok (.ifCond .eq 26, 3) := by decide +kernel
theorem dX3_put_43 : decode cX3_put 43 = .ok (.iload 5, 2) := by decide +kernel
theorem dX3_put_45 : decode cX3_put 45 = .ok (.iconst 0, 1) := by decide +kernel
theorem dX3_put_46 : decode cX3_put 46 = .ok (.bipush 15, 2) := by decide +kernel
theorem dX3_put_48 : decode cX3_put 48 = .ok (.invokestatic 79, 3) := by decide +kernel
theorem dX3_put_51 : decode cX3_put 51 = .ok (.ifCond .eq 15, 3) := by decide +kernel
theorem dX3_put_54 : decode cX3_put 54 = .ok (.iload 6, 2) := by decide +kernel
theorem dX3_put_56 : decode cX3_put 56 = .ok (.bipush (-64), 2) := by decide +kernel
theorem dX3_put_58 : decode cX3_put 58 = .ok (.bipush 63, 2) := by decide +kernel
theorem dX3_put_60 : decode cX3_put 60 = .ok (.invokestatic 79, 3) := by decide +kernel
theorem dX3_put_63 : decode cX3_put 63 = .ok (.ifCond .ne 9, 3) := by decide +kernel
theorem dX3_put_66 : decode cX3_put 66 = .ok (.aload_n 0, 1) := by decide +kernel
theorem dX3_put_67 : decode cX3_put 67 = .ok (.iconst 2, 1) := by decide +kernel
theorem dX3_put_68 : decode cX3_put 68 = .ok (.putfield 71, 3) := by decide +kernel
theorem dX3_put_71 : decode cX3_put 71 = .ok (.return_, 1) := by decide +kernel
theorem dX3_put_72 : decode cX3_put 72 = .ok (.aload_n 0, 1) := by decide +kernel
theorem dX3_put_73 : decode cX3_put 73 = .ok (.getfield 7, 3) := by decide +kernel
theorem dX3_put_76 : decode cX3_put 76 = .ok (.iload_n 1, 1) := by decide +kernel
theorem dX3_put_77 : decode cX3_put 77 = .ok (.iload_n 2, 1) := by decide +kernel
theorem dX3_put_78 : decode cX3_put 78 = .ok (.iastore, 1) := by decide +kernel
theorem dX3_put_79 : decode cX3_put 79 = .ok (.aload_n 0, 1) := by decide +kernel
theorem dX3_put_80 : decode cX3_put 80 = .ok (.getfield 13, 3) := by decide +kernel
theorem dX3_put_83 : decode cX3_put 83 = .ok (.iload_n 1, 1) := by decide +kernel
theorem dX3_put_84 : decode cX3_put 84 = .ok (.iload_n 3, 1) := by decide +kernel
theorem dX3_put_85 : decode cX3_put 85 = .ok (.iastore, 1) := by decide +kernel
theorem dX3_put_86 : decode cX3_put 86 = .ok (.aload_n 0, 1) := by decide +kernel
theorem dX3_put_87 : decode cX3_put 87 = .ok (.getfield 16, 3) := by decide +kernel
theorem dX3_put_90 : decode cX3_put 90 = .ok (.iload_n 1, 1) := by decide +kernel
theorem dX3_put_91 : decode cX3_put 91 = .ok (.iload 4, 2) := by decide +kernel
theorem dX3_put_93 : decode cX3_put 93 = .ok (.iastore, 1) := by decide +kernel
theorem dX3_put_94 : decode cX3_put 94 = .ok (.aload_n 0, 1) := by decide +kernel
theorem dX3_put_95 : decode cX3_put 95 = .ok (.getfield 19, 3) := by decide +kernel
theorem dX3_put_98 : decode cX3_put 98 = .ok (.iload_n 1, 1) := by decide +kernel
theorem dX3_put_99 : decode cX3_put 99 = .ok (.iload 5, 2) := by decide +kernel
theorem dX3_put_101 : decode cX3_put 101 = .ok (.iastore, 1) := by decide +kernel
theorem dX3_put_102 : decode cX3_put 102 = .ok (.aload_n 0, 1) := by decide +kernel
theorem dX3_put_103 : decode cX3_put 103 = .ok (.getfield 22, 3) := by decide +kernel
theorem dX3_put_106 : decode cX3_put 106 = .ok (.iload_n 1, 1) := by decide +kernel
theorem dX3_put_107 : decode cX3_put 107 = .ok (.iload 6, 2) := by decide +kernel
theorem dX3_put_109 : decode cX3_put 109 = .ok (.iastore, 1) := by decide +kernel
theorem dX3_put_110 : decode cX3_put 110 = .ok (.return_, 1) := by decide +kernel
theorem dX3_poke_0 : decode cX3_poke 0 = .ok (.aload_n 0, 1) := by decide +kernel
theorem dX3_poke_1 : decode cX3_poke 1 = .ok (.iload_n 1, 1) := by decide +kernel
theorem dX3_poke_2 : decode cX3_poke 2 = .ok (.iconst 0, 1) := by decide +kernel
theorem dX3_poke_3 : decode cX3_poke 3 = .ok (.bipush 31, 2) := by decide +kernel
theorem dX3_poke_5 : decode cX3_poke 5 = .ok (.invokevirtual 75, 3) := by decide +kernel
theorem dX3_poke_8 : decode cX3_poke 8 = .ok (.ifCond .eq 5, 3) := by decide +kernel
theorem dX3_poke_11 : decode cX3_poke 11 = .ok (.iconst 0, 1) := by decide +kernel
theorem dX3_poke_12 : decode cX3_poke 12 = .ok (.ireturn, 1) := by decide +kernel
theorem dX3_poke_13 : decode cX3_poke 13 = .ok (.aload_n 0, 1) := by decide +kernel
theorem dX3_poke_14 : decode cX3_poke 14 = .ok (.getfield 25, 3) := by decide +kernel
theorem dX3_poke_17 : decode cX3_poke 17 = .ok (.iload_n 1, 1) := by decide +kernel
theorem dX3_poke_18 : decode cX3_poke 18 = .ok (.iaload, 1) := by decide +kernel
theorem dX3_poke_19 : decode cX3_poke 19 = .ok (.istore_n 3, 1) := by decide +kernel
theorem dX3_poke_20 : decode cX3_poke 20 = .ok (.aload_n 0, 1) := by decide +kernel
theorem dX3_poke_21 : decode cX3_poke 21 = .ok (.getfield 25, 3) := by decide +kernel
theorem dX3_poke_24 : decode cX3_poke 24 = .ok (.iload_n 1, 1) := by decide +kernel
theorem dX3_poke_25 : decode cX3_poke 25 = .ok (.iload_n 2, 1) := by decide +kernel
theorem dX3_poke_26 : decode cX3_poke 26 = .ok (.iastore, 1) := by decide +kernel
theorem dX3_poke_27 : decode cX3_poke 27 = .ok (.iload_n 3, 1) := by decide +kernel
theorem dX3_poke_28 : decode cX3_poke 28 = .ok (.ireturn, 1) := by decide +kernel
theorem dX3_peek_0 : decode cX3_peek 0 = .ok (.aload_n 0, 1) := by decide +kernel
theorem dX3_peek_1 : decode cX3_peek 1 = .ok (.iload_n 1, 1) := by decide +kernel
theorem dX3_peek_2 : decode cX3_peek 2 = .ok (.iconst 0, 1) := by decide +kernel
theorem dX3_peek_3 : decode cX3_peek 3 = .ok (.bipush 31, 2) := by decide +kernel
theorem dX3_peek_5 : decode cX3_peek 5 = .ok (.invokevirtual 75, 3) := by decide +kernel
theorem dX3_peek_8 : decode cX3_peek 8 = .ok (.ifCond .eq 7, 3) := by decide +kernel
theorem dX3_peek_11 : decode cX3_peek 11 = .ok (.iconst 0, 1) := by decide +kernel
theorem dX3_peek_12 : decode cX3_peek 12 = .ok (.goto 9, 3) := by decide +kernel
theorem dX3_peek_15 : decode cX3_peek 15 = .ok (.aload_n 0, 1) := by decide +kernel
theorem dX3_peek_16 : decode cX3_peek 16 = .ok (.getfield 25, 3) := by decide +kernel
theorem dX3_peek_19 : decode cX3_peek 19 = .ok (.iload_n 1, 1) := by decide +kernel
theorem dX3_peek_20 : decode cX3_peek 20 = .ok (.iaload, 1) := by decide +kernel
theorem dX3_peek_21 : decode cX3_peek 21 = .ok (.ireturn, 1) := by decide +kernel
theorem dX3_set_0 : decode cX3_set 0 = .ok (.aload_n 0, 1) := by decide +kernel
theorem dX3_set_1 : decode cX3_set 1 = .ok (.iload_n 1, 1) := by decide +kernel
theorem dX3_set_2 : decode cX3_set 2 = .ok (.iconst 1, 1) := by decide +kernel
theorem dX3_set_3 : decode cX3_set 3 = .ok (.bipush 15, 2) := by decide +kernel
theorem dX3_set_5 : decode cX3_set 5 = .ok (.invokevirtual 75, 3) := by decide +kernel
theorem dX3_set_8 : decode cX3_set 8 = .ok (.ifCond .eq 5, 3) := by decide +kernel
theorem dX3_set_11 : decode cX3_set 11 = .ok (.iconst 0, 1) := by decide +kernel
theorem dX3_set_12 : decode cX3_set 12 = .ok (.ireturn, 1) := by decide +kernel
theorem dX3_set_13 : decode cX3_set 13 = .ok (.aload_n 0, 1) := by decide +kernel
theorem dX3_set_14 : decode cX3_set 14 = .ok (.getfield 28, 3) := by decide +kernel
theorem dX3_set_17 : decode cX3_set 17 = .ok (.iload_n 1, 1) := by decide +kernel
theorem dX3_set_18 : decode cX3_set 18 = .ok (.iaload, 1) := by decide +kernel
theorem dX3_set_19 : decode cX3_set 19 = .ok (.istore_n 3, 1) := by decide +kernel
theorem dX3_set_20 : decode cX3_set 20 = .ok (.aload_n 0, 1) := by decide +kernel
theorem dX3_set_21 : decode cX3_set 21 = .ok (.getfield 28, 3) := by decide +kernel
theorem dX3_set_24 : decode cX3_set 24 = .ok (.iload_n 1, 1) := by decide +kernel
theorem dX3_set_25 : decode cX3_set 25 = .ok (.iload_n 2, 1) := by decide +kernel
theorem dX3_set_26 : decode cX3_set 26 = .ok (.iastore, 1) := by decide +kernel
theorem dX3_set_27 : decode cX3_set 27 = .ok (.iload_n 3, 1) := by decide +kernel
theorem dX3_set_28 : decode cX3_set 28 = .ok (.ireturn, 1) := by decide +kernel
theorem dX3_register_0 : decode cX3_register 0 = .ok (.aload_n 0, 1) := by decide +kernel
theorem dX3_register_1 : decode cX3_register 1 = .ok (.iload_n 1, 1) := by decide +kernel
theorem dX3_register_2 : decode cX3_register 2 = .ok (.iconst 0, 1) := by decide +kernel
theorem dX3_register_3 : decode cX3_register 3 = .ok (.bipush 15, 2) := by decide +kernel
theorem dX3_register_5 : decode cX3_register 5 = .ok (.invokevirtual 75, 3) := by decide +kernel
theorem dX3_register_8 : decode cX3_register 8 = .ok (.ifCond .eq 7, 3) := by decide +kernel
theorem dX3_register_11 : decode cX3_register 11 = .ok (.iconst 0, 1) := by decide +kernel
theorem dX3_register_12 : decode cX3_register 12 = .ok (.goto 9, 3) := by decide +kernel
theorem dX3_register_15 : decode cX3_register 15 = .ok (.aload_n 0, 1) := by decide +kernel
theorem dX3_register_16 : decode cX3_register 16 = .ok (.getfield 28, 3) := by decide +kernel
theorem dX3_register_19 : decode cX3_register 19 = .ok (.iload_n 1, 1) := by decide +kernel
theorem dX3_register_20 : decode cX3_register 20 = .ok (.iaload, 1) := by decide +kernel
theorem dX3_register_21 : decode cX3_register 21 = .ok (.ireturn, 1) := by decide +kernel
theorem dX3_empty_0 : decode cX3_empty 0 = .ok (.iconst 0, 1) := by decide +kernel
theorem dX3_empty_1 : decode cX3_empty 1 = .ok (.istore_n 1, 1) := by decide +kernel
theorem dX3_empty_2 : decode cX3_empty 2 = .ok (.iload_n 1, 1) := by decide +kernel
theorem dX3_empty_3 : decode cX3_empty 3 = .ok (.iconst 5, 1) := by decide +kernel
theorem dX3_empty_4 : decode cX3_empty 4 = .ok (.if_icmp .ge 16, 3) := by decide +kernel
theorem dX3_empty_7 : decode cX3_empty 7 = .ok (.aload_n 0, 1) := by decide +kernel
theorem dX3_empty_8 : decode cX3_empty 8 = .ok (.getfield 34, 3) := by decide +kernel
theorem dX3_empty_11 : decode cX3_empty 11 = .ok (.iload_n 1, 1) := by decide +kernel
theorem dX3_empty_12 : decode cX3_empty 12 = .ok (.iconst 0, 1) := by decide +kernel
theorem dX3_empty_13 : decode cX3_empty 13 = .ok (.bastore, 1) := by decide +kernel
theorem dX3_empty_14 : decode cX3_empty 14 = .ok (.iinc 1 1, 3) := by decide +kernel
theorem dX3_empty_17 : decode cX3_empty 17 = .ok (.goto (-15), 3) := by decide +kernel
theorem dX3_empty_20 : decode cX3_empty 20 = .ok (.return_, 1) := by decide +kernel
theorem dX3_start_0 : decode cX3_start 0 = .ok (.aload_n 0, 1) := by decide +kernel
theorem dX3_start_1 : decode cX3_start 1 = .ok (.iload_n 1, 1) := by decide +kernel
theorem dX3_start_2 : decode cX3_start 2 = .ok (.iconst 0, 1) := by decide +kernel
theorem dX3_start_3 : decode cX3_start 3 = .ok (.bipush 63, 2) := by decide +kernel
theorem dX3_start_5 : decode cX3_start 5 = .ok (.invokevirtual 75, 3) := by decide +kernel
theorem dX3_start_8 : decode cX3_start 8 = .ok (.ifCond .eq 4, 3) := by decide +kernel
theorem dX3_start_11 : decode cX3_start 11 = .ok (.return_, 1) := by decide +kernel
theorem dX3_start_12 : decode cX3_start 12 = .ok (.aload_n 0, 1) := by decide +kernel
theorem dX3_start_13 : decode cX3_start 13 = .ok (.invokevirtual 82, 3) := by decide +kernel
theorem dX3_start_16 : decode cX3_start 16 = .ok (.aload_n 0, 1) := by decide +kernel
theorem dX3_start_17 : decode cX3_start 17 = .ok (.iload_n 1, 1) := by decide +kernel
theorem dX3_start_18 : decode cX3_start 18 = .ok (.putfield 85, 3) := by decide +kernel
theorem dX3_start_21 : decode cX3_start 21 = .ok (.aload_n 0, 1) := by decide +kernel
theorem dX3_start_22 : decode cX3_start 22 = .ok (.iconst 0, 1) := by decide +kernel
theorem dX3_start_23 : decode cX3_start 23 = .ok (.putfield 88, 3) := by decide +kernel
theorem dX3_start_26 : decode cX3_start 26 = .ok (.return_, 1) := by decide +kernel
theorem dX3_handler_0 : decode cX3_handler 0 = .ok (.aload_n 0, 1) := by decide +kernel
theorem dX3_handler_1 : decode cX3_handler 1 = .ok (.iload_n 1, 1) := by decide +kernel
theorem dX3_handler_2 : decode cX3_handler 2 = .ok (.iconst 0, 1) := by decide +kernel
theorem dX3_handler_3 : decode cX3_handler 3 = .ok (.bipush 63, 2) := by decide +kernel
theorem dX3_handler_5 : decode cX3_handler 5 = .ok (.invokevirtual 75, 3) := by decide +kernel
theorem dX3_handler_8 : decode cX3_handler 8 = .ok (.ifCond .eq 5, 3) := by decide +kernel
theorem dX3_handler_11 : decode cX3_handler 11 = .ok (.iconst 0, 1) := by decide +kernel
theorem dX3_handler_12 : decode cX3_handler 12 = .ok (.ireturn, 1) := by decide +kernel
theorem dX3_handler_13 : decode cX3_handler 13 = .ok (.aload_n 0, 1) := by decide +kernel
theorem dX3_handler_14 : decode cX3_handler 14 = .ok (.getfield 92, 3) := by decide +kernel
theorem dX3_handler_17 : decode cX3_handler 17 = .ok (.istore_n 2, 1) := by decide +kernel
theorem dX3_handler_18 : decode cX3_handler 18 = .ok (.aload_n 0, 1) := by decide +kernel
theorem dX3_handler_19 : decode cX3_handler 19 = .ok (.iload_n 1, 1) := by decide +kernel
theorem dX3_handler_20 : decode cX3_handler 20 = .ok (.putfield 92, 3) := by decide +kernel
theorem dX3_handler_23 : decode cX3_handler 23 = .ok (.iload_n 2, 1) := by decide +kernel
theorem dX3_handler_24 : decode cX3_handler 24 = .ok (.ireturn, 1) := by decide +kernel
theorem dX3_writes_0 : decode cX3_writes 0 = .ok (.iload_n 0, 1) := by decide +kernel
theorem dX3_writes_1 : decode cX3_writes 1 = .ok (.iconst 0, 1) := by decide +kernel
theorem dX3_writes_2 : decode cX3_writes 2 = .ok (.bipush 11, 2) := by decide +kernel
theorem dX3_writes_4 : decode cX3_writes 4 = .ok (.invokestatic 79, 3) := by decide +kernel
theorem dX3_writes_7 : decode cX3_writes 7 = .ok (.ifCond .ne 15, 3) := by decide +kernel
theorem dX3_writes_10 : decode cX3_writes 10 = .ok (.iload_n 0, 1) := by decide +kernel
theorem dX3_writes_11 : decode cX3_writes 11 = .ok (.bipush 15, 2) := by decide +kernel
theorem dX3_writes_13 : decode cX3_writes 13 = .ok (.if_icmp .eq 9, 3) := by decide +kernel
theorem dX3_writes_16 : decode cX3_writes 16 = .ok (.iload_n 0, 1) := by decide +kernel
theorem dX3_writes_17 : decode cX3_writes 17 = .ok (.bipush 16, 2) := by decide +kernel
theorem dX3_writes_19 : decode cX3_writes 19 = .ok (.if_icmp .ne 7, 3) := by decide +kernel
theorem dX3_writes_22 : decode cX3_writes 22 = .ok (.iconst 1, 1) := by decide +kernel
theorem dX3_writes_23 : decode cX3_writes 23 = .ok (.goto 4, 3) := by decide +kernel
theorem dX3_writes_26 : decode cX3_writes 26 = .ok (.iconst 0, 1) := by decide +kernel
theorem dX3_writes_27 : decode cX3_writes 27 = .ok (.ireturn, 1) := by decide +kernel
theorem dX3_usesFirst_0 : decode cX3_usesFirst 0 = .ok (.iload_n 0, 1) := by decide +kernel
theorem dX3_usesFirst_1 : decode cX3_usesFirst 1 = .ok (.iconst 0, 1) := by decide +kernel
theorem dX3_usesFirst_2 : decode cX3_usesFirst 2 = .ok (.bipush 9, 2) := by decide +kernel
theorem dX3_usesFirst_4 : decode cX3_usesFirst 4 = .ok (.invokestatic 79, 3) := by decide +kernel
theorem dX3_usesFirst_7 : decode cX3_usesFirst 7 = .ok (.ifCond .ne 20, 3) := by decide +kernel
theorem dX3_usesFirst_10 : decode cX3_usesFirst 10 = .ok (.iload_n 0, 1) := by decide +kernel
theorem dX3_usesFirst_11 : decode cX3_usesFirst 11 = .ok (.bipush 11, 2) := by decide +kernel
theorem dX3_usesFirst_13 : decode cX3_usesFirst 13 = .ok (.bipush 14, 2) := by decide +kernel
theorem dX3_usesFirst_15 : decode cX3_usesFirst 15 = .ok (.invokestatic 79, 3) := by decide +kernel
theorem dX3_usesFirst_18 : decode cX3_usesFirst 18 = .ok (.ifCond .ne 9, 3) := by decide +kernel
theorem dX3_usesFirst_21 : decode cX3_usesFirst 21 = .ok (.iload_n 0, 1) := by decide +kernel
theorem dX3_usesFirst_22 : decode cX3_usesFirst 22 = .ok (.bipush 16, 2) := by decide +kernel
theorem dX3_usesFirst_24 : decode cX3_usesFirst 24 = .ok (.if_icmp .ne 7, 3) := by decide +kernel
theorem dX3_usesFirst_27 : decode cX3_usesFirst 27 = .ok (.iconst 1, 1) := by decide +kernel
theorem dX3_usesFirst_28 : decode cX3_usesFirst 28 = .ok (.goto 4, 3) := by decide +kernel
theorem dX3_usesFirst_31 : decode cX3_usesFirst 31 = .ok (.iconst 0, 1) := by decide +kernel
theorem dX3_usesFirst_32 : decode cX3_usesFirst 32 = .ok (.ireturn, 1) := by decide +kernel
theorem dX3_usesSecond_0 : decode cX3_usesSecond 0 = .ok (.iload_n 0, 1) := by decide +kernel
theorem dX3_usesSecond_1 : decode cX3_usesSecond 1 = .ok (.iconst 0, 1) := by decide +kernel
theorem dX3_usesSecond_2 : decode cX3_usesSecond 2 = .ok (.bipush 8, 2) := by decide +kernel
theorem dX3_usesSecond_4 : decode cX3_usesSecond 4 = .ok (.invokestatic 79, 3) := by decide +kernel
theorem dX3_usesSecond_7 : decode cX3_usesSecond 7 = .ok (.ifCond .ne 14, 3) := by decide +kernel
theorem dX3_usesSecond_10 : decode cX3_usesSecond 10 = .ok (.iload_n 0, 1) := by decide +kernel
theorem dX3_usesSecond_11 : decode cX3_usesSecond 11 = .ok (.bipush 12, 2) := by decide +kernel
theorem dX3_usesSecond_13 : decode cX3_usesSecond 13 = .ok (.bipush 14, 2) := by decide +kernel
theorem dX3_usesSecond_15 : decode cX3_usesSecond 15 = .ok (.invokestatic 79, 3) := by decide +kernel
theorem dX3_usesSecond_18 : decode cX3_usesSecond 18 = .ok (.ifCond .eq 7, 3) := by decide +kernel
theorem dX3_usesSecond_21 : decode cX3_usesSecond 21 = .ok (.iconst 1, 1) := by decide +kernel
theorem dX3_usesSecond_22 : decode cX3_usesSecond 22 = .ok (.goto 4, 3) := by decide +kernel
theorem dX3_usesSecond_25 : decode cX3_usesSecond 25 = .ok (.iconst 0, 1) := by decide +kernel
theorem dX3_usesSecond_26 : decode cX3_usesSecond 26 = .ok (.ireturn, 1) := by decide +kernel
theorem dX3_move_0 : decode cX3_move 0 = .ok (.iload_n 1, 1) := by decide +kernel
theorem dX3_move_1 : decode cX3_move 1 = .ok (.iconst 1, 1) := by decide +kernel
theorem dX3_move_2 : decode cX3_move 2 = .ok (.iadd, 1) := by decide +kernel
theorem dX3_move_3 : decode cX3_move 3 = .ok (.istore_n 2, 1) := by decide +kernel
theorem dX3_move_4 : decode cX3_move 4 = .ok (.aload_n 0, 1) := by decide +kernel
theorem dX3_move_5 : decode cX3_move 5 = .ok (.getfield 34, 3) := by decide +kernel
theorem dX3_move_8 : decode cX3_move 8 = .ok (.iload_n 2, 1) := by decide +kernel
theorem dX3_move_9 : decode cX3_move 9 = .ok (.iconst 1, 1) := by decide +kernel
theorem dX3_move_10 : decode cX3_move 10 = .ok (.bastore, 1) := by decide +kernel
theorem dX3_move_11 : decode cX3_move 11 = .ok (.aload_n 0, 1) := by decide +kernel
theorem dX3_move_12 : decode cX3_move 12 = .ok (.getfield 34, 3) := by decide +kernel
theorem dX3_move_15 : decode cX3_move 15 = .ok (.iload_n 1, 1) := by decide +kernel
theorem dX3_move_16 : decode cX3_move 16 = .ok (.iconst 0, 1) := by decide +kernel
theorem dX3_move_17 : decode cX3_move 17 = .ok (.bastore, 1) := by decide +kernel
theorem dX3_move_18 : decode cX3_move 18 = .ok (.aload_n 0, 1) := by decide +kernel
theorem dX3_move_19 : decode cX3_move 19 = .ok (.getfield 38, 3) := by decide +kernel
theorem dX3_move_22 : decode cX3_move 22 = .ok (.iload_n 2, 1) := by decide +kernel
theorem dX3_move_23 : decode cX3_move 23 = .ok (.aload_n 0, 1) := by decide +kernel
theorem dX3_move_24 : decode cX3_move 24 = .ok (.getfield 38, 3) := by decide +kernel
theorem dX3_move_27 : decode cX3_move 27 = .ok (.iload_n 1, 1) := by decide +kernel
theorem dX3_move_28 : decode cX3_move 28 = .ok (.iaload, 1) := by decide +kernel
theorem dX3_move_29 : decode cX3_move 29 = .ok (.iastore, 1) := by decide +kernel
theorem dX3_move_30 : decode cX3_move 30 = .ok (.aload_n 0, 1) := by decide +kernel
theorem dX3_move_31 : decode cX3_move 31 = .ok (.getfield 41, 3) := by decide +kernel
theorem dX3_move_34 : decode cX3_move 34 = .ok (.iload_n 2, 1) := by decide +kernel
theorem dX3_move_35 : decode cX3_move 35 = .ok (.aload_n 0, 1) := by decide +kernel
theorem dX3_move_36 : decode cX3_move 36 = .ok (.getfield 41, 3) := by decide +kernel
theorem dX3_move_39 : decode cX3_move 39 = .ok (.iload_n 1, 1) := by decide +kernel
theorem dX3_move_40 : decode cX3_move 40 = .ok (.iaload, 1) := by decide +kernel
theorem dX3_move_41 : decode cX3_move 41 = .ok (.iastore, 1) := by decide +kernel
theorem dX3_move_42 : decode cX3_move 42 = .ok (.aload_n 0, 1) := by decide +kernel
theorem dX3_move_43 : decode cX3_move 43 = .ok (.getfield 44, 3) := by decide +kernel
theorem dX3_move_46 : decode cX3_move 46 = .ok (.iload_n 2, 1) := by decide +kernel
theorem dX3_move_47 : decode cX3_move 47 = .ok (.aload_n 0, 1) := by decide +kernel
theorem dX3_move_48 : decode cX3_move 48 = .ok (.getfield 44, 3) := by decide +kernel
theorem dX3_move_51 : decode cX3_move 51 = .ok (.iload_n 1, 1) := by decide +kernel
theorem dX3_move_52 : decode cX3_move 52 = .ok (.iaload, 1) := by decide +kernel
theorem dX3_move_53 : decode cX3_move 53 = .ok (.iastore, 1) := by decide +kernel
theorem dX3_move_54 : decode cX3_move 54 = .ok (.aload_n 0, 1) := by decide +kernel
theorem dX3_move_55 : decode cX3_move 55 = .ok (.getfield 47, 3) := by decide +kernel
theorem dX3_move_58 : decode cX3_move 58 = .ok (.iload_n 2, 1) := by decide +kernel
theorem dX3_move_59 : decode cX3_move 59 = .ok (.aload_n 0, 1) := by decide +kernel
theorem dX3_move_60 : decode cX3_move 60 = .ok (.getfield 47, 3) := by decide +kernel
theorem dX3_move_63 : decode cX3_move 63 = .ok (.iload_n 1, 1) := by decide +kernel
theorem dX3_move_64 : decode cX3_move 64 = .ok (.iaload, 1) := by decide +kernel
theorem dX3_move_65 : decode cX3_move 65 = .ok (.iastore, 1) := by decide +kernel
theorem dX3_move_66 : decode cX3_move 66 = .ok (.aload_n 0, 1) := by decide +kernel
theorem dX3_move_67 : decode cX3_move 67 = .ok (.getfield 50, 3) := by decide +kernel
theorem dX3_move_70 : decode cX3_move 70 = .ok (.iload_n 2, 1) := by decide +kernel
theorem dX3_move_71 : decode cX3_move 71 = .ok (.aload_n 0, 1) := by decide +kernel
theorem dX3_move_72 : decode cX3_move 72 = .ok (.getfield 50, 3) := by decide +kernel
theorem dX3_move_75 : decode cX3_move 75 = .ok (.iload_n 1, 1) := by decide +kernel
theorem dX3_move_76 : decode cX3_move 76 = .ok (.iaload, 1) := by decide +kernel
theorem dX3_move_77 : decode cX3_move 77 = .ok (.iastore, 1) := by decide +kernel
theorem dX3_move_78 : decode cX3_move 78 = .ok (.aload_n 0, 1) := by decide +kernel
theorem dX3_move_79 : decode cX3_move 79 = .ok (.getfield 53, 3) := by decide +kernel
theorem dX3_move_82 : decode cX3_move 82 = .ok (.iload_n 2, 1) := by decide +kernel
theorem dX3_move_83 : decode cX3_move 83 = .ok (.aload_n 0, 1) := by decide +kernel
theorem dX3_move_84 : decode cX3_move 84 = .ok (.getfield 53, 3) := by decide +kernel
theorem dX3_move_87 : decode cX3_move 87 = .ok (.iload_n 1, 1) := by decide +kernel
theorem dX3_move_88 : decode cX3_move 88 = .ok (.iaload, 1) := by decide +kernel
theorem dX3_move_89 : decode cX3_move 89 = .ok (.iastore, 1) := by decide +kernel
theorem dX3_move_90 : decode cX3_move 90 = .ok (.aload_n 0, 1) := by decide +kernel
theorem dX3_move_91 : decode cX3_move 91 = .ok (.getfield 56, 3) := by decide +kernel
theorem dX3_move_94 : decode cX3_move 94 = .ok (.iload_n 2, 1) := by decide +kernel
theorem dX3_move_95 : decode cX3_move 95 = .ok (.aload_n 0, 1) := by decide +kernel
theorem dX3_move_96 : decode cX3_move 96 = .ok (.getfield 56, 3) := by decide +kernel
theorem dX3_move_99 : decode cX3_move 99 = .ok (.iload_n 1, 1) := by decide +kernel
theorem dX3_move_100 : decode cX3_move 100 = .ok (.iaload, 1) := by decide +kernel
theorem dX3_move_101 : decode cX3_move 101 = .ok (.iastore, 1) := by decide +kernel
theorem dX3_move_102 : decode cX3_move 102 = .ok (.aload_n 0, 1) := by decide +kernel
theorem dX3_move_103 : decode cX3_move 103 = .ok (.getfield 59, 3) := by decide +kernel
theorem dX3_move_106 : decode cX3_move 106 = .ok (.iload_n 2, 1) := by decide +kernel
theorem dX3_move_107 : decode cX3_move 107 = .ok (.aload_n 0, 1) := by decide +kernel
theorem dX3_move_108 : decode cX3_move 108 = .ok (.getfield 59, 3) := by decide +kernel
theorem dX3_move_111 : decode cX3_move 111 = .ok (.iload_n 1, 1) := by decide +kernel
theorem dX3_move_112 : decode cX3_move 112 = .ok (.iaload, 1) := by decide +kernel
theorem dX3_move_113 : decode cX3_move 113 = .ok (.iastore, 1) := by decide +kernel
theorem dX3_move_114 : decode cX3_move 114 = .ok (.aload_n 0, 1) := by decide +kernel
theorem dX3_move_115 : decode cX3_move 115 = .ok (.getfield 62, 3) := by decide +kernel
theorem dX3_move_118 : decode cX3_move 118 = .ok (.iload_n 2, 1) := by decide +kernel
theorem dX3_move_119 : decode cX3_move 119 = .ok (.aload_n 0, 1) := by decide +kernel
theorem dX3_move_120 : decode cX3_move 120 = .ok (.getfield 62, 3) := by decide +kernel
theorem dX3_move_123 : decode cX3_move 123 = .ok (.iload_n 1, 1) := by decide +kernel
theorem dX3_move_124 : decode cX3_move 124 = .ok (.iaload, 1) := by decide +kernel
theorem dX3_move_125 : decode cX3_move 125 = .ok (.iastore, 1) := by decide +kernel
theorem dX3_move_126 : decode cX3_move 126 = .ok (.aload_n 0, 1) := by decide +kernel
theorem dX3_move_127 : decode cX3_move 127 = .ok (.getfield 65, 3) := by decide +kernel
theorem dX3_move_130 : decode cX3_move 130 = .ok (.iload_n 2, 1) := by decide +kernel
theorem dX3_move_131 : decode cX3_move 131 = .ok (.aload_n 0, 1) := by decide +kernel
theorem dX3_move_132 : decode cX3_move 132 = .ok (.getfield 65, 3) := by decide +kernel
theorem dX3_move_135 : decode cX3_move 135 = .ok (.iload_n 1, 1) := by decide +kernel
theorem dX3_move_136 : decode cX3_move 136 = .ok (.iaload, 1) := by decide +kernel
theorem dX3_move_137 : decode cX3_move 137 = .ok (.iastore, 1) := by decide +kernel
theorem dX3_move_138 : decode cX3_move 138 = .ok (.return_, 1) := by decide +kernel
theorem dX3_leave_0 : decode cX3_leave 0 = .ok (.aload_n 0, 1) := by decide +kernel
theorem dX3_leave_1 : decode cX3_leave 1 = .ok (.getfield 34, 3) := by decide +kernel
theorem dX3_leave_4 : decode cX3_leave 4 = .ok (.iconst 4, 1) := by decide +kernel
theorem dX3_leave_5 : decode cX3_leave 5 = .ok (.baload, 1) := by decide +kernel
theorem dX3_leave_6 : decode cX3_leave 6 = .ok (.ifCond .ne 5, 3) := by decide +kernel
theorem dX3_leave_9 : decode cX3_leave 9 = .ok (.iconst 0, 1) := by decide +kernel
theorem dX3_leave_10 : decode cX3_leave 10 = .ok (.ireturn, 1) := by decide +kernel
theorem dX3_leave_11 : decode cX3_leave 11 = .ok (.aload_n 0, 1) := by decide +kernel
theorem dX3_leave_12 : decode cX3_leave 12 = .ok (.getfield 34, 3) := by decide +kernel
theorem dX3_leave_15 : decode cX3_leave 15 = .ok (.iconst 4, 1) := by decide +kernel
theorem dX3_leave_16 : decode cX3_leave 16 = .ok (.iconst 0, 1) := by decide +kernel
theorem dX3_leave_17 : decode cX3_leave 17 = .ok (.bastore, 1) := by decide +kernel
theorem dX3_leave_18 : decode cX3_leave 18 = .ok (.aload_n 0, 1) := by decide +kernel
theorem dX3_leave_19 : decode cX3_leave 19 = .ok (.getfield 65, 3) := by decide +kernel
theorem dX3_leave_22 : decode cX3_leave 22 = .ok (.iconst 4, 1) := by decide +kernel
theorem dX3_leave_23 : decode cX3_leave 23 = .ok (.iaload, 1) := by decide +kernel
theorem dX3_leave_24 : decode cX3_leave 24 = .ok (.ifCond .le 47, 3) := by decide +kernel
theorem dX3_leave_27 : decode cX3_leave 27 = .ok (.aload_n 0, 1) := by decide +kernel
theorem dX3_leave_28 : decode cX3_leave 28 = .ok (.dup, 1) := by decide +kernel
theorem dX3_leave_29 : decode cX3_leave 29 = .ok (.getfield 95, 3) := by decide +kernel
theorem dX3_leave_32 : decode cX3_leave 32 = .ok (.iconst 1, 1) := by decide +kernel
theorem dX3_leave_33 : decode cX3_leave 33 = .ok (.iadd, 1) := by decide +kernel
theorem dX3_leave_34 : decode cX3_leave 34 = .ok (.putfield 95, 3) := by decide +kernel
theorem dX3_leave_37 : decode cX3_leave 37 = .ok (.aload_n 0, 1) := by decide +kernel
theorem dX3_leave_38 : decode cX3_leave 38 = .ok (.aload_n 0, 1) := by decide +kernel
theorem dX3_leave_39 : decode cX3_leave 39 = .ok (.getfield 65, 3) := by decide +kernel
theorem dX3_leave_42 : decode cX3_leave 42 = .ok (.iconst 4, 1) := by decide +kernel
theorem dX3_leave_43 : decode cX3_leave 43 = .ok (.iaload, 1) := by decide +kernel
theorem dX3_leave_44 : decode cX3_leave 44 = .ok (.putfield 98, 3) := by decide +kernel
theorem dX3_leave_47 : decode cX3_leave 47 = .ok (.aload_n 0, 1) := by decide +kernel
theorem dX3_leave_48 : decode cX3_leave 48 = .ok (.aload_n 0, 1) := by decide +kernel
theorem dX3_leave_49 : decode cX3_leave 49 = .ok (.getfield 38, 3) := by decide +kernel
theorem dX3_leave_52 : decode cX3_leave 52 = .ok (.iconst 4, 1) := by decide +kernel
theorem dX3_leave_53 : decode cX3_leave 53 = .ok (.iaload, 1) := by decide +kernel
theorem dX3_leave_54 : decode cX3_leave 54 = .ok (.putfield 101, 3) := by decide +kernel
theorem dX3_leave_57 : decode cX3_leave 57 = .ok (.aload_n 0, 1) := by decide +kernel
theorem dX3_leave_58 : decode cX3_leave 58 = .ok (.aload_n 0, 1) := by decide +kernel
theorem dX3_leave_59 : decode cX3_leave 59 = .ok (.getfield 92, 3) := by decide +kernel
theorem dX3_leave_62 : decode cX3_leave 62 = .ok (.putfield 85, 3) := by decide +kernel
theorem dX3_leave_65 : decode cX3_leave 65 = .ok (.aload_n 0, 1) := by decide +kernel
theorem dX3_leave_66 : decode cX3_leave 66 = .ok (.invokevirtual 82, 3) := by decide +kernel
theorem dX3_leave_69 : decode cX3_leave 69 = .ok (.iconst 1, 1) := by decide +kernel
theorem dX3_leave_70 : decode cX3_leave 70 = .ok (.ireturn, 1) := by decide +kernel
theorem dX3_leave_71 : decode cX3_leave 71 = .ok (.aload_n 0, 1) := by decide +kernel
theorem dX3_leave_72 : decode cX3_leave 72 = .ok (.getfield 41, 3) := by decide +kernel
theorem dX3_leave_75 : decode cX3_leave 75 = .ok (.iconst 4, 1) := by decide +kernel
theorem dX3_leave_76 : decode cX3_leave 76 = .ok (.iaload, 1) := by decide +kernel
theorem dX3_leave_77 : decode cX3_leave 77 = .ok (.bipush 18, 2) := by decide +kernel
theorem dX3_leave_79 : decode cX3_leave 79 = .ok (.if_icmp .ne 14, 3) := by decide +kernel
theorem dX3_leave_82 : decode cX3_leave 82 = .ok (.aload_n 0, 1) := by decide +kernel
theorem dX3_leave_83 : decode cX3_leave 83 = .ok (.iconst 1, 1) := by decide +kernel
theorem dX3_leave_84 : decode cX3_leave 84 = .ok (.putfield 88, 3) := by decide +kernel
theorem dX3_leave_87 : decode cX3_leave 87 = .ok (.aload_n 0, 1) := by decide +kernel
theorem dX3_leave_88 : decode cX3_leave 88 = .ok (.invokevirtual 82, 3) := by decide +kernel
theorem dX3_leave_91 : decode cX3_leave 91 = .ok (.iconst 1, 1) := by decide +kernel
theorem dX3_leave_92 : decode cX3_leave 92 = .ok (.ireturn, 1) := by decide +kernel
theorem dX3_leave_93 : decode cX3_leave 93 = .ok (.aload_n 0, 1) := by decide +kernel
theorem dX3_leave_94 : decode cX3_leave 94 = .ok (.getfield 41, 3) := by decide +kernel
theorem dX3_leave_97 : decode cX3_leave 97 = .ok (.iconst 4, 1) := by decide +kernel
theorem dX3_leave_98 : decode cX3_leave 98 = .ok (.iaload, 1) := by decide +kernel
theorem dX3_leave_99 : decode cX3_leave 99 = .ok (.invokestatic 104, 3) := by decide +kernel
theorem dX3_leave_102 : decode cX3_leave 102 = .ok (.ifCond .eq 29, 3) := by decide +kernel
theorem dX3_leave_105 : decode cX3_leave 105 = .ok (.aload_n 0, 1) := by decide +kernel
theorem dX3_leave_106 : decode cX3_leave 106 = .ok (.getfield 44, 3) := by decide +kernel
theorem dX3_leave_109 : decode cX3_leave 109 = .ok (.iconst 4, 1) := by decide +kernel
theorem dX3_leave_110 : decode cX3_leave 110 = .ok (.iaload, 1) := by decide +kernel
theorem dX3_leave_111 : decode cX3_leave 111 = .ok (.ifCond .eq 20, 3) := by decide +kernel
theorem dX3_leave_114 : decode cX3_leave 114 = .ok (.aload_n 0, 1) := by decide +kernel
theorem dX3_leave_115 : decode cX3_leave 115 = .ok (.getfield 28, 3) := by decide +kernel
theorem dX3_leave_118 : decode cX3_leave 118 = .ok (.aload_n 0, 1) := by decide +kernel
theorem dX3_leave_119 : decode cX3_leave 119 = .ok (.getfield 44, 3) := by decide +kernel
theorem dX3_leave_122 : decode cX3_leave 122 = .ok (.iconst 4, 1) := by decide +kernel
theorem dX3_leave_123 : decode cX3_leave 123 = .ok (.iaload, 1) := by decide +kernel
theorem dX3_leave_124 : decode cX3_leave 124 = .ok (.aload_n 0, 1) := by decide +kernel
theorem dX3_leave_125 : decode cX3_leave 125 = .ok (.getfield 59, 3) := by decide +kernel
theorem dX3_leave_128 : decode cX3_leave 128 = .ok (.iconst 4, 1) := by decide +kernel
theorem dX3_leave_129 : decode cX3_leave 129 = .ok (.iaload, 1) := by decide +kernel
theorem dX3_leave_130 : decode cX3_leave 130 = .ok (.iastore, 1) := by decide +kernel
theorem dX3_leave_131 : decode cX3_leave 131 = .ok (.aload_n 0, 1) := by decide +kernel
theorem dX3_leave_132 : decode cX3_leave 132 = .ok (.dup, 1) := by decide +kernel
theorem dX3_leave_133 : decode cX3_leave 133 = .ok (.getfield 108, 3) := by decide +kernel
theorem dX3_leave_136 : decode cX3_leave 136 = .ok (.iconst 1, 1) := by decide +kernel
theorem dX3_leave_137 : decode cX3_leave 137 = .ok (.iadd, 1) := by decide +kernel
theorem dX3_leave_138 : decode cX3_leave 138 = .ok (.putfield 108, 3) := by decide +kernel
theorem dX3_leave_141 : decode cX3_leave 141 = .ok (.bipush 15, 2) := by decide +kernel
theorem dX3_leave_143 : decode cX3_leave 143 = .ok (.istore_n 1, 1) := by decide +kernel
theorem dX3_leave_144 : decode cX3_leave 144 = .ok (.iload_n 1, 1) := by decide +kernel
theorem dX3_leave_145 : decode cX3_leave 145 = .ok (.ifCond .le 23, 3) := by decide +kernel
theorem dX3_leave_148 : decode cX3_leave 148 = .ok (.aload_n 0, 1) := by decide +kernel
theorem dX3_leave_149 : decode cX3_leave 149 = .ok (.getfield 68, 3) := by decide +kernel
theorem dX3_leave_152 : decode cX3_leave 152 = .ok (.iload_n 1, 1) := by decide +kernel
theorem dX3_leave_153 : decode cX3_leave 153 = .ok (.aload_n 0, 1) := by decide +kernel
theorem dX3_leave_154 : decode cX3_leave 154 = .ok (.getfield 68, 3) := by decide +kernel
theorem dX3_leave_157 : decode cX3_leave 157 = .ok (.iload_n 1, 1) := by decide +kernel
theorem dX3_leave_158 : decode cX3_leave 158 = .ok (.iconst 1, 1) := by decide +kernel
theorem dX3_leave_159 : decode cX3_leave 159 = .ok (.isub, 1) := by decide +kernel
theorem dX3_leave_160 : decode cX3_leave 160 = .ok (.iaload, 1) := by decide +kernel
theorem dX3_leave_161 : decode cX3_leave 161 = .ok (.iastore, 1) := by decide +kernel
theorem dX3_leave_162 : decode cX3_leave 162 = .ok (.iinc 1 (-1), 3) := by decide +kernel
theorem dX3_leave_165 : decode cX3_leave 165 = .ok (.goto (-21), 3) := by decide +kernel
theorem dX3_leave_168 : decode cX3_leave 168 = .ok (.aload_n 0, 1) := by decide +kernel
theorem dX3_leave_169 : decode cX3_leave 169 = .ok (.getfield 68, 3) := by decide +kernel
theorem dX3_leave_172 : decode cX3_leave 172 = .ok (.iconst 0, 1) := by decide +kernel
theorem dX3_leave_173 : decode cX3_leave 173 = .ok (.aload_n 0, 1) := by decide +kernel
theorem dX3_leave_174 : decode cX3_leave 174 = .ok (.getfield 38, 3) := by decide +kernel
theorem dX3_leave_177 : decode cX3_leave 177 = .ok (.iconst 4, 1) := by decide +kernel
theorem dX3_leave_178 : decode cX3_leave 178 = .ok (.iaload, 1) := by decide +kernel
theorem dX3_leave_179 : decode cX3_leave 179 = .ok (.iastore, 1) := by decide +kernel
theorem dX3_leave_180 : decode cX3_leave 180 = .ok (.aload_n 0, 1) := by decide +kernel
theorem dX3_leave_181 : decode cX3_leave 181 = .ok (.aload_n 0, 1) := by decide +kernel
theorem dX3_leave_182 : decode cX3_leave 182 = .ok (.getfield 111, 3) := by decide +kernel
theorem dX3_leave_185 : decode cX3_leave 185 = .ok (.bipush 16, 2) := by decide +kernel
theorem dX3_leave_187 : decode cX3_leave 187 = .ok (.if_icmp .ge 12, 3) := by decide +kernel
theorem dX3_leave_190 : decode cX3_leave 190 = .ok (.aload_n 0, 1) := by decide +kernel
theorem dX3_leave_191 : decode cX3_leave 191 = .ok (.getfield 111, 3) := by decide +kernel
theorem dX3_leave_194 : decode cX3_leave 194 = .ok (.iconst 1, 1) := by decide +kernel
theorem dX3_leave_195 : decode cX3_leave 195 = .ok (.iadd, 1) := by decide +kernel
theorem dX3_leave_196 : decode cX3_leave 196 = .ok (.goto 5, 3) := by decide +kernel
theorem dX3_leave_199 : decode cX3_leave 199 = .ok (.bipush 16, 2) := by decide +kernel
theorem dX3_leave_201 : decode cX3_leave 201 = .ok (.putfield 111, 3) := by decide +kernel
theorem dX3_leave_204 : decode cX3_leave 204 = .ok (.iconst 0, 1) := by decide +kernel
theorem dX3_leave_205 : decode cX3_leave 205 = .ok (.ireturn, 1) := by decide +kernel
theorem dX3_remember_0 : decode cX3_remember 0 = .ok (.aload_n 0, 1) := by decide +kernel
theorem dX3_remember_1 : decode cX3_remember 1 = .ok (.getfield 34, 3) := by decide +kernel
theorem dX3_remember_4 : decode cX3_remember 4 = .ok (.iconst 3, 1) := by decide +kernel
theorem dX3_remember_5 : decode cX3_remember 5 = .ok (.baload, 1) := by decide +kernel
theorem dX3_remember_6 : decode cX3_remember 6 = .ok (.ifCond .ne 4, 3) := by decide +kernel
theorem dX3_remember_9 : decode cX3_remember 9 = .ok (.return_, 1) := by decide +kernel
theorem dX3_remember_10 : decode cX3_remember 10 = .ok (.aload_n 0, 1) := by decide +kernel
theorem dX3_remember_11 : decode cX3_remember 11 = .ok (.iconst 3, 1) := by decide +kernel
theorem dX3_remember_12 : decode cX3_remember 12 = .ok (.invokevirtual 114, 3) := by decide +kernel
theorem dX3_remember_15 : decode cX3_remember 15 = .ok (.aload_n 0, 1) := by decide +kernel
theorem dX3_remember_16 : decode cX3_remember 16 = .ok (.getfield 65, 3) := by decide +kernel
theorem dX3_remember_19 : decode cX3_remember 19 = .ok (.iconst 4, 1) := by decide +kernel
theorem dX3_remember_20 : decode cX3_remember 20 = .ok (.iaload, 1) := by decide +kernel
theorem dX3_remember_21 : decode cX3_remember 21 = .ok (.ifCond .ne 31, 3) := by decide +kernel
theorem dX3_remember_24 : decode cX3_remember 24 = .ok (.aload_n 0, 1) := by decide +kernel
theorem dX3_remember_25 : decode cX3_remember 25 = .ok (.getfield 41, 3) := by decide +kernel
theorem dX3_remember_28 : decode cX3_remember 28 = .ok (.iconst 4, 1) := by decide +kernel
theorem dX3_remember_29 : decode cX3_remember 29 = .ok (.iaload, 1) := by decide +kernel
theorem dX3_remember_30 : decode cX3_remember 30 = .ok (.bipush 11, 2) := by decide +kernel
theorem dX3_remember_32 : decode cX3_remember 32 = .ok (.if_icmp .ne 20, 3) := by decide +kernel
theorem dX3_remember_35 : decode cX3_remember 35 = .ok (.aload_n 0, 1) := by decide +kernel
theorem dX3_remember_36 : decode cX3_remember 36 = .ok (.getfield 59, 3) := by decide +kernel
theorem dX3_remember_39 : decode cX3_remember 39 = .ok (.iconst 4, 1) := by decide +kernel
theorem dX3_remember_40 : decode cX3_remember 40 = .ok (.aload_n 0, 1) := by decide +kernel
theorem dX3_remember_41 : decode cX3_remember 41 = .ok (.getfield 25, 3) := by decide +kernel
theorem dX3_remember_44 : decode cX3_remember 44 = .ok (.aload_n 0, 1) := by decide +kernel
theorem dX3_remember_45 : decode cX3_remember 45 = .ok (.getfield 62, 3) := by decide +kernel
theorem dX3_remember_48 : decode cX3_remember 48 = .ok (.iconst 4, 1) := by decide +kernel
theorem dX3_remember_49 : decode cX3_remember 49 = .ok (.iaload, 1) := by decide +kernel
theorem dX3_remember_50 : decode cX3_remember 50 = .ok (.iaload, 1) := by decide +kernel
theorem dX3_remember_51 : decode cX3_remember 51 = .ok (.iastore, 1) := by decide +kernel
theorem dX3_remember_52 : decode cX3_remember 52 = .ok (.aload_n 0, 1) := by decide +kernel
theorem dX3_remember_53 : decode cX3_remember 53 = .ok (.getfield 65, 3) := by decide +kernel
theorem dX3_remember_56 : decode cX3_remember 56 = .ok (.iconst 4, 1) := by decide +kernel
theorem dX3_remember_57 : decode cX3_remember 57 = .ok (.iaload, 1) := by decide +kernel
theorem dX3_remember_58 : decode cX3_remember 58 = .ok (.ifCond .ne 31, 3) := by decide +kernel
theorem dX3_remember_61 : decode cX3_remember 61 = .ok (.aload_n 0, 1) := by decide +kernel
theorem dX3_remember_62 : decode cX3_remember 62 = .ok (.getfield 41, 3) := by decide +kernel
theorem dX3_remember_65 : decode cX3_remember 65 = .ok (.iconst 4, 1) := by decide +kernel
theorem dX3_remember_66 : decode cX3_remember 66 = .ok (.iaload, 1) := by decide +kernel
theorem dX3_remember_67 : decode cX3_remember 67 = .ok (.bipush 12, 2) := by decide +kernel
theorem dX3_remember_69 : decode cX3_remember 69 = .ok (.if_icmp .ne 20, 3) := by decide +kernel
theorem dX3_remember_72 : decode cX3_remember 72 = .ok (.aload_n 0, 1) := by decide +kernel
theorem dX3_remember_73 : decode cX3_remember 73 = .ok (.getfield 25, 3) := by decide +kernel
theorem dX3_remember_76 : decode cX3_remember 76 = .ok (.aload_n 0, 1) := by decide +kernel
theorem dX3_remember_77 : decode cX3_remember 77 = .ok (.getfield 62, 3) := by decide +kernel
theorem dX3_remember_80 : decode cX3_remember 80 = .ok (.iconst 4, 1) := by decide +kernel
theorem dX3_remember_81 : decode cX3_remember 81 = .ok (.iaload, 1) := by decide +kernel
theorem dX3_remember_82 : decode cX3_remember 82 = .ok (.aload_n 0, 1) := by decide +kernel
theorem dX3_remember_83 : decode cX3_remember 83 = .ok (.getfield 59, 3) := by decide +kernel
theorem dX3_remember_86 : decode cX3_remember 86 = .ok (.iconst 4, 1) := by decide +kernel
theorem dX3_remember_87 : decode cX3_remember 87 = .ok (.iaload, 1) := by decide +kernel
theorem dX3_remember_88 : decode cX3_remember 88 = .ok (.iastore, 1) := by decide +kernel
theorem dX3_remember_89 : decode cX3_remember 89 = .ok (.return_, 1) := by decide +kernel
theorem dX3_read_0 : decode cX3_read 0 = .ok (.aload_n 0, 1) := by decide +kernel
theorem dX3_read_1 : decode cX3_read 1 = .ok (.getfield 34, 3) := by decide +kernel
theorem dX3_read_4 : decode cX3_read 4 = .ok (.iconst 4, 1) := by decide +kernel
theorem dX3_read_5 : decode cX3_read 5 = .ok (.baload, 1) := by decide +kernel
theorem dX3_read_6 : decode cX3_read 6 = .ok (.ifCond .eq 42, 3) := by decide +kernel
theorem dX3_read_9 : decode cX3_read 9 = .ok (.aload_n 0, 1) := by decide +kernel
theorem dX3_read_10 : decode cX3_read 10 = .ok (.getfield 65, 3) := by decide +kernel
theorem dX3_read_13 : decode cX3_read 13 = .ok (.iconst 4, 1) := by decide +kernel
theorem dX3_read_14 : decode cX3_read 14 = .ok (.iaload, 1) := by decide +kernel
theorem dX3_read_15 : decode cX3_read 15 = .ok (.ifCond .ne 33, 3) := by decide +kernel
theorem dX3_read_18 : decode cX3_read 18 = .ok (.aload_n 0, 1) := by decide +kernel
theorem dX3_read_19 : decode cX3_read 19 = .ok (.getfield 41, 3) := by decide +kernel
theorem dX3_read_22 : decode cX3_read 22 = .ok (.iconst 4, 1) := by decide +kernel
theorem dX3_read_23 : decode cX3_read 23 = .ok (.iaload, 1) := by decide +kernel
theorem dX3_read_24 : decode cX3_read 24 = .ok (.invokestatic 104, 3) := by decide +kernel
theorem dX3_read_27 : decode cX3_read 27 = .ok (.ifCond .eq 21, 3) := by decide +kernel
theorem dX3_read_30 : decode cX3_read 30 = .ok (.aload_n 0, 1) := by decide +kernel
theorem dX3_read_31 : decode cX3_read 31 = .ok (.getfield 44, 3) := by decide +kernel
theorem dX3_read_34 : decode cX3_read 34 = .ok (.iconst 4, 1) := by decide +kernel
theorem dX3_read_35 : decode cX3_read 35 = .ok (.iaload, 1) := by decide +kernel
theorem dX3_read_36 : decode cX3_read 36 = .ok (.iload_n 1, 1) := by decide +kernel
theorem dX3_read_37 : decode cX3_read 37 = .ok (.if_icmp .ne 11, 3) := by decide +kernel
theorem dX3_read_40 : decode cX3_read 40 = .ok (.iload_n 1, 1) := by decide +kernel
theorem dX3_read_41 : decode cX3_read 41 = .ok (.ifCond .eq 7, 3) := by decide +kernel
theorem dX3_read_44 : decode cX3_read 44 = .ok (.iconst 1, 1) := by decide +kernel
theorem dX3_read_45 : decode cX3_read 45 = .ok (.goto 4, 3) := by decide +kernel
theorem dX3_read_48 : decode cX3_read 48 = .ok (.iconst 0, 1) := by decide +kernel
theorem dX3_read_49 : decode cX3_read 49 = .ok (.istore_n 2, 1) := by decide +kernel
theorem dX3_read_50 : decode cX3_read 50 = .ok (.iload_n 2, 1) := by decide +kernel
theorem dX3_read_51 : decode cX3_read 51 = .ok (.ifCond .eq 12, 3) := by decide +kernel
theorem dX3_read_54 : decode cX3_read 54 = .ok (.aload_n 0, 1) := by decide +kernel
theorem dX3_read_55 : decode cX3_read 55 = .ok (.getfield 59, 3) := by decide +kernel
theorem dX3_read_58 : decode cX3_read 58 = .ok (.iconst 4, 1) := by decide +kernel
theorem dX3_read_59 : decode cX3_read 59 = .ok (.iaload, 1) := by decide +kernel
theorem dX3_read_60 : decode cX3_read 60 = .ok (.goto 9, 3) := by decide +kernel
theorem dX3_read_63 : decode cX3_read 63 = .ok (.aload_n 0, 1) := by decide +kernel
theorem dX3_read_64 : decode cX3_read 64 = .ok (.getfield 28, 3) := by decide +kernel
theorem dX3_read_67 : decode cX3_read 67 = .ok (.iload_n 1, 1) := by decide +kernel
theorem dX3_read_68 : decode cX3_read 68 = .ok (.iaload, 1) := by decide +kernel
theorem dX3_read_69 : decode cX3_read 69 = .ok (.ireturn, 1) := by decide +kernel
theorem dX3_reckon_0 : decode cX3_reckon 0 = .ok (.iload_n 0, 1) := by decide +kernel
theorem dX3_reckon_1 : decode cX3_reckon 1 = .ok (.tableswitch 89 0 7 #[47, 51, 55, 59, 63, 67, 74, 85], 47) := by decide +kernel
theorem dX3_reckon_48 : decode cX3_reckon 48 = .ok (.iload_n 1, 1) := by decide +kernel
theorem dX3_reckon_49 : decode cX3_reckon 49 = .ok (.iload_n 2, 1) := by decide +kernel
theorem dX3_reckon_50 : decode cX3_reckon 50 = .ok (.iadd, 1) := by decide +kernel
theorem dX3_reckon_51 : decode cX3_reckon 51 = .ok (.ireturn, 1) := by decide +kernel
theorem dX3_reckon_52 : decode cX3_reckon 52 = .ok (.iload_n 1, 1) := by decide +kernel
theorem dX3_reckon_53 : decode cX3_reckon 53 = .ok (.iload_n 2, 1) := by decide +kernel
theorem dX3_reckon_54 : decode cX3_reckon 54 = .ok (.isub, 1) := by decide +kernel
theorem dX3_reckon_55 : decode cX3_reckon 55 = .ok (.ireturn, 1) := by decide +kernel
theorem dX3_reckon_56 : decode cX3_reckon 56 = .ok (.iload_n 1, 1) := by decide +kernel
theorem dX3_reckon_57 : decode cX3_reckon 57 = .ok (.iload_n 2, 1) := by decide +kernel
theorem dX3_reckon_58 : decode cX3_reckon 58 = .ok (.iand, 1) := by decide +kernel
theorem dX3_reckon_59 : decode cX3_reckon 59 = .ok (.ireturn, 1) := by decide +kernel
theorem dX3_reckon_60 : decode cX3_reckon 60 = .ok (.iload_n 1, 1) := by decide +kernel
theorem dX3_reckon_61 : decode cX3_reckon 61 = .ok (.iload_n 2, 1) := by decide +kernel
theorem dX3_reckon_62 : decode cX3_reckon 62 = .ok (.ior, 1) := by decide +kernel
theorem dX3_reckon_63 : decode cX3_reckon 63 = .ok (.ireturn, 1) := by decide +kernel
theorem dX3_reckon_64 : decode cX3_reckon 64 = .ok (.iload_n 1, 1) := by decide +kernel
theorem dX3_reckon_65 : decode cX3_reckon 65 = .ok (.iload_n 2, 1) := by decide +kernel
theorem dX3_reckon_66 : decode cX3_reckon 66 = .ok (.ixor, 1) := by decide +kernel
theorem dX3_reckon_67 : decode cX3_reckon 67 = .ok (.ireturn, 1) := by decide +kernel
theorem dX3_reckon_68 : decode cX3_reckon 68 = .ok (.iload_n 1, 1) := by decide +kernel
theorem dX3_reckon_69 : decode cX3_reckon 69 = .ok (.iload_n 2, 1) := by decide +kernel
theorem dX3_reckon_70 : decode cX3_reckon 70 = .ok (.bipush 31, 2) := by decide +kernel
theorem dX3_reckon_72 : decode cX3_reckon 72 = .ok (.iand, 1) := by decide +kernel
theorem dX3_reckon_73 : decode cX3_reckon 73 = .ok (.ishl, 1) := by decide +kernel
theorem dX3_reckon_74 : decode cX3_reckon 74 = .ok (.ireturn, 1) := by decide +kernel
theorem dX3_reckon_75 : decode cX3_reckon 75 = .ok (.iload_n 1, 1) := by decide +kernel
theorem dX3_reckon_76 : decode cX3_reckon 76 = .ok (.iload_n 2, 1) := by decide +kernel
theorem dX3_reckon_77 : decode cX3_reckon 77 = .ok (.if_icmp .ge 7, 3) := by decide +kernel
theorem dX3_reckon_80 : decode cX3_reckon 80 = .ok (.iconst 1, 1) := by decide +kernel
theorem dX3_reckon_81 : decode cX3_reckon 81 = .ok (.goto 4, 3) := by decide +kernel
theorem dX3_reckon_84 : decode cX3_reckon 84 = .ok (.iconst 0, 1) := by decide +kernel
theorem dX3_reckon_85 : decode cX3_reckon 85 = .ok (.ireturn, 1) := by decide +kernel
theorem dX3_reckon_86 : decode cX3_reckon 86 = .ok (.iload_n 1, 1) := by decide +kernel
theorem dX3_reckon_87 : decode cX3_reckon 87 = .ok (.iload_n 2, 1) := by decide +kernel
theorem dX3_reckon_88 : decode cX3_reckon 88 = .ok (.imul, 1) := by decide +kernel
theorem dX3_reckon_89 : decode cX3_reckon 89 = .ok (.ireturn, 1) := by decide +kernel
theorem dX3_reckon_90 : decode cX3_reckon 90 = .ok (.iload_n 2, 1) := by decide +kernel
theorem dX3_reckon_91 : decode cX3_reckon 91 = .ok (.ifCond .ne 7, 3) := by decide +kernel
theorem dX3_reckon_94 : decode cX3_reckon 94 = .ok (.iconst 0, 1) := by decide +kernel
theorem dX3_reckon_95 : decode cX3_reckon 95 = .ok (.goto 6, 3) := by decide +kernel
theorem dX3_reckon_98 : decode cX3_reckon 98 = .ok (.iload_n 1, 1) := by decide +kernel
theorem dX3_reckon_99 : decode cX3_reckon 99 = .ok (.iload_n 2, 1) := by decide +kernel
theorem dX3_reckon_100 : decode cX3_reckon 100 = .ok (.idiv, 1) := by decide +kernel
theorem dX3_reckon_101 : decode cX3_reckon 101 = .ok (.ireturn, 1) := by decide +kernel
theorem dX3_work_0 : decode cX3_work 0 = .ok (.aload_n 0, 1) := by decide +kernel
theorem dX3_work_1 : decode cX3_work 1 = .ok (.getfield 41, 3) := by decide +kernel
theorem dX3_work_4 : decode cX3_work 4 = .ok (.iconst 2, 1) := by decide +kernel
theorem dX3_work_5 : decode cX3_work 5 = .ok (.iaload, 1) := by decide +kernel
theorem dX3_work_6 : decode cX3_work 6 = .ok (.istore_n 1, 1) := by decide +kernel
theorem dX3_work_7 : decode cX3_work 7 = .ok (.aload_n 0, 1) := by decide +kernel
theorem dX3_work_8 : decode cX3_work 8 = .ok (.aload_n 0, 1) := by decide +kernel
theorem dX3_work_9 : decode cX3_work 9 = .ok (.getfield 47, 3) := by decide +kernel
theorem dX3_work_12 : decode cX3_work 12 = .ok (.iconst 2, 1) := by decide +kernel
theorem dX3_work_13 : decode cX3_work 13 = .ok (.iaload, 1) := by decide +kernel
theorem dX3_work_14 : decode cX3_work 14 = .ok (.invokevirtual 118, 3) := by decide +kernel
theorem dX3_work_17 : decode cX3_work 17 = .ok (.istore_n 2, 1) := by decide +kernel
theorem dX3_work_18 : decode cX3_work 18 = .ok (.aload_n 0, 1) := by decide +kernel
theorem dX3_work_19 : decode cX3_work 19 = .ok (.aload_n 0, 1) := by decide +kernel
theorem dX3_work_20 : decode cX3_work 20 = .ok (.getfield 50, 3) := by decide +kernel
theorem dX3_work_23 : decode cX3_work 23 = .ok (.iconst 2, 1) := by decide +kernel
theorem dX3_work_24 : decode cX3_work 24 = .ok (.iaload, 1) := by decide +kernel
theorem dX3_work_25 : decode cX3_work 25 = .ok (.invokevirtual 118, 3) := by decide +kernel
theorem dX3_work_28 : decode cX3_work 28 = .ok (.istore_n 3, 1) := by decide +kernel
theorem dX3_work_29 : decode cX3_work 29 = .ok (.aload_n 0, 1) := by decide +kernel
theorem dX3_work_30 : decode cX3_work 30 = .ok (.getfield 38, 3) := by decide +kernel
theorem dX3_work_33 : decode cX3_work 33 = .ok (.iconst 2, 1) := by decide +kernel
theorem dX3_work_34 : decode cX3_work 34 = .ok (.iaload, 1) := by decide +kernel
theorem dX3_work_35 : decode cX3_work 35 = .ok (.istore 4, 2) := by decide +kernel
theorem dX3_work_37 : decode cX3_work 37 = .ok (.aload_n 0, 1) := by decide +kernel
theorem dX3_work_38 : decode cX3_work 38 = .ok (.getfield 53, 3) := by decide +kernel
theorem dX3_work_41 : decode cX3_work 41 = .ok (.iconst 2, 1) := by decide +kernel
theorem dX3_work_42 : decode cX3_work 42 = .ok (.iaload, 1) := by decide +kernel
theorem dX3_work_43 : decode cX3_work 43 = .ok (.istore 5, 2) := by decide +kernel
theorem dX3_work_45 : decode cX3_work 45 = .ok (.iload 4, 2) := by decide +kernel
theorem dX3_work_47 : decode cX3_work 47 = .ok (.iconst 1, 1) := by decide +kernel
theorem dX3_work_48 : decode cX3_work 48 = .ok (.iadd, 1) := by decide +kernel
theorem dX3_work_49 : decode cX3_work 49 = .ok (.istore 6, 2) := by decide +kernel
theorem dX3_work_51 : decode cX3_work 51 = .ok (.iconst 0, 1) := by decide +kernel
theorem dX3_work_52 : decode cX3_work 52 = .ok (.istore 7, 2) := by decide +kernel
theorem dX3_work_54 : decode cX3_work 54 = .ok (.iload_n 1, 1) := by decide +kernel
theorem dX3_work_55 : decode cX3_work 55 = .ok (.bipush 8, 2) := by decide +kernel
theorem dX3_work_57 : decode cX3_work 57 = .ok (.if_icmp .gt 40, 3) := by decide +kernel
theorem dX3_work_60 : decode cX3_work 60 = .ok (.iload_n 1, 1) := by decide +kernel
theorem dX3_work_61 : decode cX3_work 61 = .ok (.iload_n 2, 1) := by decide +kernel
theorem dX3_work_62 : decode cX3_work 62 = .ok (.iload_n 3, 1) := by decide +kernel
theorem dX3_work_63 : decode cX3_work 63 = .ok (.invokestatic 122, 3) := by decide +kernel
theorem dX3_work_66 : decode cX3_work 66 = .ok (.istore 7, 2) := by decide +kernel
theorem dX3_work_68 : decode cX3_work 68 = .ok (.aload_n 0, 1) := by decide +kernel
theorem dX3_work_69 : decode cX3_work 69 = .ok (.getfield 65, 3) := by decide +kernel
theorem dX3_work_72 : decode cX3_work 72 = .ok (.iconst 2, 1) := by decide +kernel
theorem dX3_work_73 : decode cX3_work 73 = .ok (.iload_n 1, 1) := by decide +kernel
theorem dX3_work_74 : decode cX3_work 74 = .ok (.bipush 8, 2) := by decide +kernel
theorem dX3_work_76 : decode cX3_work 76 = .ok (.if_icmp .ne 11, 3) := by decide +kernel
theorem dX3_work_79 : decode cX3_work 79 = .ok (.iload_n 3, 1) := by decide +kernel
theorem dX3_work_80 : decode cX3_work 80 = .ok (.ifCond .ne 7, 3) := by decide +kernel
theorem dX3_work_83 : decode cX3_work 83 = .ok (.iconst 4, 1) := by decide +kernel
theorem dX3_work_84 : decode cX3_work 84 = .ok (.goto 9, 3) := by decide +kernel
theorem dX3_work_87 : decode cX3_work 87 = .ok (.aload_n 0, 1) := by decide +kernel
theorem dX3_work_88 : decode cX3_work 88 = .ok (.getfield 65, 3) := by decide +kernel
theorem dX3_work_91 : decode cX3_work 91 = .ok (.iconst 2, 1) := by decide +kernel
theorem dX3_work_92 : decode cX3_work 92 = .ok (.iaload, 1) := by decide +kernel
theorem dX3_work_93 : decode cX3_work 93 = .ok (.iastore, 1) := by decide +kernel
theorem dX3_work_94 : decode cX3_work 94 = .ok (.goto 278, 3) := by decide +kernel
theorem dX3_work_97 : decode cX3_work 97 = .ok (.iload_n 1, 1) := by decide +kernel
theorem dX3_work_98 : decode cX3_work 98 = .ok (.bipush 9, 2) := by decide +kernel
theorem dX3_work_100 : decode cX3_work 100 = .ok (.if_icmp .eq 9, 3) := by decide +kernel
theorem dX3_work_103 : decode cX3_work 103 = .ok (.iload_n 1, 1) := by decide +kernel
theorem dX3_work_104 : decode cX3_work 104 = .ok (.bipush 10, 2) := by decide +kernel
theorem dX3_work_106 : decode cX3_work 106 = .ok (.if_icmp .ne 23, 3) := by decide +kernel
theorem dX3_work_109 : decode cX3_work 109 = .ok (.iload_n 1, 1) := by decide +kernel
theorem dX3_work_110 : decode cX3_work 110 = .ok (.bipush 10, 2) := by decide +kernel
theorem dX3_work_112 : decode cX3_work 112 = .ok (.if_icmp .ne 8, 3) := by decide +kernel
theorem dX3_work_115 : decode cX3_work 115 = .ok (.iload 5, 2) := by decide +kernel
theorem dX3_work_117 : decode cX3_work 117 = .ok (.goto 7, 3) := by decide +kernel
theorem dX3_work_120 : decode cX3_work 120 = .ok (.iload_n 2, 1) := by decide +kernel
theorem dX3_work_121 : decode cX3_work 121 = .ok (.iload 5, 2) := by decide +kernel
theorem dX3_work_123 : decode cX3_work 123 = .ok (.iadd, 1) := by decide +kernel
theorem dX3_work_124 : decode cX3_work 124 = .ok (.istore 7, 2) := by decide +kernel
theorem dX3_work_126 : decode cX3_work 126 = .ok (.goto 246, 3) := by decide +kernel
theorem dX3_work_129 : decode cX3_work 129 = .ok (.iload_n 1, 1) := by decide +kernel
theorem dX3_work_130 : decode cX3_work 130 = .ok (.bipush 11, 2) := by decide +kernel
theorem dX3_work_132 : decode cX3_work 132 = .ok (.if_icmp .eq 9, 3) := by decide +kernel
theorem dX3_work_135 : decode cX3_work 135 = .ok (.iload_n 1, 1) := by decide +kernel
theorem dX3_work_136 : decode cX3_work 136 = .ok (.bipush 12, 2) := by decide +kernel
theorem dX3_work_138 : decode cX3_work 138 = .ok (.if_icmp .ne 48, 3) := by decide +kernel
theorem dX3_work_141 : decode cX3_work 141 = .ok (.aload_n 0, 1) := by decide +kernel
theorem dX3_work_142 : decode cX3_work 142 = .ok (.getfield 62, 3) := by decide +kernel
theorem dX3_work_145 : decode cX3_work 145 = .ok (.iconst 2, 1) := by decide +kernel
theorem dX3_work_146 : decode cX3_work 146 = .ok (.iload_n 2, 1) := by decide +kernel
theorem dX3_work_147 : decode cX3_work 147 = .ok (.iload 5, 2) := by decide +kernel
theorem dX3_work_149 : decode cX3_work 149 = .ok (.iadd, 1) := by decide +kernel
theorem dX3_work_150 : decode cX3_work 150 = .ok (.iastore, 1) := by decide +kernel
theorem dX3_work_151 : decode cX3_work 151 = .ok (.iload_n 3, 1) := by decide +kernel
theorem dX3_work_152 : decode cX3_work 152 = .ok (.istore 7, 2) := by decide +kernel
theorem dX3_work_154 : decode cX3_work 154 = .ok (.aload_n 0, 1) := by decide +kernel
theorem dX3_work_155 : decode cX3_work 155 = .ok (.getfield 65, 3) := by decide +kernel
theorem dX3_work_158 : decode cX3_work 158 = .ok (.iconst 2, 1) := by decide +kernel
theorem dX3_work_159 : decode cX3_work 159 = .ok (.iload_n 2, 1) := by decide +kernel
theorem dX3_work_160 : decode cX3_work 160 = .ok (.iload 5, 2) := by decide +kernel
theorem dX3_work_162 : decode cX3_work 162 = .ok (.iadd, 1) := by decide +kernel
theorem dX3_work_163 : decode cX3_work 163 = .ok (.iconst 0, 1) := by decide +kernel
theorem dX3_work_164 : decode cX3_work 164 = .ok (.bipush 31, 2) := by decide +kernel
theorem dX3_work_166 : decode cX3_work 166 = .ok (.invokestatic 79, 3) := by decide +kernel
theorem dX3_work_169 : decode cX3_work 169 = .ok (.ifCond .eq 12, 3) := by decide +kernel
theorem dX3_work_172 : decode cX3_work 172 = .ok (.aload_n 0, 1) := by decide +kernel
theorem dX3_work_173 : decode cX3_work 173 = .ok (.getfield 65, 3) := by decide +kernel
theorem dX3_work_176 : decode cX3_work 176 = .ok (.iconst 2, 1) := by decide +kernel
theorem dX3_work_177 : decode cX3_work 177 = .ok (.iaload, 1) := by decide +kernel
theorem dX3_work_178 : decode cX3_work 178 = .ok (.goto 4, 3) := by decide +kernel
theorem dX3_work_181 : decode cX3_work 181 = .ok (.iconst 3, 1) := by decide +kernel
theorem dX3_work_182 : decode cX3_work 182 = .ok (.iastore, 1) := by decide +kernel
theorem dX3_work_183 : decode cX3_work 183 = .ok (.goto 189, 3) := by decide +kernel
theorem dX3_work_186 : decode cX3_work 186 = .ok (.iload_n 1, 1) := by decide +kernel
theorem dX3_work_187 : decode cX3_work 187 = .ok (.bipush 13, 2) := by decide +kernel
theorem dX3_work_189 : decode cX3_work 189 = .ok (.if_icmp .eq 9, 3) := by decide +kernel
theorem dX3_work_192 : decode cX3_work 192 = .ok (.iload_n 1, 1) := by decide +kernel
theorem dX3_work_193 : decode cX3_work 193 = .ok (.bipush 14, 2) := by decide +kernel
theorem dX3_work_195 : decode cX3_work 195 = .ok (.if_icmp .ne 123, 3) := by decide +kernel
theorem dX3_work_198 : decode cX3_work 198 = .ok (.iload_n 2, 1) := by decide +kernel
theorem dX3_work_199 : decode cX3_work 199 = .ok (.iload_n 3, 1) := by decide +kernel
theorem dX3_work_200 : decode cX3_work 200 = .ok (.if_icmp .ne 7, 3) := by decide +kernel
theorem dX3_work_203 : decode cX3_work 203 = .ok (.iconst 1, 1) := by decide +kernel
theorem dX3_work_204 : decode cX3_work 204 = .ok (.goto 4, 3) := by decide +kernel
theorem dX3_work_207 : decode cX3_work 207 = .ok (.iconst 0, 1) := by decide +kernel
theorem dX3_work_208 : decode cX3_work 208 = .ok (.iload_n 1, 1) := by decide +kernel
theorem dX3_work_209 : decode cX3_work 209 = .ok (.bipush 13, 2) := by decide +kernel
theorem dX3_work_211 : decode cX3_work 211 = .ok (.if_icmp .ne 7, 3) := by decide +kernel
theorem dX3_work_214 : decode cX3_work 214 = .ok (.iconst 1, 1) := by decide +kernel
theorem dX3_work_215 : decode cX3_work 215 = .ok (.goto 4, 3) := by decide +kernel
theorem dX3_work_218 : decode cX3_work 218 = .ok (.iconst 0, 1) := by decide +kernel
theorem dX3_work_219 : decode cX3_work 219 = .ok (.if_icmp .ne 7, 3) := by decide +kernel
theorem dX3_work_222 : decode cX3_work 222 = .ok (.iconst 1, 1) := by decide +kernel
theorem dX3_work_223 : decode cX3_work 223 = .ok (.goto 4, 3) := by decide +kernel
theorem dX3_work_226 : decode cX3_work 226 = .ok (.iconst 0, 1) := by decide +kernel
theorem dX3_work_227 : decode cX3_work 227 = .ok (.istore 8, 2) := by decide +kernel
theorem dX3_work_229 : decode cX3_work 229 = .ok (.iload 4, 2) := by decide +kernel
theorem dX3_work_231 : decode cX3_work 231 = .ok (.bipush 7, 2) := by decide +kernel
theorem dX3_work_233 : decode cX3_work 233 = .ok (.iand, 1) := by decide +kernel
theorem dX3_work_234 : decode cX3_work 234 = .ok (.istore 9, 2) := by decide +kernel
theorem dX3_work_236 : decode cX3_work 236 = .ok (.aload_n 0, 1) := by decide +kernel
theorem dX3_work_237 : decode cX3_work 237 = .ok (.getfield 31, 3) := by decide +kernel
theorem dX3_work_240 : decode cX3_work 240 = .ok (.iload 9, 2) := by decide +kernel
theorem dX3_work_242 : decode cX3_work 242 = .ok (.iload 8, 2) := by decide +kernel
theorem dX3_work_244 : decode cX3_work 244 = .ok (.ifCond .eq 30, 3) := by decide +kernel
theorem dX3_work_247 : decode cX3_work 247 = .ok (.aload_n 0, 1) := by decide +kernel
theorem dX3_work_248 : decode cX3_work 248 = .ok (.getfield 31, 3) := by decide +kernel
theorem dX3_work_251 : decode cX3_work 251 = .ok (.iload 9, 2) := by decide +kernel
theorem dX3_work_253 : decode cX3_work 253 = .ok (.iaload, 1) := by decide +kernel
theorem dX3_work_254 : decode cX3_work 254 = .ok (.iconst 3, 1) := by decide +kernel
theorem dX3_work_255 : decode cX3_work 255 = .ok (.if_icmp .ge 15, 3) := by decide +kernel
theorem dX3_work_258 : decode cX3_work 258 = .ok (.aload_n 0, 1) := by decide +kernel
theorem dX3_work_259 : decode cX3_work 259 = .ok (.getfield 31, 3) := by decide +kernel
theorem dX3_work_262 : decode cX3_work 262 = .ok (.iload 9, 2) := by decide +kernel
theorem dX3_work_264 : decode cX3_work 264 = .ok (.iaload, 1) := by decide +kernel
theorem dX3_work_265 : decode cX3_work 265 = .ok (.iconst 1, 1) := by decide +kernel
theorem dX3_work_266 : decode cX3_work 266 = .ok (.iadd, 1) := by decide +kernel
theorem dX3_work_267 : decode cX3_work 267 = .ok (.goto 30, 3) := by decide +kernel
theorem dX3_work_270 : decode cX3_work 270 = .ok (.iconst 3, 1) := by decide +kernel
theorem dX3_work_271 : decode cX3_work 271 = .ok (.goto 26, 3) := by decide +kernel
theorem dX3_work_274 : decode cX3_work 274 = .ok (.aload_n 0, 1) := by decide +kernel
theorem dX3_work_275 : decode cX3_work 275 = .ok (.getfield 31, 3) := by decide +kernel
theorem dX3_work_278 : decode cX3_work 278 = .ok (.iload 9, 2) := by decide +kernel
theorem dX3_work_280 : decode cX3_work 280 = .ok (.iaload, 1) := by decide +kernel
theorem dX3_work_281 : decode cX3_work 281 = .ok (.ifCond .le 15, 3) := by decide +kernel
theorem dX3_work_284 : decode cX3_work 284 = .ok (.aload_n 0, 1) := by decide +kernel
theorem dX3_work_285 : decode cX3_work 285 = .ok (.getfield 31, 3) := by decide +kernel
theorem dX3_work_288 : decode cX3_work 288 = .ok (.iload 9, 2) := by decide +kernel
theorem dX3_work_290 : decode cX3_work 290 = .ok (.iaload, 1) := by decide +kernel
theorem dX3_work_291 : decode cX3_work 291 = .ok (.iconst 1, 1) := by decide +kernel
theorem dX3_work_292 : decode cX3_work 292 = .ok (.isub, 1) := by decide +kernel
theorem dX3_work_293 : decode cX3_work 293 = .ok (.goto 4, 3) := by decide +kernel
theorem dX3_work_296 : decode cX3_work 296 = .ok (.iconst 0, 1) := by decide +kernel
theorem dX3_work_297 : decode cX3_work 297 = .ok (.iastore, 1) := by decide +kernel
theorem dX3_work_298 : decode cX3_work 298 = .ok (.iload 8, 2) := by decide +kernel
theorem dX3_work_300 : decode cX3_work 300 = .ok (.ifCond .eq 11, 3) := by decide +kernel
theorem dX3_work_303 : decode cX3_work 303 = .ok (.iload 4, 2) := by decide +kernel
theorem dX3_work_305 : decode cX3_work 305 = .ok (.iload 5, 2) := by decide +kernel
theorem dX3_work_307 : decode cX3_work 307 = .ok (.iadd, 1) := by decide +kernel
theorem dX3_work_308 : decode cX3_work 308 = .ok (.goto 5, 3) := by decide +kernel
theorem dX3_work_311 : decode cX3_work 311 = .ok (.iload 6, 2) := by decide +kernel
theorem dX3_work_313 : decode cX3_work 313 = .ok (.istore 6, 2) := by decide +kernel
theorem dX3_work_315 : decode cX3_work 315 = .ok (.goto 57, 3) := by decide +kernel
theorem dX3_work_318 : decode cX3_work 318 = .ok (.iload_n 1, 1) := by decide +kernel
theorem dX3_work_319 : decode cX3_work 319 = .ok (.bipush 15, 2) := by decide +kernel
theorem dX3_work_321 : decode cX3_work 321 = .ok (.if_icmp .eq 9, 3) := by decide +kernel
theorem dX3_work_324 : decode cX3_work 324 = .ok (.iload_n 1, 1) := by decide +kernel
theorem dX3_work_325 : decode cX3_work 325 = .ok (.bipush 16, 2) := by decide +kernel
theorem dX3_work_327 : decode cX3_work 327 = .ok (.if_icmp .ne 32, 3) := by decide +kernel
theorem dX3_work_330 : decode cX3_work 330 = .ok (.iload 4, 2) := by decide +kernel
theorem dX3_work_332 : decode cX3_work 332 = .ok (.iconst 1, 1) := by decide +kernel
theorem dX3_work_333 : decode cX3_work 333 = .ok (.iadd, 1) := by decide +kernel
theorem dX3_work_334 : decode cX3_work 334 = .ok (.istore 7, 2) := by decide +kernel
theorem dX3_work_336 : decode cX3_work 336 = .ok (.iload_n 1, 1) := by decide +kernel
theorem dX3_work_337 : decode cX3_work 337 = .ok (.bipush 15, 2) := by decide +kernel
theorem dX3_work_339 : decode cX3_work 339 = .ok (.if_icmp .ne 11, 3) := by decide +kernel
theorem dX3_work_342 : decode cX3_work 342 = .ok (.iload 4, 2) := by decide +kernel
theorem dX3_work_344 : decode cX3_work 344 = .ok (.iload 5, 2) := by decide +kernel
theorem dX3_work_346 : decode cX3_work 346 = .ok (.iadd, 1) := by decide +kernel
theorem dX3_work_347 : decode cX3_work 347 = .ok (.goto 7, 3) := by decide +kernel
theorem dX3_work_350 : decode cX3_work 350 = .ok (.iload_n 2, 1) := by decide +kernel
theorem dX3_work_351 : decode cX3_work 351 = .ok (.iload 5, 2) := by decide +kernel
theorem dX3_work_353 : decode cX3_work 353 = .ok (.iadd, 1) := by decide +kernel
theorem dX3_work_354 : decode cX3_work 354 = .ok (.istore 6, 2) := by decide +kernel
theorem dX3_work_356 : decode cX3_work 356 = .ok (.goto 16, 3) := by decide +kernel
theorem dX3_work_359 : decode cX3_work 359 = .ok (.iload_n 1, 1) := by decide +kernel
theorem dX3_work_360 : decode cX3_work 360 = .ok (.bipush 17, 2) := by decide +kernel
theorem dX3_work_362 : decode cX3_work 362 = .ok (.if_icmp .ne 10, 3) := by decide +kernel
theorem dX3_work_365 : decode cX3_work 365 = .ok (.aload_n 0, 1) := by decide +kernel
theorem dX3_work_366 : decode cX3_work 366 = .ok (.getfield 65, 3) := by decide +kernel
theorem dX3_work_369 : decode cX3_work 369 = .ok (.iconst 2, 1) := by decide +kernel
theorem dX3_work_370 : decode cX3_work 370 = .ok (.iconst 2, 1) := by decide +kernel
theorem dX3_work_371 : decode cX3_work 371 = .ok (.iastore, 1) := by decide +kernel
theorem dX3_work_372 : decode cX3_work 372 = .ok (.aload_n 0, 1) := by decide +kernel
theorem dX3_work_373 : decode cX3_work 373 = .ok (.getfield 59, 3) := by decide +kernel
theorem dX3_work_376 : decode cX3_work 376 = .ok (.iconst 2, 1) := by decide +kernel
theorem dX3_work_377 : decode cX3_work 377 = .ok (.iload 7, 2) := by decide +kernel
theorem dX3_work_379 : decode cX3_work 379 = .ok (.iastore, 1) := by decide +kernel
theorem dX3_work_380 : decode cX3_work 380 = .ok (.iload 6, 2) := by decide +kernel
theorem dX3_work_382 : decode cX3_work 382 = .ok (.ireturn, 1) := by decide +kernel
theorem dX3_reach_0 : decode cX3_reach 0 = .ok (.aload_n 0, 1) := by decide +kernel
theorem dX3_reach_1 : decode cX3_reach 1 = .ok (.getfield 34, 3) := by decide +kernel
theorem dX3_reach_4 : decode cX3_reach 4 = .ok (.iconst 2, 1) := by decide +kernel
theorem dX3_reach_5 : decode cX3_reach 5 = .ok (.baload, 1) := by decide +kernel
theorem dX3_reach_6 : decode cX3_reach 6 = .ok (.ifCond .ne 4, 3) := by decide +kernel
theorem dX3_reach_9 : decode cX3_reach 9 = .ok (.return_, 1) := by decide +kernel
theorem dX3_reach_10 : decode cX3_reach 10 = .ok (.aload_n 0, 1) := by decide +kernel
theorem dX3_reach_11 : decode cX3_reach 11 = .ok (.getfield 41, 3) := by decide +kernel
theorem dX3_reach_14 : decode cX3_reach 14 = .ok (.iconst 2, 1) := by decide +kernel
theorem dX3_reach_15 : decode cX3_reach 15 = .ok (.iaload, 1) := by decide +kernel
theorem dX3_reach_16 : decode cX3_reach 16 = .ok (.istore_n 2, 1) := by decide +kernel
theorem dX3_reach_17 : decode cX3_reach 17 = .ok (.iload_n 1, 1) := by decide +kernel
theorem dX3_reach_18 : decode cX3_reach 18 = .ok (.ifCond .eq 41, 3) := by decide +kernel
theorem dX3_reach_21 : decode cX3_reach 21 = .ok (.iload_n 2, 1) := by decide +kernel
theorem dX3_reach_22 : decode cX3_reach 22 = .ok (.invokestatic 126, 3) := by decide +kernel
theorem dX3_reach_25 : decode cX3_reach 25 = .ok (.ifCond .eq 13, 3) := by decide +kernel
theorem dX3_reach_28 : decode cX3_reach 28 = .ok (.aload_n 0, 1) := by decide +kernel
theorem dX3_reach_29 : decode cX3_reach 29 = .ok (.getfield 47, 3) := by decide +kernel
theorem dX3_reach_32 : decode cX3_reach 32 = .ok (.iconst 2, 1) := by decide +kernel
theorem dX3_reach_33 : decode cX3_reach 33 = .ok (.iaload, 1) := by decide +kernel
theorem dX3_reach_34 : decode cX3_reach 34 = .ok (.iload_n 1, 1) := by decide +kernel
theorem dX3_reach_35 : decode cX3_reach 35 = .ok (.if_icmp .eq 20, 3) := by decide +kernel
theorem dX3_reach_38 : decode cX3_reach 38 = .ok (.iload_n 2, 1) := by decide +kernel
theorem dX3_reach_39 : decode cX3_reach 39 = .ok (.invokestatic 129, 3) := by decide +kernel
theorem dX3_reach_42 : decode cX3_reach 42 = .ok (.ifCond .eq 17, 3) := by decide +kernel
theorem dX3_reach_45 : decode cX3_reach 45 = .ok (.aload_n 0, 1) := by decide +kernel
theorem dX3_reach_46 : decode cX3_reach 46 = .ok (.getfield 50, 3) := by decide +kernel
theorem dX3_reach_49 : decode cX3_reach 49 = .ok (.iconst 2, 1) := by decide +kernel
theorem dX3_reach_50 : decode cX3_reach 50 = .ok (.iaload, 1) := by decide +kernel
theorem dX3_reach_51 : decode cX3_reach 51 = .ok (.iload_n 1, 1) := by decide +kernel
theorem dX3_reach_52 : decode cX3_reach 52 = .ok (.if_icmp .ne 7, 3) := by decide +kernel
theorem dX3_reach_55 : decode cX3_reach 55 = .ok (.iconst 1, 1) := by decide +kernel
theorem dX3_reach_56 : decode cX3_reach 56 = .ok (.goto 4, 3) := by decide +kernel
theorem dX3_reach_59 : decode cX3_reach 59 = .ok (.iconst 0, 1) := by decide +kernel
theorem dX3_reach_60 : decode cX3_reach 60 = .ok (.istore_n 3, 1) := by decide +kernel
theorem dX3_reach_61 : decode cX3_reach 61 = .ok (.iload_n 3, 1) := by decide +kernel
theorem dX3_reach_62 : decode cX3_reach 62 = .ok (.ifCond .eq 14, 3) := by decide +kernel
theorem dX3_reach_65 : decode cX3_reach 65 = .ok (.aload_n 0, 1) := by decide +kernel
theorem dX3_reach_66 : decode cX3_reach 66 = .ok (.dup, 1) := by decide +kernel
theorem dX3_reach_67 : decode cX3_reach 67 = .ok (.getfield 132, 3) := by decide +kernel
theorem dX3_reach_70 : decode cX3_reach 70 = .ok (.iconst 1, 1) := by decide +kernel
theorem dX3_reach_71 : decode cX3_reach 71 = .ok (.iadd, 1) := by decide +kernel
theorem dX3_reach_72 : decode cX3_reach 72 = .ok (.putfield 132, 3) := by decide +kernel
theorem dX3_reach_75 : decode cX3_reach 75 = .ok (.return_, 1) := by decide +kernel
theorem dX3_reach_76 : decode cX3_reach 76 = .ok (.aload_n 0, 1) := by decide +kernel
theorem dX3_reach_77 : decode cX3_reach 77 = .ok (.dup, 1) := by decide +kernel
theorem dX3_reach_78 : decode cX3_reach 78 = .ok (.getfield 135, 3) := by decide +kernel
theorem dX3_reach_81 : decode cX3_reach 81 = .ok (.iconst 1, 1) := by decide +kernel
theorem dX3_reach_82 : decode cX3_reach 82 = .ok (.isub, 1) := by decide +kernel
theorem dX3_reach_83 : decode cX3_reach 83 = .ok (.putfield 135, 3) := by decide +kernel
theorem dX3_reach_86 : decode cX3_reach 86 = .ok (.aload_n 0, 1) := by decide +kernel
theorem dX3_reach_87 : decode cX3_reach 87 = .ok (.getfield 135, 3) := by decide +kernel
theorem dX3_reach_90 : decode cX3_reach 90 = .ok (.ifCond .le 14, 3) := by decide +kernel
theorem dX3_reach_93 : decode cX3_reach 93 = .ok (.aload_n 0, 1) := by decide +kernel
theorem dX3_reach_94 : decode cX3_reach 94 = .ok (.dup, 1) := by decide +kernel
theorem dX3_reach_95 : decode cX3_reach 95 = .ok (.getfield 132, 3) := by decide +kernel
theorem dX3_reach_98 : decode cX3_reach 98 = .ok (.iconst 1, 1) := by decide +kernel
theorem dX3_reach_99 : decode cX3_reach 99 = .ok (.iadd, 1) := by decide +kernel
theorem dX3_reach_100 : decode cX3_reach 100 = .ok (.putfield 132, 3) := by decide +kernel
theorem dX3_reach_103 : decode cX3_reach 103 = .ok (.return_, 1) := by decide +kernel
theorem dX3_reach_104 : decode cX3_reach 104 = .ok (.aload_n 0, 1) := by decide +kernel
theorem dX3_reach_105 : decode cX3_reach 105 = .ok (.invokevirtual 138, 3) := by decide +kernel
theorem dX3_reach_108 : decode cX3_reach 108 = .ok (.istore 4, 2) := by decide +kernel
theorem dX3_reach_110 : decode cX3_reach 110 = .ok (.aload_n 0, 1) := by decide +kernel
theorem dX3_reach_111 : decode cX3_reach 111 = .ok (.getfield 65, 3) := by decide +kernel
theorem dX3_reach_114 : decode cX3_reach 114 = .ok (.iconst 2, 1) := by decide +kernel
theorem dX3_reach_115 : decode cX3_reach 115 = .ok (.iaload, 1) := by decide +kernel
theorem dX3_reach_116 : decode cX3_reach 116 = .ok (.ifCond .ne 44, 3) := by decide +kernel
theorem dX3_reach_119 : decode cX3_reach 119 = .ok (.iload 4, 2) := by decide +kernel
theorem dX3_reach_121 : decode cX3_reach 121 = .ok (.aload_n 0, 1) := by decide +kernel
theorem dX3_reach_122 : decode cX3_reach 122 = .ok (.getfield 56, 3) := by decide +kernel
theorem dX3_reach_125 : decode cX3_reach 125 = .ok (.iconst 2, 1) := by decide +kernel
theorem dX3_reach_126 : decode cX3_reach 126 = .ok (.iaload, 1) := by decide +kernel
theorem dX3_reach_127 : decode cX3_reach 127 = .ok (.if_icmp .eq 33, 3) := by decide +kernel
theorem dX3_reach_130 : decode cX3_reach 130 = .ok (.aload_n 0, 1) := by decide +kernel
theorem dX3_reach_131 : decode cX3_reach 131 = .ok (.dup, 1) := by decide +kernel
theorem dX3_reach_132 : decode cX3_reach 132 = .ok (.getfield 142, 3) := by decide +kernel
theorem dX3_reach_135 : decode cX3_reach 135 = .ok (.iconst 1, 1) := by decide +kernel
theorem dX3_reach_136 : decode cX3_reach 136 = .ok (.iadd, 1) := by decide +kernel
theorem dX3_reach_137 : decode cX3_reach 137 = .ok (.putfield 142, 3) := by decide +kernel
theorem dX3_reach_140 : decode cX3_reach 140 = .ok (.aload_n 0, 1) := by decide +kernel
theorem dX3_reach_141 : decode cX3_reach 141 = .ok (.getfield 34, 3) := by decide +kernel
theorem dX3_reach_144 : decode cX3_reach 144 = .ok (.iconst 0, 1) := by decide +kernel
theorem dX3_reach_145 : decode cX3_reach 145 = .ok (.iconst 0, 1) := by decide +kernel
theorem dX3_reach_146 : decode cX3_reach 146 = .ok (.bastore, 1) := by decide +kernel
theorem dX3_reach_147 : decode cX3_reach 147 = .ok (.aload_n 0, 1) := by decide +kernel
theorem dX3_reach_148 : decode cX3_reach 148 = .ok (.getfield 34, 3) := by decide +kernel
theorem dX3_reach_151 : decode cX3_reach 151 = .ok (.iconst 1, 1) := by decide +kernel
theorem dX3_reach_152 : decode cX3_reach 152 = .ok (.iconst 0, 1) := by decide +kernel
theorem dX3_reach_153 : decode cX3_reach 153 = .ok (.bastore, 1) := by decide +kernel
theorem dX3_reach_154 : decode cX3_reach 154 = .ok (.aload_n 0, 1) := by decide +kernel
theorem dX3_reach_155 : decode cX3_reach 155 = .ok (.iload 4, 2) := by decide +kernel
theorem dX3_reach_157 : decode cX3_reach 157 = .ok (.putfield 85, 3) := by decide +kernel
theorem dX3_reach_160 : decode cX3_reach 160 = .ok (.aload_n 0, 1) := by decide +kernel
theorem dX3_reach_161 : decode cX3_reach 161 = .ok (.iconst 2, 1) := by decide +kernel
theorem dX3_reach_162 : decode cX3_reach 162 = .ok (.invokevirtual 114, 3) := by decide +kernel
theorem dX3_reach_165 : decode cX3_reach 165 = .ok (.return_, 1) := by decide +kernel
theorem dX3_fetch_0 : decode cX3_fetch 0 = .ok (.aload_n 0, 1) := by decide +kernel
theorem dX3_fetch_1 : decode cX3_fetch 1 = .ok (.getfield 85, 3) := by decide +kernel
theorem dX3_fetch_4 : decode cX3_fetch 4 = .ok (.iconst 0, 1) := by decide +kernel
theorem dX3_fetch_5 : decode cX3_fetch 5 = .ok (.bipush 63, 2) := by decide +kernel
theorem dX3_fetch_7 : decode cX3_fetch 7 = .ok (.invokestatic 79, 3) := by decide +kernel
theorem dX3_fetch_10 : decode cX3_fetch 10 = .ok (.istore_n 1, 1) := by decide +kernel
theorem dX3_fetch_11 : decode cX3_fetch 11 = .ok (.aload_n 0, 1) := by decide +kernel
theorem dX3_fetch_12 : decode cX3_fetch 12 = .ok (.getfield 34, 3) := by decide +kernel
theorem dX3_fetch_15 : decode cX3_fetch 15 = .ok (.iconst 0, 1) := by decide +kernel
theorem dX3_fetch_16 : decode cX3_fetch 16 = .ok (.iconst 1, 1) := by decide +kernel
theorem dX3_fetch_17 : decode cX3_fetch 17 = .ok (.bastore, 1) := by decide +kernel
theorem dX3_fetch_18 : decode cX3_fetch 18 = .ok (.aload_n 0, 1) := by decide +kernel
theorem dX3_fetch_19 : decode cX3_fetch 19 = .ok (.getfield 38, 3) := by decide +kernel
theorem dX3_fetch_22 : decode cX3_fetch 22 = .ok (.iconst 0, 1) := by decide +kernel
theorem dX3_fetch_23 : decode cX3_fetch 23 = .ok (.aload_n 0, 1) := by decide +kernel
theorem dX3_fetch_24 : decode cX3_fetch 24 = .ok (.getfield 85, 3) := by decide +kernel
theorem dX3_fetch_27 : decode cX3_fetch 27 = .ok (.iastore, 1) := by decide +kernel
theorem dX3_fetch_28 : decode cX3_fetch 28 = .ok (.aload_n 0, 1) := by decide +kernel
theorem dX3_fetch_29 : decode cX3_fetch 29 = .ok (.getfield 41, 3) := by decide +kernel
theorem dX3_fetch_32 : decode cX3_fetch 32 = .ok (.iconst 0, 1) := by decide +kernel
theorem dX3_fetch_33 : decode cX3_fetch 33 = .ok (.iload_n 1, 1) := by decide +kernel
theorem dX3_fetch_34 : decode cX3_fetch 34 = .ok (.ifCond .eq 15, 3) := by decide +kernel
theorem dX3_fetch_37 : decode cX3_fetch 37 = .ok (.aload_n 0, 1) := by decide +kernel
theorem dX3_fetch_38 : decode cX3_fetch 38 = .ok (.getfield 7, 3) := by decide +kernel
theorem dX3_fetch_41 : decode cX3_fetch 41 = .ok (.aload_n 0, 1) := by decide +kernel
theorem dX3_fetch_42 : decode cX3_fetch 42 = .ok (.getfield 85, 3) := by decide +kernel
theorem dX3_fetch_45 : decode cX3_fetch 45 = .ok (.iaload, 1) := by decide +kernel
theorem dX3_fetch_46 : decode cX3_fetch 46 = .ok (.goto 5, 3) := by decide +kernel
theorem dX3_fetch_49 : decode cX3_fetch 49 = .ok (.bipush 19, 2) := by decide +kernel
theorem dX3_fetch_51 : decode cX3_fetch 51 = .ok (.iastore, 1) := by decide +kernel
theorem dX3_fetch_52 : decode cX3_fetch 52 = .ok (.aload_n 0, 1) := by decide +kernel
theorem dX3_fetch_53 : decode cX3_fetch 53 = .ok (.getfield 44, 3) := by decide +kernel
theorem dX3_fetch_56 : decode cX3_fetch 56 = .ok (.iconst 0, 1) := by decide +kernel
theorem dX3_fetch_57 : decode cX3_fetch 57 = .ok (.iload_n 1, 1) := by decide +kernel
theorem dX3_fetch_58 : decode cX3_fetch 58 = .ok (.ifCond .eq 15, 3) := by decide +kernel
theorem dX3_fetch_61 : decode cX3_fetch 61 = .ok (.aload_n 0, 1) := by decide +kernel
theorem dX3_fetch_62 : decode cX3_fetch 62 = .ok (.getfield 13, 3) := by decide +kernel
theorem dX3_fetch_65 : decode cX3_fetch 65 = .ok (.aload_n 0, 1) := by decide +kernel
theorem dX3_fetch_66 : decode cX3_fetch 66 = .ok (.getfield 85, 3) := by decide +kernel
theorem dX3_fetch_69 : decode cX3_fetch 69 = .ok (.iaload, 1) := by decide +kernel
theorem dX3_fetch_70 : decode cX3_fetch 70 = .ok (.goto 4, 3) := by decide +kernel
theorem dX3_fetch_73 : decode cX3_fetch 73 = .ok (.iconst 0, 1) := by decide +kernel
theorem dX3_fetch_74 : decode cX3_fetch 74 = .ok (.iastore, 1) := by decide +kernel
theorem dX3_fetch_75 : decode cX3_fetch 75 = .ok (.aload_n 0, 1) := by decide +kernel
theorem dX3_fetch_76 : decode cX3_fetch 76 = .ok (.getfield 47, 3) := by decide +kernel
theorem dX3_fetch_79 : decode cX3_fetch 79 = .ok (.iconst 0, 1) := by decide +kernel
theorem dX3_fetch_80 : decode cX3_fetch 80 = .ok (.iload_n 1, 1) := by decide +kernel
theorem dX3_fetch_81 : decode cX3_fetch 81 = .ok (.ifCond .eq 15, 3) := by decide +kernel
theorem dX3_fetch_84 : decode cX3_fetch 84 = .ok (.aload_n 0, 1) := by decide +kernel
theorem dX3_fetch_85 : decode cX3_fetch 85 = .ok (.getfield 16, 3) := by decide +kernel
theorem dX3_fetch_88 : decode cX3_fetch 88 = .ok (.aload_n 0, 1) := by decide +kernel
theorem dX3_fetch_89 : decode cX3_fetch 89 = .ok (.getfield 85, 3) := by decide +kernel
theorem dX3_fetch_92 : decode cX3_fetch 92 = .ok (.iaload, 1) := by decide +kernel
theorem dX3_fetch_93 : decode cX3_fetch 93 = .ok (.goto 4, 3) := by decide +kernel
theorem dX3_fetch_96 : decode cX3_fetch 96 = .ok (.iconst 0, 1) := by decide +kernel
theorem dX3_fetch_97 : decode cX3_fetch 97 = .ok (.iastore, 1) := by decide +kernel
theorem dX3_fetch_98 : decode cX3_fetch 98 = .ok (.aload_n 0, 1) := by decide +kernel
theorem dX3_fetch_99 : decode cX3_fetch 99 = .ok (.getfield 50, 3) := by decide +kernel
theorem dX3_fetch_102 : decode cX3_fetch 102 = .ok (.iconst 0, 1) := by decide +kernel
theorem dX3_fetch_103 : decode cX3_fetch 103 = .ok (.iload_n 1, 1) := by decide +kernel
theorem dX3_fetch_104 : decode cX3_fetch 104 = .ok (.ifCond .eq 15, 3) := by decide +kernel
theorem dX3_fetch_107 : decode cX3_fetch 107 = .ok (.aload_n 0, 1) := by decide +kernel
theorem dX3_fetch_108 : decode cX3_fetch 108 = .ok (.getfield 19, 3) := by decide +kernel
theorem dX3_fetch_111 : decode cX3_fetch 111 = .ok (.aload_n 0, 1) := by decide +kernel
theorem dX3_fetch_112 : decode cX3_fetch 112 = .ok (.getfield 85, 3) := by decide +kernel
theorem dX3_fetch_115 : decode cX3_fetch 115 = .ok (.iaload, 1) := by decide +kernel
theorem dX3_fetch_116 : decode cX3_fetch 116 = .ok (.goto 4, 3) := by decide +kernel
theorem dX3_fetch_119 : decode cX3_fetch 119 = .ok (.iconst 0, 1) := by decide +kernel
theorem dX3_fetch_120 : decode cX3_fetch 120 = .ok (.iastore, 1) := by decide +kernel
theorem dX3_fetch_121 : decode cX3_fetch 121 = .ok (.aload_n 0, 1) := by decide +kernel
theorem dX3_fetch_122 : decode cX3_fetch 122 = .ok (.getfield 53, 3) := by decide +kernel
theorem dX3_fetch_125 : decode cX3_fetch 125 = .ok (.iconst 0, 1) := by decide +kernel
theorem dX3_fetch_126 : decode cX3_fetch 126 = .ok (.iload_n 1, 1) := by decide +kernel
theorem dX3_fetch_127 : decode cX3_fetch 127 = .ok (.ifCond .eq 15, 3) := by decide +kernel
theorem dX3_fetch_130 : decode cX3_fetch 130 = .ok (.aload_n 0, 1) := by decide +kernel
theorem dX3_fetch_131 : decode cX3_fetch 131 = .ok (.getfield 22, 3) := by decide +kernel
theorem dX3_fetch_134 : decode cX3_fetch 134 = .ok (.aload_n 0, 1) := by decide +kernel
theorem dX3_fetch_135 : decode cX3_fetch 135 = .ok (.getfield 85, 3) := by decide +kernel
theorem dX3_fetch_138 : decode cX3_fetch 138 = .ok (.iaload, 1) := by decide +kernel
theorem dX3_fetch_139 : decode cX3_fetch 139 = .ok (.goto 4, 3) := by decide +kernel
theorem dX3_fetch_142 : decode cX3_fetch 142 = .ok (.iconst 0, 1) := by decide +kernel
theorem dX3_fetch_143 : decode cX3_fetch 143 = .ok (.iastore, 1) := by decide +kernel
theorem dX3_fetch_144 : decode cX3_fetch 144 = .ok (.aload_n 0, 1) := by decide +kernel
theorem dX3_fetch_145 : decode cX3_fetch 145 = .ok (.getfield 65, 3) := by decide +kernel
theorem dX3_fetch_148 : decode cX3_fetch 148 = .ok (.iconst 0, 1) := by decide +kernel
theorem dX3_fetch_149 : decode cX3_fetch 149 = .ok (.iload_n 1, 1) := by decide +kernel
theorem dX3_fetch_150 : decode cX3_fetch 150 = .ok (.ifCond .eq 7, 3) := by decide +kernel
theorem dX3_fetch_153 : decode cX3_fetch 153 = .ok (.iconst 0, 1) := by decide +kernel
theorem dX3_fetch_154 : decode cX3_fetch 154 = .ok (.goto 4, 3) := by decide +kernel
theorem dX3_fetch_157 : decode cX3_fetch 157 = .ok (.iconst 1, 1) := by decide +kernel
theorem dX3_fetch_158 : decode cX3_fetch 158 = .ok (.iastore, 1) := by decide +kernel
theorem dX3_fetch_159 : decode cX3_fetch 159 = .ok (.aload_n 0, 1) := by decide +kernel
theorem dX3_fetch_160 : decode cX3_fetch 160 = .ok (.getfield 41, 3) := by decide +kernel
theorem dX3_fetch_163 : decode cX3_fetch 163 = .ok (.iconst 0, 1) := by decide +kernel
theorem dX3_fetch_164 : decode cX3_fetch 164 = .ok (.iaload, 1) := by decide +kernel
theorem dX3_fetch_165 : decode cX3_fetch 165 = .ok (.istore_n 2, 1) := by decide +kernel
theorem dX3_fetch_166 : decode cX3_fetch 166 = .ok (.iload_n 2, 1) := by decide +kernel
theorem dX3_fetch_167 : decode cX3_fetch 167 = .ok (.bipush 15, 2) := by decide +kernel
theorem dX3_fetch_169 : decode cX3_fetch 169 = .ok (.if_icmp .eq 31, 3) := by decide +kernel
theorem dX3_fetch_172 : decode cX3_fetch 172 = .ok (.iload_n 2, 1) := by decide +kernel
theorem dX3_fetch_173 : decode cX3_fetch 173 = .ok (.bipush 13, 2) := by decide +kernel
theorem dX3_fetch_175 : decode cX3_fetch 175 = .ok (.if_icmp .eq 9, 3) := by decide +kernel
theorem dX3_fetch_178 : decode cX3_fetch 178 = .ok (.iload_n 2, 1) := by decide +kernel
theorem dX3_fetch_179 : decode cX3_fetch 179 = .ok (.bipush 14, 2) := by decide +kernel
theorem dX3_fetch_181 : decode cX3_fetch 181 = .ok (.if_icmp .ne 23, 3) := by decide +kernel
theorem dX3_fetch_184 : decode cX3_fetch 184 = .ok (.aload_n 0, 1) := by decide +kernel
theorem dX3_fetch_185 : decode cX3_fetch 185 = .ok (.getfield 31, 3) := by decide +kernel
theorem dX3_fetch_188 : decode cX3_fetch 188 = .ok (.aload_n 0, 1) := by decide +kernel
theorem dX3_fetch_189 : decode cX3_fetch 189 = .ok (.getfield 85, 3) := by decide +kernel
theorem dX3_fetch_192 : decode cX3_fetch 192 = .ok (.bipush 7, 2) := by decide +kernel
theorem dX3_fetch_194 : decode cX3_fetch 194 = .ok (.iand, 1) := by decide +kernel
theorem dX3_fetch_195 : decode cX3_fetch 195 = .ok (.iaload, 1) := by decide +kernel
theorem dX3_fetch_196 : decode cX3_fetch 196 = .ok (.iconst 1, 1) := by decide +kernel
theorem dX3_fetch_197 : decode cX3_fetch 197 = .ok (.if_icmp .le 7, 3) := by decide +kernel
theorem dX3_fetch_200 : decode cX3_fetch 200 = .ok (.iconst 1, 1) := by decide +kernel
theorem dX3_fetch_201 : decode cX3_fetch 201 = .ok (.goto 4, 3) := by decide +kernel
theorem dX3_fetch_204 : decode cX3_fetch 204 = .ok (.iconst 0, 1) := by decide +kernel
theorem dX3_fetch_205 : decode cX3_fetch 205 = .ok (.istore_n 3, 1) := by decide +kernel
theorem dX3_fetch_206 : decode cX3_fetch 206 = .ok (.aload_n 0, 1) := by decide +kernel
theorem dX3_fetch_207 : decode cX3_fetch 207 = .ok (.iload_n 3, 1) := by decide +kernel
theorem dX3_fetch_208 : decode cX3_fetch 208 = .ok (.ifCond .eq 17, 3) := by decide +kernel
theorem dX3_fetch_211 : decode cX3_fetch 211 = .ok (.aload_n 0, 1) := by decide +kernel
theorem dX3_fetch_212 : decode cX3_fetch 212 = .ok (.getfield 85, 3) := by decide +kernel
theorem dX3_fetch_215 : decode cX3_fetch 215 = .ok (.aload_n 0, 1) := by decide +kernel
theorem dX3_fetch_216 : decode cX3_fetch 216 = .ok (.getfield 53, 3) := by decide +kernel
theorem dX3_fetch_219 : decode cX3_fetch 219 = .ok (.iconst 0, 1) := by decide +kernel
theorem dX3_fetch_220 : decode cX3_fetch 220 = .ok (.iaload, 1) := by decide +kernel
theorem dX3_fetch_221 : decode cX3_fetch 221 = .ok (.iadd, 1) := by decide +kernel
theorem dX3_fetch_222 : decode cX3_fetch 222 = .ok (.goto 9, 3) := by decide +kernel
theorem dX3_fetch_225 : decode cX3_fetch 225 = .ok (.aload_n 0, 1) := by decide +kernel
theorem dX3_fetch_226 : decode cX3_fetch 226 = .ok (.getfield 85, 3) := by decide +kernel
theorem dX3_fetch_229 : decode cX3_fetch 229 = .ok (.iconst 1, 1) := by decide +kernel
theorem dX3_fetch_230 : decode cX3_fetch 230 = .ok (.iadd, 1) := by decide +kernel
theorem dX3_fetch_231 : decode cX3_fetch 231 = .ok (.putfield 85, 3) := by decide +kernel
theorem dX3_fetch_234 : decode cX3_fetch 234 = .ok (.aload_n 0, 1) := by decide +kernel
theorem dX3_fetch_235 : decode cX3_fetch 235 = .ok (.getfield 56, 3) := by decide +kernel
theorem dX3_fetch_238 : decode cX3_fetch 238 = .ok (.iconst 0, 1) := by decide +kernel
theorem dX3_fetch_239 : decode cX3_fetch 239 = .ok (.aload_n 0, 1) := by decide +kernel
theorem dX3_fetch_240 : decode cX3_fetch 240 = .ok (.getfield 85, 3) := by decide +kernel
theorem dX3_fetch_243 : decode cX3_fetch 243 = .ok (.iastore, 1) := by decide +kernel
theorem dX3_fetch_244 : decode cX3_fetch 244 = .ok (.return_, 1) := by decide +kernel
theorem dX3_cycle_0 : decode cX3_cycle 0 = .ok (.aload_n 0, 1) := by decide +kernel
theorem dX3_cycle_1 : decode cX3_cycle 1 = .ok (.dup, 1) := by decide +kernel
theorem dX3_cycle_2 : decode cX3_cycle 2 = .ok (.getfield 145, 3) := by decide +kernel
theorem dX3_cycle_5 : decode cX3_cycle 5 = .ok (.iconst 1, 1) := by decide +kernel
theorem dX3_cycle_6 : decode cX3_cycle 6 = .ok (.iadd, 1) := by decide +kernel
theorem dX3_cycle_7 : decode cX3_cycle 7 = .ok (.putfield 145, 3) := by decide +kernel
theorem dX3_cycle_10 : decode cX3_cycle 10 = .ok (.aload_n 0, 1) := by decide +kernel
theorem dX3_cycle_11 : decode cX3_cycle 11 = .ok (.getfield 34, 3) := by decide +kernel
theorem dX3_cycle_14 : decode cX3_cycle 14 = .ok (.iconst 3, 1) := by decide +kernel
theorem dX3_cycle_15 : decode cX3_cycle 15 = .ok (.baload, 1) := by decide +kernel
theorem dX3_cycle_16 : decode cX3_cycle 16 = .ok (.ifCond .eq 32, 3) := by decide +kernel
theorem dX3_cycle_19 : decode cX3_cycle 19 = .ok (.aload_n 0, 1) := by decide +kernel
theorem dX3_cycle_20 : decode cX3_cycle 20 = .ok (.getfield 41, 3) := by decide +kernel
theorem dX3_cycle_23 : decode cX3_cycle 23 = .ok (.iconst 3, 1) := by decide +kernel
theorem dX3_cycle_24 : decode cX3_cycle 24 = .ok (.iaload, 1) := by decide +kernel
theorem dX3_cycle_25 : decode cX3_cycle 25 = .ok (.bipush 11, 2) := by decide +kernel
theorem dX3_cycle_27 : decode cX3_cycle 27 = .ok (.if_icmp .ne 21, 3) := by decide +kernel
theorem dX3_cycle_30 : decode cX3_cycle 30 = .ok (.aload_n 0, 1) := by decide +kernel
theorem dX3_cycle_31 : decode cX3_cycle 31 = .ok (.getfield 65, 3) := by decide +kernel
theorem dX3_cycle_34 : decode cX3_cycle 34 = .ok (.iconst 3, 1) := by decide +kernel
theorem dX3_cycle_35 : decode cX3_cycle 35 = .ok (.iaload, 1) := by decide +kernel
theorem dX3_cycle_36 : decode cX3_cycle 36 = .ok (.ifCond .ne 12, 3) := by decide +kernel
theorem dX3_cycle_39 : decode cX3_cycle 39 = .ok (.aload_n 0, 1) := by decide +kernel
theorem dX3_cycle_40 : decode cX3_cycle 40 = .ok (.getfield 44, 3) := by decide +kernel
theorem dX3_cycle_43 : decode cX3_cycle 43 = .ok (.iconst 3, 1) := by decide +kernel
theorem dX3_cycle_44 : decode cX3_cycle 44 = .ok (.iaload, 1) := by decide +kernel
theorem dX3_cycle_45 : decode cX3_cycle 45 = .ok (.goto 4, 3) := by decide +kernel
theorem dX3_cycle_48 : decode cX3_cycle 48 = .ok (.iconst 0, 1) := by decide +kernel
theorem dX3_cycle_49 : decode cX3_cycle 49 = .ok (.istore_n 1, 1) := by decide +kernel
theorem dX3_cycle_50 : decode cX3_cycle 50 = .ok (.aload_n 0, 1) := by decide +kernel
theorem dX3_cycle_51 : decode cX3_cycle 51 = .ok (.invokevirtual 148, 3) := by decide +kernel
theorem dX3_cycle_54 : decode cX3_cycle 54 = .ok (.ifCond .eq 4, 3) := by decide +kernel
theorem dX3_cycle_57 : decode cX3_cycle 57 = .ok (.return_, 1) := by decide +kernel
theorem dX3_cycle_58 : decode cX3_cycle 58 = .ok (.aload_n 0, 1) := by decide +kernel
theorem dX3_cycle_59 : decode cX3_cycle 59 = .ok (.invokevirtual 152, 3) := by decide +kernel
theorem dX3_cycle_62 : decode cX3_cycle 62 = .ok (.aload_n 0, 1) := by decide +kernel
theorem dX3_cycle_63 : decode cX3_cycle 63 = .ok (.iload_n 1, 1) := by decide +kernel
theorem dX3_cycle_64 : decode cX3_cycle 64 = .ok (.invokevirtual 155, 3) := by decide +kernel
theorem dX3_cycle_67 : decode cX3_cycle 67 = .ok (.aload_n 0, 1) := by decide +kernel
theorem dX3_cycle_68 : decode cX3_cycle 68 = .ok (.getfield 34, 3) := by decide +kernel
theorem dX3_cycle_71 : decode cX3_cycle 71 = .ok (.iconst 2, 1) := by decide +kernel
theorem dX3_cycle_72 : decode cX3_cycle 72 = .ok (.baload, 1) := by decide +kernel
theorem dX3_cycle_73 : decode cX3_cycle 73 = .ok (.ifCond .ne 53, 3) := by decide +kernel
theorem dX3_cycle_76 : decode cX3_cycle 76 = .ok (.aload_n 0, 1) := by decide +kernel
theorem dX3_cycle_77 : decode cX3_cycle 77 = .ok (.getfield 34, 3) := by decide +kernel
theorem dX3_cycle_80 : decode cX3_cycle 80 = .ok (.iconst 1, 1) := by decide +kernel
theorem dX3_cycle_81 : decode cX3_cycle 81 = .ok (.baload, 1) := by decide +kernel
theorem dX3_cycle_82 : decode cX3_cycle 82 = .ok (.ifCond .eq 44, 3) := by decide +kernel
theorem dX3_cycle_85 : decode cX3_cycle 85 = .ok (.aload_n 0, 1) := by decide +kernel
theorem dX3_cycle_86 : decode cX3_cycle 86 = .ok (.iconst 1, 1) := by decide +kernel
theorem dX3_cycle_87 : decode cX3_cycle 87 = .ok (.invokevirtual 114, 3) := by decide +kernel
theorem dX3_cycle_90 : decode cX3_cycle 90 = .ok (.aload_n 0, 1) := by decide +kernel
theorem dX3_cycle_91 : decode cX3_cycle 91 = .ok (.aload_n 0, 1) := by decide +kernel
theorem dX3_cycle_92 : decode cX3_cycle 92 = .ok (.getfield 41, 3) := by decide +kernel
theorem dX3_cycle_95 : decode cX3_cycle 95 = .ok (.iconst 2, 1) := by decide +kernel
theorem dX3_cycle_96 : decode cX3_cycle 96 = .ok (.iaload, 1) := by decide +kernel
theorem dX3_cycle_97 : decode cX3_cycle 97 = .ok (.bipush 7, 2) := by decide +kernel
theorem dX3_cycle_99 : decode cX3_cycle 99 = .ok (.if_icmp .ne 7, 3) := by decide +kernel
theorem dX3_cycle_102 : decode cX3_cycle 102 = .ok (.iconst 3, 1) := by decide +kernel
theorem dX3_cycle_103 : decode cX3_cycle 103 = .ok (.goto 20, 3) := by decide +kernel
theorem dX3_cycle_106 : decode cX3_cycle 106 = .ok (.aload_n 0, 1) := by decide +kernel
theorem dX3_cycle_107 : decode cX3_cycle 107 = .ok (.getfield 41, 3) := by decide +kernel
theorem dX3_cycle_110 : decode cX3_cycle 110 = .ok (.iconst 2, 1) := by decide +kernel
theorem dX3_cycle_111 : decode cX3_cycle 111 = .ok (.iaload, 1) := by decide +kernel
theorem dX3_cycle_112 : decode cX3_cycle 112 = .ok (.bipush 8, 2) := by decide +kernel
theorem dX3_cycle_114 : decode cX3_cycle 114 = .ok (.if_icmp .ne 8, 3) := by decide +kernel
theorem dX3_cycle_117 : decode cX3_cycle 117 = .ok (.bipush 6, 2) := by decide +kernel
theorem dX3_cycle_119 : decode cX3_cycle 119 = .ok (.goto 4, 3) := by decide +kernel
theorem dX3_cycle_122 : decode cX3_cycle 122 = .ok (.iconst 1, 1) := by decide +kernel
theorem dX3_cycle_123 : decode cX3_cycle 123 = .ok (.putfield 135, 3) := by decide +kernel
theorem dX3_cycle_126 : decode cX3_cycle 126 = .ok (.aload_n 0, 1) := by decide +kernel
theorem dX3_cycle_127 : decode cX3_cycle 127 = .ok (.getfield 34, 3) := by decide +kernel
theorem dX3_cycle_130 : decode cX3_cycle 130 = .ok (.iconst 1, 1) := by decide +kernel
theorem dX3_cycle_131 : decode cX3_cycle 131 = .ok (.baload, 1) := by decide +kernel
theorem dX3_cycle_132 : decode cX3_cycle 132 = .ok (.ifCond .ne 17, 3) := by decide +kernel
theorem dX3_cycle_135 : decode cX3_cycle 135 = .ok (.aload_n 0, 1) := by decide +kernel
theorem dX3_cycle_136 : decode cX3_cycle 136 = .ok (.getfield 34, 3) := by decide +kernel
theorem dX3_cycle_139 : decode cX3_cycle 139 = .ok (.iconst 0, 1) := by decide +kernel
theorem dX3_cycle_140 : decode cX3_cycle 140 = .ok (.baload, 1) := by decide +kernel
theorem dX3_cycle_141 : decode cX3_cycle 141 = .ok (.ifCond .eq 8, 3) := by decide +kernel
theorem dX3_cycle_144 : decode cX3_cycle 144 = .ok (.aload_n 0, 1) := by decide +kernel
theorem dX3_cycle_145 : decode cX3_cycle 145 = .ok (.iconst 0, 1) := by decide +kernel
theorem dX3_cycle_146 : decode cX3_cycle 146 = .ok (.invokevirtual 114, 3) := by decide +kernel
theorem dX3_cycle_149 : decode cX3_cycle 149 = .ok (.aload_n 0, 1) := by decide +kernel
theorem dX3_cycle_150 : decode cX3_cycle 150 = .ok (.getfield 34, 3) := by decide +kernel
theorem dX3_cycle_153 : decode cX3_cycle 153 = .ok (.iconst 0, 1) := by decide +kernel
theorem dX3_cycle_154 : decode cX3_cycle 154 = .ok (.baload, 1) := by decide +kernel
theorem dX3_cycle_155 : decode cX3_cycle 155 = .ok (.ifCond .ne 7, 3) := by decide +kernel
theorem dX3_cycle_158 : decode cX3_cycle 158 = .ok (.aload_n 0, 1) := by decide +kernel
theorem dX3_cycle_159 : decode cX3_cycle 159 = .ok (.invokevirtual 158, 3) := by decide +kernel
theorem dX3_cycle_162 : decode cX3_cycle 162 = .ok (.return_, 1) := by decide +kernel
theorem dX3_cycles_0 : decode cX3_cycles 0 = .ok (.aload_n 0, 1) := by decide +kernel
theorem dX3_cycles_1 : decode cX3_cycles 1 = .ok (.iload_n 1, 1) := by decide +kernel
theorem dX3_cycles_2 : decode cX3_cycles 2 = .ok (.iconst 1, 1) := by decide +kernel
theorem dX3_cycles_3 : decode cX3_cycles 3 = .ok (.sipush 300, 3) := by decide +kernel
theorem dX3_cycles_6 : decode cX3_cycles 6 = .ok (.invokevirtual 75, 3) := by decide +kernel
theorem dX3_cycles_9 : decode cX3_cycles 9 = .ok (.ifCond .eq 5, 3) := by decide +kernel
theorem dX3_cycles_12 : decode cX3_cycles 12 = .ok (.iconst 0, 1) := by decide +kernel
theorem dX3_cycles_13 : decode cX3_cycles 13 = .ok (.ireturn, 1) := by decide +kernel
theorem dX3_cycles_14 : decode cX3_cycles 14 = .ok (.aload_n 0, 1) := by decide +kernel
theorem dX3_cycles_15 : decode cX3_cycles 15 = .ok (.getfield 108, 3) := by decide +kernel
theorem dX3_cycles_18 : decode cX3_cycles 18 = .ok (.istore_n 2, 1) := by decide +kernel
theorem dX3_cycles_19 : decode cX3_cycles 19 = .ok (.iconst 0, 1) := by decide +kernel
theorem dX3_cycles_20 : decode cX3_cycles 20 = .ok (.istore_n 3, 1) := by decide +kernel
theorem dX3_cycles_21 : decode cX3_cycles 21 = .ok (.iload_n 3, 1) := by decide +kernel
theorem dX3_cycles_22 : decode cX3_cycles 22 = .ok (.iload_n 1, 1) := by decide +kernel
theorem dX3_cycles_23 : decode cX3_cycles 23 = .ok (.if_icmp .ge 20, 3) := by decide +kernel
theorem dX3_cycles_26 : decode cX3_cycles 26 = .ok (.aload_n 0, 1) := by decide +kernel
theorem dX3_cycles_27 : decode cX3_cycles 27 = .ok (.getfield 88, 3) := by decide +kernel
theorem dX3_cycles_30 : decode cX3_cycles 30 = .ok (.ifCond .ne 13, 3) := by decide +kernel
theorem dX3_cycles_33 : decode cX3_cycles 33 = .ok (.aload_n 0, 1) := by decide +kernel
theorem dX3_cycles_34 : decode cX3_cycles 34 = .ok (.invokevirtual 161, 3) := by decide +kernel
theorem dX3_cycles_37 : decode cX3_cycles 37 = .ok (.iinc 3 1, 3) := by decide +kernel
theorem dX3_cycles_40 : decode cX3_cycles 40 = .ok (.goto (-19), 3) := by decide +kernel
theorem dX3_cycles_43 : decode cX3_cycles 43 = .ok (.aload_n 0, 1) := by decide +kernel
theorem dX3_cycles_44 : decode cX3_cycles 44 = .ok (.getfield 108, 3) := by decide +kernel
theorem dX3_cycles_47 : decode cX3_cycles 47 = .ok (.iload_n 2, 1) := by decide +kernel
theorem dX3_cycles_48 : decode cX3_cycles 48 = .ok (.isub, 1) := by decide +kernel
theorem dX3_cycles_49 : decode cX3_cycles 49 = .ok (.ireturn, 1) := by decide +kernel
theorem dX3_stage_0 : decode cX3_stage 0 = .ok (.aload_n 0, 1) := by decide +kernel
theorem dX3_stage_1 : decode cX3_stage 1 = .ok (.iload_n 1, 1) := by decide +kernel
theorem dX3_stage_2 : decode cX3_stage 2 = .ok (.iconst 0, 1) := by decide +kernel
theorem dX3_stage_3 : decode cX3_stage 3 = .ok (.iconst 4, 1) := by decide +kernel
theorem dX3_stage_4 : decode cX3_stage 4 = .ok (.invokevirtual 75, 3) := by decide +kernel
theorem dX3_stage_7 : decode cX3_stage 7 = .ok (.ifCond .eq 5, 3) := by decide +kernel
theorem dX3_stage_10 : decode cX3_stage 10 = .ok (.iconst 0, 1) := by decide +kernel
theorem dX3_stage_11 : decode cX3_stage 11 = .ok (.ireturn, 1) := by decide +kernel
theorem dX3_stage_12 : decode cX3_stage 12 = .ok (.aload_n 0, 1) := by decide +kernel
theorem dX3_stage_13 : decode cX3_stage 13 = .ok (.getfield 34, 3) := by decide +kernel
theorem dX3_stage_16 : decode cX3_stage 16 = .ok (.iload_n 1, 1) := by decide +kernel
theorem dX3_stage_17 : decode cX3_stage 17 = .ok (.baload, 1) := by decide +kernel
theorem dX3_stage_18 : decode cX3_stage 18 = .ok (.ifCond .eq 12, 3) := by decide +kernel
theorem dX3_stage_21 : decode cX3_stage 21 = .ok (.aload_n 0, 1) := by decide +kernel
theorem dX3_stage_22 : decode cX3_stage 22 = .ok (.getfield 38, 3) := by decide +kernel
theorem dX3_stage_25 : decode cX3_stage 25 = .ok (.iload_n 1, 1) := by decide +kernel
theorem dX3_stage_26 : decode cX3_stage 26 = .ok (.iaload, 1) := by decide +kernel
theorem dX3_stage_27 : decode cX3_stage 27 = .ok (.goto 4, 3) := by decide +kernel
theorem dX3_stage_30 : decode cX3_stage 30 = .ok (.iconst (-1), 1) := by decide +kernel
theorem dX3_stage_31 : decode cX3_stage 31 = .ok (.ireturn, 1) := by decide +kernel
theorem dX3_counter_0 : decode cX3_counter 0 = .ok (.aload_n 0, 1) := by decide +kernel
theorem dX3_counter_1 : decode cX3_counter 1 = .ok (.iload_n 1, 1) := by decide +kernel
theorem dX3_counter_2 : decode cX3_counter 2 = .ok (.iconst 0, 1) := by decide +kernel
theorem dX3_counter_3 : decode cX3_counter 3 = .ok (.bipush 7, 2) := by decide +kernel
theorem dX3_counter_5 : decode cX3_counter 5 = .ok (.invokevirtual 75, 3) := by decide +kernel
theorem dX3_counter_8 : decode cX3_counter 8 = .ok (.ifCond .eq 7, 3) := by decide +kernel
theorem dX3_counter_11 : decode cX3_counter 11 = .ok (.iconst 0, 1) := by decide +kernel
theorem dX3_counter_12 : decode cX3_counter 12 = .ok (.goto 9, 3) := by decide +kernel
theorem dX3_counter_15 : decode cX3_counter 15 = .ok (.aload_n 0, 1) := by decide +kernel
theorem dX3_counter_16 : decode cX3_counter 16 = .ok (.getfield 31, 3) := by decide +kernel
theorem dX3_counter_19 : decode cX3_counter 19 = .ok (.iload_n 1, 1) := by decide +kernel
theorem dX3_counter_20 : decode cX3_counter 20 = .ok (.iaload, 1) := by decide +kernel
theorem dX3_counter_21 : decode cX3_counter 21 = .ok (.ireturn, 1) := by decide +kernel
theorem dX3_retired_0 : decode cX3_retired 0 = .ok (.aload_n 0, 1) := by decide +kernel
theorem dX3_retired_1 : decode cX3_retired 1 = .ok (.iload_n 1, 1) := by decide +kernel
theorem dX3_retired_2 : decode cX3_retired 2 = .ok (.iconst 0, 1) := by decide +kernel
theorem dX3_retired_3 : decode cX3_retired 3 = .ok (.aload_n 0, 1) := by decide +kernel
theorem dX3_retired_4 : decode cX3_retired 4 = .ok (.getfield 111, 3) := by decide +kernel
theorem dX3_retired_7 : decode cX3_retired 7 = .ok (.iconst 1, 1) := by decide +kernel
theorem dX3_retired_8 : decode cX3_retired 8 = .ok (.isub, 1) := by decide +kernel
theorem dX3_retired_9 : decode cX3_retired 9 = .ok (.invokevirtual 75, 3) := by decide +kernel
theorem dX3_retired_12 : decode cX3_retired 12 = .ok (.ifCond .eq 7, 3) := by decide +kernel
theorem dX3_retired_15 : decode cX3_retired 15 = .ok (.iconst 0, 1) := by decide +kernel
theorem dX3_retired_16 : decode cX3_retired 16 = .ok (.goto 9, 3) := by decide +kernel
theorem dX3_retired_19 : decode cX3_retired 19 = .ok (.aload_n 0, 1) := by decide +kernel
theorem dX3_retired_20 : decode cX3_retired 20 = .ok (.getfield 68, 3) := by decide +kernel
theorem dX3_retired_23 : decode cX3_retired 23 = .ok (.iload_n 1, 1) := by decide +kernel
theorem dX3_retired_24 : decode cX3_retired 24 = .ok (.iaload, 1) := by decide +kernel
theorem dX3_retired_25 : decode cX3_retired 25 = .ok (.ireturn, 1) := by decide +kernel
theorem dX3_count_0 : decode cX3_count 0 = .ok (.aload_n 0, 1) := by decide +kernel
theorem dX3_count_1 : decode cX3_count 1 = .ok (.iload_n 1, 1) := by decide +kernel
theorem dX3_count_2 : decode cX3_count 2 = .ok (.iconst 0, 1) := by decide +kernel
theorem dX3_count_3 : decode cX3_count 3 = .ok (.bipush 8, 2) := by decide +kernel
theorem dX3_count_5 : decode cX3_count 5 = .ok (.invokevirtual 75, 3) := by decide +kernel
theorem dX3_count_8 : decode cX3_count 8 = .ok (.ifCond .eq 5, 3) := by decide +kernel
theorem dX3_count_11 : decode cX3_count 11 = .ok (.iconst 0, 1) := by decide +kernel
theorem dX3_count_12 : decode cX3_count 12 = .ok (.ireturn, 1) := by decide +kernel
theorem dX3_count_13 : decode cX3_count 13 = .ok (.iload_n 1, 1) := by decide +kernel
theorem dX3_count_14 : decode cX3_count 14 = .ok (.tableswitch 86 0 7 #[46, 51, 56, 61, 66, 71, 76, 81], 46) := by decide +kernel
theorem dX3_count_60 : decode cX3_count 60 = .ok (.aload_n 0, 1) := by decide +kernel
theorem dX3_count_61 : decode cX3_count 61 = .ok (.getfield 145, 3) := by decide +kernel
theorem dX3_count_64 : decode cX3_count 64 = .ok (.ireturn, 1) := by decide +kernel
theorem dX3_count_65 : decode cX3_count 65 = .ok (.aload_n 0, 1) := by decide +kernel
theorem dX3_count_66 : decode cX3_count 66 = .ok (.getfield 108, 3) := by decide +kernel
theorem dX3_count_69 : decode cX3_count 69 = .ok (.ireturn, 1) := by decide +kernel
theorem dX3_count_70 : decode cX3_count 70 = .ok (.aload_n 0, 1) := by decide +kernel
theorem dX3_count_71 : decode cX3_count 71 = .ok (.getfield 132, 3) := by decide +kernel
theorem dX3_count_74 : decode cX3_count 74 = .ok (.ireturn, 1) := by decide +kernel
theorem dX3_count_75 : decode cX3_count 75 = .ok (.aload_n 0, 1) := by decide +kernel
theorem dX3_count_76 : decode cX3_count 76 = .ok (.getfield 142, 3) := by decide +kernel
theorem dX3_count_79 : decode cX3_count 79 = .ok (.ireturn, 1) := by decide +kernel
theorem dX3_count_80 : decode cX3_count 80 = .ok (.aload_n 0, 1) := by decide +kernel
theorem dX3_count_81 : decode cX3_count 81 = .ok (.getfield 95, 3) := by decide +kernel
theorem dX3_count_84 : decode cX3_count 84 = .ok (.ireturn, 1) := by decide +kernel
theorem dX3_count_85 : decode cX3_count 85 = .ok (.aload_n 0, 1) := by decide +kernel
theorem dX3_count_86 : decode cX3_count 86 = .ok (.getfield 85, 3) := by decide +kernel
theorem dX3_count_89 : decode cX3_count 89 = .ok (.ireturn, 1) := by decide +kernel
theorem dX3_count_90 : decode cX3_count 90 = .ok (.aload_n 0, 1) := by decide +kernel
theorem dX3_count_91 : decode cX3_count 91 = .ok (.getfield 98, 3) := by decide +kernel
theorem dX3_count_94 : decode cX3_count 94 = .ok (.ireturn, 1) := by decide +kernel
theorem dX3_count_95 : decode cX3_count 95 = .ok (.aload_n 0, 1) := by decide +kernel
theorem dX3_count_96 : decode cX3_count 96 = .ok (.getfield 101, 3) := by decide +kernel
theorem dX3_count_99 : decode cX3_count 99 = .ok (.ireturn, 1) := by decide +kernel
theorem dX3_count_100 : decode cX3_count 100 = .ok (.aload_n 0, 1) := by decide +kernel
theorem dX3_count_101 : decode cX3_count 101 = .ok (.getfield 88, 3) := by decide +kernel
theorem dX3_count_104 : decode cX3_count 104 = .ok (.ifCond .eq 7, 3) := by decide +kernel
theorem dX3_count_107 : decode cX3_count 107 = .ok (.iconst 1, 1) := by decide +kernel
theorem dX3_count_108 : decode cX3_count 108 = .ok (.goto 4, 3) := by decide +kernel
theorem dX3_count_111 : decode cX3_count 111 = .ok (.iconst 0, 1) := by decide +kernel
theorem dX3_count_112 : decode cX3_count 112 = .ok (.ireturn, 1) := by decide +kernel
theorem dX3_pace_0 : decode cX3_pace 0 = .ok (.aload_n 0, 1) := by decide +kernel
theorem dX3_pace_1 : decode cX3_pace 1 = .ok (.iconst 0, 1) := by decide +kernel
theorem dX3_pace_2 : decode cX3_pace 2 = .ok (.putfield 71, 3) := by decide +kernel
theorem dX3_pace_5 : decode cX3_pace 5 = .ok (.aload_n 0, 1) := by decide +kernel
theorem dX3_pace_6 : decode cX3_pace 6 = .ok (.getfield 108, 3) := by decide +kernel
theorem dX3_pace_9 : decode cX3_pace 9 = .ok (.ifCond .ne 5, 3) := by decide +kernel
theorem dX3_pace_12 : decode cX3_pace 12 = .ok (.fconst 0, 1) := by decide +kernel
theorem dX3_pace_13 : decode cX3_pace 13 = .ok (.freturn, 1) := by decide +kernel
theorem dX3_pace_14 : decode cX3_pace 14 = .ok (.aload_n 0, 1) := by decide +kernel
theorem dX3_pace_15 : decode cX3_pace 15 = .ok (.getfield 145, 3) := by decide +kernel
theorem dX3_pace_18 : decode cX3_pace 18 = .ok (.i2f, 1) := by decide +kernel
theorem dX3_pace_19 : decode cX3_pace 19 = .ok (.fstore_n 1, 1) := by decide +kernel
theorem dX3_pace_20 : decode cX3_pace 20 = .ok (.aload_n 0, 1) := by decide +kernel
theorem dX3_pace_21 : decode cX3_pace 21 = .ok (.getfield 108, 3) := by decide +kernel
theorem dX3_pace_24 : decode cX3_pace 24 = .ok (.i2f, 1) := by decide +kernel
theorem dX3_pace_25 : decode cX3_pace 25 = .ok (.fstore_n 2, 1) := by decide +kernel
theorem dX3_pace_26 : decode cX3_pace 26 = .ok (.fload_n 1, 1) := by decide +kernel
theorem dX3_pace_27 : decode cX3_pace 27 = .ok (.fload_n 2, 1) := by decide +kernel
theorem dX3_pace_28 : decode cX3_pace 28 = .ok (.fdiv, 1) := by decide +kernel
theorem dX3_pace_29 : decode cX3_pace 29 = .ok (.freturn, 1) := by decide +kernel
theorem dJ9_floorMod_7cf53_0 : decode cJ9_floorMod_7cf53 0 = .ok (.iload_n 0, 1) := by decide +kernel
theorem dJ9_floorMod_7cf53_1 : decode cJ9_floorMod_7cf53 1 = .ok (.iload_n 1, 1) := by decide +kernel
theorem dJ9_floorMod_7cf53_2 : decode cJ9_floorMod_7cf53 2 = .ok (.irem, 1) := by decide +kernel
theorem dJ9_floorMod_7cf53_3 : decode cJ9_floorMod_7cf53 3 = .ok (.istore_n 2, 1) := by decide +kernel
theorem dJ9_floorMod_7cf53_4 : decode cJ9_floorMod_7cf53 4 = .ok (.iload_n 0, 1) := by decide +kernel
theorem dJ9_floorMod_7cf53_5 : decode cJ9_floorMod_7cf53 5 = .ok (.iload_n 1, 1) := by decide +kernel
theorem dJ9_floorMod_7cf53_6 : decode cJ9_floorMod_7cf53 6 = .ok (.ixor, 1) := by decide +kernel
theorem dJ9_floorMod_7cf53_7 : decode cJ9_floorMod_7cf53 7 = .ok (.ifCond .ge 11, 3) := by decide +kernel
theorem dJ9_floorMod_7cf53_10 : decode cJ9_floorMod_7cf53 10 = .ok (.iload_n 2, 1) := by decide +kernel
theorem dJ9_floorMod_7cf53_11 : decode cJ9_floorMod_7cf53 11 = .ok (.ifCond .eq 7, 3) := by decide +kernel
theorem dJ9_floorMod_7cf53_14 : decode cJ9_floorMod_7cf53 14 = .ok (.iload_n 2, 1) := by decide +kernel
theorem dJ9_floorMod_7cf53_15 : decode cJ9_floorMod_7cf53 15 = .ok (.iload_n 1, 1) := by decide +kernel
theorem dJ9_floorMod_7cf53_16 : decode cJ9_floorMod_7cf53 16 = .ok (.iadd, 1) := by decide +kernel
theorem dJ9_floorMod_7cf53_17 : decode cJ9_floorMod_7cf53 17 = .ok (.ireturn, 1) := by decide +kernel
theorem dJ9_floorMod_7cf53_18 : decode cJ9_floorMod_7cf53 18 = .ok (.iload_n 2, 1) := by decide +kernel
theorem dJ9_floorMod_7cf53_19 : decode cJ9_floorMod_7cf53 19 = .ok (.ireturn, 1) := by decide +kernel
theorem dJ9_max_7cf53_0 : decode cJ9_max_7cf53 0 = .ok (.iload_n 0, 1) := by decide +kernel
theorem dJ9_max_7cf53_1 : decode cJ9_max_7cf53 1 = .ok (.iload_n 1, 1) := by decide +kernel
theorem dJ9_max_7cf53_2 : decode cJ9_max_7cf53 2 = .ok (.if_icmp .lt 7, 3) := by decide +kernel
theorem dJ9_max_7cf53_5 : decode cJ9_max_7cf53 5 = .ok (.iload_n 0, 1) := by decide +kernel
theorem dJ9_max_7cf53_6 : decode cJ9_max_7cf53 6 = .ok (.goto 4, 3) := by decide +kernel
theorem dJ9_max_7cf53_9 : decode cJ9_max_7cf53 9 = .ok (.iload_n 1, 1) := by decide +kernel
theorem dJ9_max_7cf53_10 : decode cJ9_max_7cf53 10 = .ok (.ireturn, 1) := by decide +kernel
theorem dJ9_min_7cf53_0 : decode cJ9_min_7cf53 0 = .ok (.iload_n 0, 1) := by decide +kernel
theorem dJ9_min_7cf53_1 : decode cJ9_min_7cf53 1 = .ok (.iload_n 1, 1) := by decide +kernel
theorem dJ9_min_7cf53_2 : decode cJ9_min_7cf53 2 = .ok (.if_icmp .gt 7, 3) := by decide +kernel
theorem dJ9_min_7cf53_5 : decode cJ9_min_7cf53 5 = .ok (.iload_n 0, 1) := by decide +kernel
theorem dJ9_min_7cf53_6 : decode cJ9_min_7cf53 6 = .ok (.goto 4, 3) := by decide +kernel
theorem dJ9_min_7cf53_9 : decode cJ9_min_7cf53 9 = .ok (.iload_n 1, 1) := by decide +kernel
theorem dJ9_min_7cf53_10 : decode cJ9_min_7cf53 10 = .ok (.ireturn, 1) := by decide +kernel
theorem dL_put_0 : decode cL_put 0 = .ok (.aload_n 0, 1) := by decide +kernel
theorem dL_put_1 : decode cL_put 1 = .ok (.iload_n 1, 1) := by decide +kernel
theorem dL_put_2 : decode cL_put 2 = .ok (.iload_n 2, 1) := by decide +kernel
theorem dL_put_3 : decode cL_put 3 = .ok (.iload_n 3, 1) := by decide +kernel
theorem dL_put_4 : decode cL_put 4 = .ok (.iload 4, 2) := by decide +kernel
theorem dL_put_6 : decode cL_put 6 = .ok (.iload 5, 2) := by decide +kernel
theorem dL_put_8 : decode cL_put 8 = .ok (.iload 6, 2) := by decide +kernel
theorem dL_put_10 : decode cL_put 10 = .ok (.invokevirtual 7, 3) := by decide +kernel
theorem dL_put_13 : decode cL_put 13 = .ok (.goto 11, 3) := by decide +kernel
theorem dL_put_16 : decode cL_put 16 = .ok (.astore 7, 2) := by decide +kernel
theorem dL_put_18 : decode cL_put 18 = .ok (.iconst 1, 1) := by decide +kernel
theorem dL_put_19 : decode cL_put 19 = .ok (.ireturn, 1) := by decide +kernel
theorem dL_put_20 : decode cL_put 20 = .ok (.astore 7, 2) := by decide +kernel
theorem dL_put_22 : decode cL_put 22 = .ok (.iconst 2, 1) := by decide +kernel
theorem dL_put_23 : decode cL_put 23 = .ok (.ireturn, 1) := by decide +kernel
theorem dL_put_24 : decode cL_put 24 = .ok (.iconst 0, 1) := by decide +kernel
theorem dL_put_25 : decode cL_put 25 = .ok (.ireturn, 1) := by decide +kernel
theorem dL_poke_0 : decode cL_poke 0 = .ok (.aload_n 3, 1) := by decide +kernel
theorem dL_poke_1 : decode cL_poke 1 = .ok (.iconst 0, 1) := by decide +kernel
theorem dL_poke_2 : decode cL_poke 2 = .ok (.aload_n 0, 1) := by decide +kernel
theorem dL_poke_3 : decode cL_poke 3 = .ok (.iload_n 1, 1) := by decide +kernel
theorem dL_poke_4 : decode cL_poke 4 = .ok (.iload_n 2, 1) := by decide +kernel
theorem dL_poke_5 : decode cL_poke 5 = .ok (.invokevirtual 17, 3) := by decide +kernel
theorem dL_poke_8 : decode cL_poke 8 = .ok (.i2l, 1) := by decide +kernel
theorem dL_poke_9 : decode cL_poke 9 = .ok (.lastore, 1) := by decide +kernel
theorem dL_poke_10 : decode cL_poke 10 = .ok (.goto 7, 3) := by decide +kernel
theorem dL_poke_13 : decode cL_poke 13 = .ok (.astore 4, 2) := by decide +kernel
theorem dL_poke_15 : decode cL_poke 15 = .ok (.iconst 1, 1) := by decide +kernel
theorem dL_poke_16 : decode cL_poke 16 = .ok (.ireturn, 1) := by decide +kernel
theorem dL_poke_17 : decode cL_poke 17 = .ok (.iconst 0, 1) := by decide +kernel
theorem dL_poke_18 : decode cL_poke 18 = .ok (.ireturn, 1) := by decide +kernel
theorem dL_peek_0 : decode cL_peek 0 = .ok (.aload_n 2, 1) := by decide +kernel
theorem dL_peek_1 : decode cL_peek 1 = .ok (.iconst 0, 1) := by decide +kernel
theorem dL_peek_2 : decode cL_peek 2 = .ok (.aload_n 0, 1) := by decide +kernel
theorem dL_peek_3 : decode cL_peek 3 = .ok (.iload_n 1, 1) := by decide +kernel
theorem dL_peek_4 : decode cL_peek 4 = .ok (.invokevirtual 21, 3) := by decide +kernel
theorem dL_peek_7 : decode cL_peek 7 = .ok (.i2l, 1) := by decide +kernel
theorem dL_peek_8 : decode cL_peek 8 = .ok (.lastore, 1) := by decide +kernel
theorem dL_peek_9 : decode cL_peek 9 = .ok (.goto 6, 3) := by decide +kernel
theorem dL_peek_12 : decode cL_peek 12 = .ok (.astore_n 3, 1) := by decide +kernel
theorem dL_peek_13 : decode cL_peek 13 = .ok (.iconst 1, 1) := by decide +kernel
theorem dL_peek_14 : decode cL_peek 14 = .ok (.ireturn, 1) := by decide +kernel
theorem dL_peek_15 : decode cL_peek 15 = .ok (.iconst 0, 1) := by decide +kernel
theorem dL_peek_16 : decode cL_peek 16 = .ok (.ireturn, 1) := by decide +kernel
theorem dL_set_0 : decode cL_set 0 = .ok (.aload_n 3, 1) := by decide +kernel
theorem dL_set_1 : decode cL_set 1 = .ok (.iconst 0, 1) := by decide +kernel
theorem dL_set_2 : decode cL_set 2 = .ok (.aload_n 0, 1) := by decide +kernel
theorem dL_set_3 : decode cL_set 3 = .ok (.iload_n 1, 1) := by decide +kernel
theorem dL_set_4 : decode cL_set 4 = .ok (.iload_n 2, 1) := by decide +kernel
theorem dL_set_5 : decode cL_set 5 = .ok (.invokevirtual 25, 3) := by decide +kernel
theorem dL_set_8 : decode cL_set 8 = .ok (.i2l, 1) := by decide +kernel
theorem dL_set_9 : decode cL_set 9 = .ok (.lastore, 1) := by decide +kernel
theorem dL_set_10 : decode cL_set 10 = .ok (.goto 7, 3) := by decide +kernel
theorem dL_set_13 : decode cL_set 13 = .ok (.astore 4, 2) := by decide +kernel
theorem dL_set_15 : decode cL_set 15 = .ok (.iconst 1, 1) := by decide +kernel
theorem dL_set_16 : decode cL_set 16 = .ok (.ireturn, 1) := by decide +kernel
theorem dL_set_17 : decode cL_set 17 = .ok (.iconst 0, 1) := by decide +kernel
theorem dL_set_18 : decode cL_set 18 = .ok (.ireturn, 1) := by decide +kernel
theorem dL_register_0 : decode cL_register 0 = .ok (.aload_n 2, 1) := by decide +kernel
theorem dL_register_1 : decode cL_register 1 = .ok (.iconst 0, 1) := by decide +kernel
theorem dL_register_2 : decode cL_register 2 = .ok (.aload_n 0, 1) := by decide +kernel
theorem dL_register_3 : decode cL_register 3 = .ok (.iload_n 1, 1) := by decide +kernel
theorem dL_register_4 : decode cL_register 4 = .ok (.invokevirtual 28, 3) := by decide +kernel
theorem dL_register_7 : decode cL_register 7 = .ok (.i2l, 1) := by decide +kernel
theorem dL_register_8 : decode cL_register 8 = .ok (.lastore, 1) := by decide +kernel
theorem dL_register_9 : decode cL_register 9 = .ok (.goto 6, 3) := by decide +kernel
theorem dL_register_12 : decode cL_register 12 = .ok (.astore_n 3, 1) := by decide +kernel
theorem dL_register_13 : decode cL_register 13 = .ok (.iconst 1, 1) := by decide +kernel
theorem dL_register_14 : decode cL_register 14 = .ok (.ireturn, 1) := by decide +kernel
theorem dL_register_15 : decode cL_register 15 = .ok (.iconst 0, 1) := by decide +kernel
theorem dL_register_16 : decode cL_register 16 = .ok (.ireturn, 1) := by decide +kernel
theorem dL_start_0 : decode cL_start 0 = .ok (.aload_n 0, 1) := by decide +kernel
theorem dL_start_1 : decode cL_start 1 = .ok (.iload_n 1, 1) := by decide +kernel
theorem dL_start_2 : decode cL_start 2 = .ok (.invokevirtual 31, 3) := by decide +kernel
theorem dL_start_5 : decode cL_start 5 = .ok (.goto 6, 3) := by decide +kernel
theorem dL_start_8 : decode cL_start 8 = .ok (.astore_n 2, 1) := by decide +kernel
theorem dL_start_9 : decode cL_start 9 = .ok (.iconst 1, 1) := by decide +kernel
theorem dL_start_10 : decode cL_start 10 = .ok (.ireturn, 1) := by decide +kernel
theorem dL_start_11 : decode cL_start 11 = .ok (.iconst 0, 1) := by decide +kernel
theorem dL_start_12 : decode cL_start 12 = .ok (.ireturn, 1) := by decide +kernel
theorem dL_handler_0 : decode cL_handler 0 = .ok (.aload_n 2, 1) := by decide +kernel
theorem dL_handler_1 : decode cL_handler 1 = .ok (.iconst 0, 1) := by decide +kernel
theorem dL_handler_2 : decode cL_handler 2 = .ok (.aload_n 0, 1) := by decide +kernel
theorem dL_handler_3 : decode cL_handler 3 = .ok (.iload_n 1, 1) := by decide +kernel
theorem dL_handler_4 : decode cL_handler 4 = .ok (.invokevirtual 35, 3) := by decide +kernel
theorem dL_handler_7 : decode cL_handler 7 = .ok (.i2l, 1) := by decide +kernel
theorem dL_handler_8 : decode cL_handler 8 = .ok (.lastore, 1) := by decide +kernel
theorem dL_handler_9 : decode cL_handler 9 = .ok (.goto 6, 3) := by decide +kernel
theorem dL_handler_12 : decode cL_handler 12 = .ok (.astore_n 3, 1) := by decide +kernel
theorem dL_handler_13 : decode cL_handler 13 = .ok (.iconst 1, 1) := by decide +kernel
theorem dL_handler_14 : decode cL_handler 14 = .ok (.ireturn, 1) := by decide +kernel
theorem dL_handler_15 : decode cL_handler 15 = .ok (.iconst 0, 1) := by decide +kernel
theorem dL_handler_16 : decode cL_handler 16 = .ok (.ireturn, 1) := by decide +kernel
theorem dL_cycles_0 : decode cL_cycles 0 = .ok (.aload_n 2, 1) := by decide +kernel
theorem dL_cycles_1 : decode cL_cycles 1 = .ok (.iconst 0, 1) := by decide +kernel
theorem dL_cycles_2 : decode cL_cycles 2 = .ok (.aload_n 0, 1) := by decide +kernel
theorem dL_cycles_3 : decode cL_cycles 3 = .ok (.iload_n 1, 1) := by decide +kernel
theorem dL_cycles_4 : decode cL_cycles 4 = .ok (.invokevirtual 38, 3) := by decide +kernel
theorem dL_cycles_7 : decode cL_cycles 7 = .ok (.i2l, 1) := by decide +kernel
theorem dL_cycles_8 : decode cL_cycles 8 = .ok (.lastore, 1) := by decide +kernel
theorem dL_cycles_9 : decode cL_cycles 9 = .ok (.goto 6, 3) := by decide +kernel
theorem dL_cycles_12 : decode cL_cycles 12 = .ok (.astore_n 3, 1) := by decide +kernel
theorem dL_cycles_13 : decode cL_cycles 13 = .ok (.iconst 1, 1) := by decide +kernel
theorem dL_cycles_14 : decode cL_cycles 14 = .ok (.ireturn, 1) := by decide +kernel
theorem dL_cycles_15 : decode cL_cycles 15 = .ok (.iconst 0, 1) := by decide +kernel
theorem dL_cycles_16 : decode cL_cycles 16 = .ok (.ireturn, 1) := by decide +kernel
theorem dL_stage_0 : decode cL_stage 0 = .ok (.aload_n 2, 1) := by decide +kernel
theorem dL_stage_1 : decode cL_stage 1 = .ok (.iconst 0, 1) := by decide +kernel
theorem dL_stage_2 : decode cL_stage 2 = .ok (.aload_n 0, 1) := by decide +kernel
theorem dL_stage_3 : decode cL_stage 3 = .ok (.iload_n 1, 1) := by decide +kernel
theorem dL_stage_4 : decode cL_stage 4 = .ok (.invokevirtual 41, 3) := by decide +kernel
theorem dL_stage_7 : decode cL_stage 7 = .ok (.i2l, 1) := by decide +kernel
theorem dL_stage_8 : decode cL_stage 8 = .ok (.lastore, 1) := by decide +kernel
theorem dL_stage_9 : decode cL_stage 9 = .ok (.goto 6, 3) := by decide +kernel
theorem dL_stage_12 : decode cL_stage 12 = .ok (.astore_n 3, 1) := by decide +kernel
theorem dL_stage_13 : decode cL_stage 13 = .ok (.iconst 1, 1) := by decide +kernel
theorem dL_stage_14 : decode cL_stage 14 = .ok (.ireturn, 1) := by decide +kernel
theorem dL_stage_15 : decode cL_stage 15 = .ok (.iconst 0, 1) := by decide +kernel
theorem dL_stage_16 : decode cL_stage 16 = .ok (.ireturn, 1) := by decide +kernel
theorem dL_counter_0 : decode cL_counter 0 = .ok (.aload_n 2, 1) := by decide +kernel
theorem dL_counter_1 : decode cL_counter 1 = .ok (.iconst 0, 1) := by decide +kernel
theorem dL_counter_2 : decode cL_counter 2 = .ok (.aload_n 0, 1) := by decide +kernel
theorem dL_counter_3 : decode cL_counter 3 = .ok (.iload_n 1, 1) := by decide +kernel
theorem dL_counter_4 : decode cL_counter 4 = .ok (.invokevirtual 44, 3) := by decide +kernel
theorem dL_counter_7 : decode cL_counter 7 = .ok (.i2l, 1) := by decide +kernel
theorem dL_counter_8 : decode cL_counter 8 = .ok (.lastore, 1) := by decide +kernel
theorem dL_counter_9 : decode cL_counter 9 = .ok (.goto 6, 3) := by decide +kernel
theorem dL_counter_12 : decode cL_counter 12 = .ok (.astore_n 3, 1) := by decide +kernel
theorem dL_counter_13 : decode cL_counter 13 = .ok (.iconst 1, 1) := by decide +kernel
theorem dL_counter_14 : decode cL_counter 14 = .ok (.ireturn, 1) := by decide +kernel
theorem dL_counter_15 : decode cL_counter 15 = .ok (.iconst 0, 1) := by decide +kernel
theorem dL_counter_16 : decode cL_counter 16 = .ok (.ireturn, 1) := by decide +kernel
theorem dL_retired_0 : decode cL_retired 0 = .ok (.aload_n 2, 1) := by decide +kernel
theorem dL_retired_1 : decode cL_retired 1 = .ok (.iconst 0, 1) := by decide +kernel
theorem dL_retired_2 : decode cL_retired 2 = .ok (.aload_n 0, 1) := by decide +kernel
theorem dL_retired_3 : decode cL_retired 3 = .ok (.iload_n 1, 1) := by decide +kernel
theorem dL_retired_4 : decode cL_retired 4 = .ok (.invokevirtual 47, 3) := by decide +kernel
theorem dL_retired_7 : decode cL_retired 7 = .ok (.i2l, 1) := by decide +kernel
theorem dL_retired_8 : decode cL_retired 8 = .ok (.lastore, 1) := by decide +kernel
theorem dL_retired_9 : decode cL_retired 9 = .ok (.goto 6, 3) := by decide +kernel
theorem dL_retired_12 : decode cL_retired 12 = .ok (.astore_n 3, 1) := by decide +kernel
theorem dL_retired_13 : decode cL_retired 13 = .ok (.iconst 1, 1) := by decide +kernel
theorem dL_retired_14 : decode cL_retired 14 = .ok (.ireturn, 1) := by decide +kernel
theorem dL_retired_15 : decode cL_retired 15 = .ok (.iconst 0, 1) := by decide +kernel
theorem dL_retired_16 : decode cL_retired 16 = .ok (.ireturn, 1) := by decide +kernel
theorem dL_count_0 : decode cL_count 0 = .ok (.aload_n 2, 1) := by decide +kernel
theorem dL_count_1 : decode cL_count 1 = .ok (.iconst 0, 1) := by decide +kernel
theorem dL_count_2 : decode cL_count 2 = .ok (.aload_n 0, 1) := by decide +kernel
theorem dL_count_3 : decode cL_count 3 = .ok (.iload_n 1, 1) := by decide +kernel
theorem dL_count_4 : decode cL_count 4 = .ok (.invokevirtual 50, 3) := by decide +kernel
theorem dL_count_7 : decode cL_count 7 = .ok (.i2l, 1) := by decide +kernel
theorem dL_count_8 : decode cL_count 8 = .ok (.lastore, 1) := by decide +kernel
theorem dL_count_9 : decode cL_count 9 = .ok (.goto 6, 3) := by decide +kernel
theorem dL_count_12 : decode cL_count 12 = .ok (.astore_n 3, 1) := by decide +kernel
theorem dL_count_13 : decode cL_count 13 = .ok (.iconst 1, 1) := by decide +kernel
theorem dL_count_14 : decode cL_count 14 = .ok (.ireturn, 1) := by decide +kernel
theorem dL_count_15 : decode cL_count 15 = .ok (.iconst 0, 1) := by decide +kernel
theorem dL_count_16 : decode cL_count 16 = .ok (.ireturn, 1) := by decide +kernel
theorem dL_law_0 : decode cL_law 0 = .ok (.new 8, 3) := by decide +kernel
theorem dL_law_3 : decode cL_law 3 = .ok (.dup, 1) := by decide +kernel
theorem dL_law_4 : decode cL_law 4 = .ok (.invokespecial 53, 3) := by decide +kernel
theorem dL_law_7 : decode cL_law 7 = .ok (.astore_n 1, 1) := by decide +kernel
theorem dL_law_8 : decode cL_law 8 = .ok (.new 54, 3) := by decide +kernel
theorem dL_law_11 : decode cL_law 11 = .ok (.dup, 1) := by decide +kernel
theorem dL_law_12 : decode cL_law 12 = .ok (.invokespecial 56, 3) := by decide +kernel
theorem dL_law_15 : decode cL_law 15 = .ok (.astore_n 2, 1) := by decide +kernel
theorem dL_law_16 : decode cL_law 16 = .ok (.iconst 1, 1) := by decide +kernel
theorem dL_law_17 : decode cL_law 17 = .ok (.newarray .long, 2) := by decide +kernel
theorem dL_law_19 : decode cL_law 19 = .ok (.astore_n 3, 1) := by decide +kernel
theorem dL_law_20 : decode cL_law 20 = .ok (.iconst 0, 1) := by decide +kernel
theorem dL_law_21 : decode cL_law 21 = .ok (.istore 4, 2) := by decide +kernel
theorem dL_law_23 : decode cL_law 23 = .ok (.iload 4, 2) := by decide +kernel
theorem dL_law_25 : decode cL_law 25 = .ok (.aload_n 0, 1) := by decide +kernel
theorem dL_law_26 : decode cL_law 26 = .ok (.arraylength, 1) := by decide +kernel
theorem dL_law_27 : decode cL_law 27 = .ok (.bipush 7, 2) := by decide +kernel
theorem dL_law_29 : decode cL_law 29 = .ok (.isub, 1) := by decide +kernel
theorem dL_law_30 : decode cL_law 30 = .ok (.if_icmp .gt 845, 3) := by decide +kernel
theorem dL_law_33 : decode cL_law 33 = .ok (.aload_n 0, 1) := by decide +kernel
theorem dL_law_34 : decode cL_law 34 = .ok (.iload 4, 2) := by decide +kernel
theorem dL_law_36 : decode cL_law 36 = .ok (.iaload, 1) := by decide +kernel
theorem dL_law_37 : decode cL_law 37 = .ok (.bipush 15, 2) := by decide +kernel
theorem dL_law_39 : decode cL_law 39 = .ok (.iand, 1) := by decide +kernel
theorem dL_law_40 : decode cL_law 40 = .ok (.tableswitch 829 0 12 #[68, 166, 234, 290, 358, 414, 450, 506, 562, 618, 674, 730, 786], 68) := by decide +kernel
theorem dL_law_108 : decode cL_law 108 = .ok (.aload_n 1, 1) := by decide +kernel
theorem dL_law_109 : decode cL_law 109 = .ok (.aload_n 0, 1) := by decide +kernel
theorem dL_law_110 : decode cL_law 110 = .ok (.iload 4, 2) := by decide +kernel
theorem dL_law_112 : decode cL_law 112 = .ok (.iconst 1, 1) := by decide +kernel
theorem dL_law_113 : decode cL_law 113 = .ok (.iadd, 1) := by decide +kernel
theorem dL_law_114 : decode cL_law 114 = .ok (.iaload, 1) := by decide +kernel
theorem dL_law_115 : decode cL_law 115 = .ok (.aload_n 0, 1) := by decide +kernel
theorem dL_law_116 : decode cL_law 116 = .ok (.iload 4, 2) := by decide +kernel
theorem dL_law_118 : decode cL_law 118 = .ok (.iconst 2, 1) := by decide +kernel
theorem dL_law_119 : decode cL_law 119 = .ok (.iadd, 1) := by decide +kernel
theorem dL_law_120 : decode cL_law 120 = .ok (.iaload, 1) := by decide +kernel
theorem dL_law_121 : decode cL_law 121 = .ok (.aload_n 0, 1) := by decide +kernel
theorem dL_law_122 : decode cL_law 122 = .ok (.iload 4, 2) := by decide +kernel
theorem dL_law_124 : decode cL_law 124 = .ok (.iconst 3, 1) := by decide +kernel
theorem dL_law_125 : decode cL_law 125 = .ok (.iadd, 1) := by decide +kernel
theorem dL_law_126 : decode cL_law 126 = .ok (.iaload, 1) := by decide +kernel
theorem dL_law_127 : decode cL_law 127 = .ok (.aload_n 0, 1) := by decide +kernel
theorem dL_law_128 : decode cL_law 128 = .ok (.iload 4, 2) := by decide +kernel
theorem dL_law_130 : decode cL_law 130 = .ok (.iconst 4, 1) := by decide +kernel
theorem dL_law_131 : decode cL_law 131 = .ok (.iadd, 1) := by decide +kernel
theorem dL_law_132 : decode cL_law 132 = .ok (.iaload, 1) := by decide +kernel
theorem dL_law_133 : decode cL_law 133 = .ok (.aload_n 0, 1) := by decide +kernel
theorem dL_law_134 : decode cL_law 134 = .ok (.iload 4, 2) := by decide +kernel
theorem dL_law_136 : decode cL_law 136 = .ok (.iconst 5, 1) := by decide +kernel
theorem dL_law_137 : decode cL_law 137 = .ok (.iadd, 1) := by decide +kernel
theorem dL_law_138 : decode cL_law 138 = .ok (.iaload, 1) := by decide +kernel
theorem dL_law_139 : decode cL_law 139 = .ok (.aload_n 0, 1) := by decide +kernel
theorem dL_law_140 : decode cL_law 140 = .ok (.iload 4, 2) := by decide +kernel
theorem dL_law_142 : decode cL_law 142 = .ok (.bipush 6, 2) := by decide +kernel
theorem dL_law_144 : decode cL_law 144 = .ok (.iadd, 1) := by decide +kernel
theorem dL_law_145 : decode cL_law 145 = .ok (.iaload, 1) := by decide +kernel
theorem dL_law_146 : decode cL_law 146 = .ok (.invokestatic 57, 3) := by decide +kernel
theorem dL_law_149 : decode cL_law 149 = .ok (.istore 5, 2) := by decide +kernel
theorem dL_law_151 : decode cL_law 151 = .ok (.aload_n 2, 1) := by decide +kernel
theorem dL_law_152 : decode cL_law 152 = .ok (.aload_n 0, 1) := by decide +kernel
theorem dL_law_153 : decode cL_law 153 = .ok (.iload 4, 2) := by decide +kernel
theorem dL_law_155 : decode cL_law 155 = .ok (.iconst 1, 1) := by decide +kernel
theorem dL_law_156 : decode cL_law 156 = .ok (.iadd, 1) := by decide +kernel
theorem dL_law_157 : decode cL_law 157 = .ok (.iaload, 1) := by decide +kernel
theorem dL_law_158 : decode cL_law 158 = .ok (.aload_n 0, 1) := by decide +kernel
theorem dL_law_159 : decode cL_law 159 = .ok (.iload 4, 2) := by decide +kernel
theorem dL_law_161 : decode cL_law 161 = .ok (.iconst 2, 1) := by decide +kernel
theorem dL_law_162 : decode cL_law 162 = .ok (.iadd, 1) := by decide +kernel
theorem dL_law_163 : decode cL_law 163 = .ok (.iaload, 1) := by decide +kernel
theorem dL_law_164 : decode cL_law 164 = .ok (.aload_n 0, 1) := by decide +kernel
theorem dL_law_165 : decode cL_law 165 = .ok (.iload 4, 2) := by decide +kernel
theorem dL_law_167 : decode cL_law 167 = .ok (.iconst 3, 1) := by decide +kernel
theorem dL_law_168 : decode cL_law 168 = .ok (.iadd, 1) := by decide +kernel
theorem dL_law_169 : decode cL_law 169 = .ok (.iaload, 1) := by decide +kernel
theorem dL_law_170 : decode cL_law 170 = .ok (.aload_n 0, 1) := by decide +kernel
theorem dL_law_171 : decode cL_law 171 = .ok (.iload 4, 2) := by decide +kernel
theorem dL_law_173 : decode cL_law 173 = .ok (.iconst 4, 1) := by decide +kernel
theorem dL_law_174 : decode cL_law 174 = .ok (.iadd, 1) := by decide +kernel
theorem dL_law_175 : decode cL_law 175 = .ok (.iaload, 1) := by decide +kernel
theorem dL_law_176 : decode cL_law 176 = .ok (.aload_n 0, 1) := by decide +kernel
theorem dL_law_177 : decode cL_law 177 = .ok (.iload 4, 2) := by decide +kernel
theorem dL_law_179 : decode cL_law 179 = .ok (.iconst 5, 1) := by decide +kernel
theorem dL_law_180 : decode cL_law 180 = .ok (.iadd, 1) := by decide +kernel
theorem dL_law_181 : decode cL_law 181 = .ok (.iaload, 1) := by decide +kernel
theorem dL_law_182 : decode cL_law 182 = .ok (.aload_n 0, 1) := by decide +kernel
theorem dL_law_183 : decode cL_law 183 = .ok (.iload 4, 2) := by decide +kernel
theorem dL_law_185 : decode cL_law 185 = .ok (.bipush 6, 2) := by decide +kernel
theorem dL_law_187 : decode cL_law 187 = .ok (.iadd, 1) := by decide +kernel
theorem dL_law_188 : decode cL_law 188 = .ok (.iaload, 1) := by decide +kernel
theorem dL_law_189 : decode cL_law 189 = .ok (.invokevirtual 62, 3) := by decide +kernel
theorem dL_law_192 : decode cL_law 192 = .ok (.aload_n 2, 1) := by decide +kernel
theorem dL_law_193 : decode cL_law 193 = .ok (.invokevirtual 63, 3) := by decide +kernel
theorem dL_law_196 : decode cL_law 196 = .ok (.iload 5, 2) := by decide +kernel
theorem dL_law_198 : decode cL_law 198 = .ok (.if_icmp .eq 5, 3) := by decide +kernel
theorem dL_law_201 : decode cL_law 201 = .ok (.iconst 0, 1) := by decide +kernel
theorem dL_law_202 : decode cL_law 202 = .ok (.ireturn, 1) := by decide +kernel
theorem dL_law_203 : decode cL_law 203 = .ok (.goto 666, 3) := by decide +kernel
theorem dL_law_206 : decode cL_law 206 = .ok (.aload_n 1, 1) := by decide +kernel
theorem dL_law_207 : decode cL_law 207 = .ok (.aload_n 0, 1) := by decide +kernel
theorem dL_law_208 : decode cL_law 208 = .ok (.iload 4, 2) := by decide +kernel
theorem dL_law_210 : decode cL_law 210 = .ok (.iconst 1, 1) := by decide +kernel
theorem dL_law_211 : decode cL_law 211 = .ok (.iadd, 1) := by decide +kernel
theorem dL_law_212 : decode cL_law 212 = .ok (.iaload, 1) := by decide +kernel
theorem dL_law_213 : decode cL_law 213 = .ok (.aload_n 0, 1) := by decide +kernel
theorem dL_law_214 : decode cL_law 214 = .ok (.iload 4, 2) := by decide +kernel
theorem dL_law_216 : decode cL_law 216 = .ok (.iconst 2, 1) := by decide +kernel
theorem dL_law_217 : decode cL_law 217 = .ok (.iadd, 1) := by decide +kernel
theorem dL_law_218 : decode cL_law 218 = .ok (.iaload, 1) := by decide +kernel
theorem dL_law_219 : decode cL_law 219 = .ok (.aload_n 3, 1) := by decide +kernel
theorem dL_law_220 : decode cL_law 220 = .ok (.invokestatic 67, 3) := by decide +kernel
theorem dL_law_223 : decode cL_law 223 = .ok (.istore 5, 2) := by decide +kernel
theorem dL_law_225 : decode cL_law 225 = .ok (.aload_n 2, 1) := by decide +kernel
theorem dL_law_226 : decode cL_law 226 = .ok (.aload_n 0, 1) := by decide +kernel
theorem dL_law_227 : decode cL_law 227 = .ok (.iload 4, 2) := by decide +kernel
theorem dL_law_229 : decode cL_law 229 = .ok (.iconst 1, 1) := by decide +kernel
theorem dL_law_230 : decode cL_law 230 = .ok (.iadd, 1) := by decide +kernel
theorem dL_law_231 : decode cL_law 231 = .ok (.iaload, 1) := by decide +kernel
theorem dL_law_232 : decode cL_law 232 = .ok (.aload_n 0, 1) := by decide +kernel
theorem dL_law_233 : decode cL_law 233 = .ok (.iload 4, 2) := by decide +kernel
theorem dL_law_235 : decode cL_law 235 = .ok (.iconst 2, 1) := by decide +kernel
theorem dL_law_236 : decode cL_law 236 = .ok (.iadd, 1) := by decide +kernel
theorem dL_law_237 : decode cL_law 237 = .ok (.iaload, 1) := by decide +kernel
theorem dL_law_238 : decode cL_law 238 = .ok (.invokevirtual 70, 3) := by decide +kernel
theorem dL_law_241 : decode cL_law 241 = .ok (.istore 6, 2) := by decide +kernel
theorem dL_law_243 : decode cL_law 243 = .ok (.aload_n 2, 1) := by decide +kernel
theorem dL_law_244 : decode cL_law 244 = .ok (.invokevirtual 63, 3) := by decide +kernel
theorem dL_law_247 : decode cL_law 247 = .ok (.iload 5, 2) := by decide +kernel
theorem dL_law_249 : decode cL_law 249 = .ok (.if_icmp .eq 5, 3) := by decide +kernel
theorem dL_law_252 : decode cL_law 252 = .ok (.iconst 0, 1) := by decide +kernel
theorem dL_law_253 : decode cL_law 253 = .ok (.ireturn, 1) := by decide +kernel
theorem dL_law_254 : decode cL_law 254 = .ok (.iload 5, 2) := by decide +kernel
theorem dL_law_256 : decode cL_law 256 = .ok (.ifCond .ne 15, 3) := by decide +kernel
theorem dL_law_259 : decode cL_law 259 = .ok (.aload_n 3, 1) := by decide +kernel
theorem dL_law_260 : decode cL_law 260 = .ok (.iconst 0, 1) := by decide +kernel
theorem dL_law_261 : decode cL_law 261 = .ok (.laload, 1) := by decide +kernel
theorem dL_law_262 : decode cL_law 262 = .ok (.iload 6, 2) := by decide +kernel
theorem dL_law_264 : decode cL_law 264 = .ok (.i2l, 1) := by decide +kernel
theorem dL_law_265 : decode cL_law 265 = .ok (.lcmp, 1) := by decide +kernel
theorem dL_law_266 : decode cL_law 266 = .ok (.ifCond .eq 5, 3) := by decide +kernel
theorem dL_law_269 : decode cL_law 269 = .ok (.iconst 0, 1) := by decide +kernel
theorem dL_law_270 : decode cL_law 270 = .ok (.ireturn, 1) := by decide +kernel
theorem dL_law_271 : decode cL_law 271 = .ok (.goto 598, 3) := by decide +kernel
theorem dL_law_274 : decode cL_law 274 = .ok (.aload_n 1, 1) := by decide +kernel
theorem dL_law_275 : decode cL_law 275 = .ok (.aload_n 0, 1) := by decide +kernel
theorem dL_law_276 : decode cL_law 276 = .ok (.iload 4, 2) := by decide +kernel
theorem dL_law_278 : decode cL_law 278 = .ok (.iconst 1, 1) := by decide +kernel
theorem dL_law_279 : decode cL_law 279 = .ok (.iadd, 1) := by decide +kernel
theorem dL_law_280 : decode cL_law 280 = .ok (.iaload, 1) := by decide +kernel
theorem dL_law_281 : decode cL_law 281 = .ok (.aload_n 3, 1) := by decide +kernel
theorem dL_law_282 : decode cL_law 282 = .ok (.invokestatic 71, 3) := by decide +kernel
theorem dL_law_285 : decode cL_law 285 = .ok (.istore 5, 2) := by decide +kernel
theorem dL_law_287 : decode cL_law 287 = .ok (.aload_n 2, 1) := by decide +kernel
theorem dL_law_288 : decode cL_law 288 = .ok (.aload_n 0, 1) := by decide +kernel
theorem dL_law_289 : decode cL_law 289 = .ok (.iload 4, 2) := by decide +kernel
theorem dL_law_291 : decode cL_law 291 = .ok (.iconst 1, 1) := by decide +kernel
theorem dL_law_292 : decode cL_law 292 = .ok (.iadd, 1) := by decide +kernel
theorem dL_law_293 : decode cL_law 293 = .ok (.iaload, 1) := by decide +kernel
theorem dL_law_294 : decode cL_law 294 = .ok (.invokevirtual 74, 3) := by decide +kernel
theorem dL_law_297 : decode cL_law 297 = .ok (.istore 6, 2) := by decide +kernel
theorem dL_law_299 : decode cL_law 299 = .ok (.aload_n 2, 1) := by decide +kernel
theorem dL_law_300 : decode cL_law 300 = .ok (.invokevirtual 63, 3) := by decide +kernel
theorem dL_law_303 : decode cL_law 303 = .ok (.iload 5, 2) := by decide +kernel
theorem dL_law_305 : decode cL_law 305 = .ok (.if_icmp .eq 5, 3) := by decide +kernel
theorem dL_law_308 : decode cL_law 308 = .ok (.iconst 0, 1) := by decide +kernel
theorem dL_law_309 : decode cL_law 309 = .ok (.ireturn, 1) := by decide +kernel
theorem dL_law_310 : decode cL_law 310 = .ok (.iload 5, 2) := by decide +kernel
theorem dL_law_312 : decode cL_law 312 = .ok (.ifCond .ne 15, 3) := by decide +kernel
theorem dL_law_315 : decode cL_law 315 = .ok (.aload_n 3, 1) := by decide +kernel
theorem dL_law_316 : decode cL_law 316 = .ok (.iconst 0, 1) := by decide +kernel
theorem dL_law_317 : decode cL_law 317 = .ok (.laload, 1) := by decide +kernel
theorem dL_law_318 : decode cL_law 318 = .ok (.iload 6, 2) := by decide +kernel
theorem dL_law_320 : decode cL_law 320 = .ok (.i2l, 1) := by decide +kernel
theorem dL_law_321 : decode cL_law 321 = .ok (.lcmp, 1) := by decide +kernel
theorem dL_law_322 : decode cL_law 322 = .ok (.ifCond .eq 5, 3) := by decide +kernel
theorem dL_law_325 : decode cL_law 325 = .ok (.iconst 0, 1) := by decide +kernel
theorem dL_law_326 : decode cL_law 326 = .ok (.ireturn, 1) := by decide +kernel
theorem dL_law_327 : decode cL_law 327 = .ok (.goto 542, 3) := by decide +kernel
theorem dL_law_330 : decode cL_law 330 = .ok (.aload_n 1, 1) := by decide +kernel
theorem dL_law_331 : decode cL_law 331 = .ok (.aload_n 0, 1) := by decide +kernel
theorem dL_law_332 : decode cL_law 332 = .ok (.iload 4, 2) := by decide +kernel
theorem dL_law_334 : decode cL_law 334 = .ok (.iconst 1, 1) := by decide +kernel
theorem dL_law_335 : decode cL_law 335 = .ok (.iadd, 1) := by decide +kernel
theorem dL_law_336 : decode cL_law 336 = .ok (.iaload, 1) := by decide +kernel
theorem dL_law_337 : decode cL_law 337 = .ok (.aload_n 0, 1) := by decide +kernel
theorem dL_law_338 : decode cL_law 338 = .ok (.iload 4, 2) := by decide +kernel
theorem dL_law_340 : decode cL_law 340 = .ok (.iconst 2, 1) := by decide +kernel
theorem dL_law_341 : decode cL_law 341 = .ok (.iadd, 1) := by decide +kernel
theorem dL_law_342 : decode cL_law 342 = .ok (.iaload, 1) := by decide +kernel
theorem dL_law_343 : decode cL_law 343 = .ok (.aload_n 3, 1) := by decide +kernel
theorem dL_law_344 : decode cL_law 344 = .ok (.invokestatic 75, 3) := by decide +kernel
theorem dL_law_347 : decode cL_law 347 = .ok (.istore 5, 2) := by decide +kernel
theorem dL_law_349 : decode cL_law 349 = .ok (.aload_n 2, 1) := by decide +kernel
theorem dL_law_350 : decode cL_law 350 = .ok (.aload_n 0, 1) := by decide +kernel
theorem dL_law_351 : decode cL_law 351 = .ok (.iload 4, 2) := by decide +kernel
theorem dL_law_353 : decode cL_law 353 = .ok (.iconst 1, 1) := by decide +kernel
theorem dL_law_354 : decode cL_law 354 = .ok (.iadd, 1) := by decide +kernel
theorem dL_law_355 : decode cL_law 355 = .ok (.iaload, 1) := by decide +kernel
theorem dL_law_356 : decode cL_law 356 = .ok (.aload_n 0, 1) := by decide +kernel
theorem dL_law_357 : decode cL_law 357 = .ok (.iload 4, 2) := by decide +kernel
theorem dL_law_359 : decode cL_law 359 = .ok (.iconst 2, 1) := by decide +kernel
theorem dL_law_360 : decode cL_law 360 = .ok (.iadd, 1) := by decide +kernel
theorem dL_law_361 : decode cL_law 361 = .ok (.iaload, 1) := by decide +kernel
theorem dL_law_362 : decode cL_law 362 = .ok (.invokevirtual 77, 3) := by decide +kernel
theorem dL_law_365 : decode cL_law 365 = .ok (.istore 6, 2) := by decide +kernel
theorem dL_law_367 : decode cL_law 367 = .ok (.aload_n 2, 1) := by decide +kernel
theorem dL_law_368 : decode cL_law 368 = .ok (.invokevirtual 63, 3) := by decide +kernel
theorem dL_law_371 : decode cL_law 371 = .ok (.iload 5, 2) := by decide +kernel
theorem dL_law_373 : decode cL_law 373 = .ok (.if_icmp .eq 5, 3) := by decide +kernel
theorem dL_law_376 : decode cL_law 376 = .ok (.iconst 0, 1) := by decide +kernel
theorem dL_law_377 : decode cL_law 377 = .ok (.ireturn, 1) := by decide +kernel
theorem dL_law_378 : decode cL_law 378 = .ok (.iload 5, 2) := by decide +kernel
theorem dL_law_380 : decode cL_law 380 = .ok (.ifCond .ne 15, 3) := by decide +kernel
theorem dL_law_383 : decode cL_law 383 = .ok (.aload_n 3, 1) := by decide +kernel
theorem dL_law_384 : decode cL_law 384 = .ok (.iconst 0, 1) := by decide +kernel
theorem dL_law_385 : decode cL_law 385 = .ok (.laload, 1) := by decide +kernel
theorem dL_law_386 : decode cL_law 386 = .ok (.iload 6, 2) := by decide +kernel
theorem dL_law_388 : decode cL_law 388 = .ok (.i2l, 1) := by decide +kernel
theorem dL_law_389 : decode cL_law 389 = .ok (.lcmp, 1) := by decide +kernel
theorem dL_law_390 : decode cL_law 390 = .ok (.ifCond .eq 5, 3) := by decide +kernel
theorem dL_law_393 : decode cL_law 393 = .ok (.iconst 0, 1) := by decide +kernel
theorem dL_law_394 : decode cL_law 394 = .ok (.ireturn, 1) := by decide +kernel
theorem dL_law_395 : decode cL_law 395 = .ok (.goto 474, 3) := by decide +kernel
theorem dL_law_398 : decode cL_law 398 = .ok (.aload_n 1, 1) := by decide +kernel
theorem dL_law_399 : decode cL_law 399 = .ok (.aload_n 0, 1) := by decide +kernel
theorem dL_law_400 : decode cL_law 400 = .ok (.iload 4, 2) := by decide +kernel
theorem dL_law_402 : decode cL_law 402 = .ok (.iconst 1, 1) := by decide +kernel
theorem dL_law_403 : decode cL_law 403 = .ok (.iadd, 1) := by decide +kernel
theorem dL_law_404 : decode cL_law 404 = .ok (.iaload, 1) := by decide +kernel
theorem dL_law_405 : decode cL_law 405 = .ok (.aload_n 3, 1) := by decide +kernel
theorem dL_law_406 : decode cL_law 406 = .ok (.invokestatic 78, 3) := by decide +kernel
theorem dL_law_409 : decode cL_law 409 = .ok (.istore 5, 2) := by decide +kernel
theorem dL_law_411 : decode cL_law 411 = .ok (.aload_n 2, 1) := by decide +kernel
theorem dL_law_412 : decode cL_law 412 = .ok (.aload_n 0, 1) := by decide +kernel
theorem dL_law_413 : decode cL_law 413 = .ok (.iload 4, 2) := by decide +kernel
theorem dL_law_415 : decode cL_law 415 = .ok (.iconst 1, 1) := by decide +kernel
theorem dL_law_416 : decode cL_law 416 = .ok (.iadd, 1) := by decide +kernel
theorem dL_law_417 : decode cL_law 417 = .ok (.iaload, 1) := by decide +kernel
theorem dL_law_418 : decode cL_law 418 = .ok (.invokevirtual 80, 3) := by decide +kernel
theorem dL_law_421 : decode cL_law 421 = .ok (.istore 6, 2) := by decide +kernel
theorem dL_law_423 : decode cL_law 423 = .ok (.aload_n 2, 1) := by decide +kernel
theorem dL_law_424 : decode cL_law 424 = .ok (.invokevirtual 63, 3) := by decide +kernel
theorem dL_law_427 : decode cL_law 427 = .ok (.iload 5, 2) := by decide +kernel
theorem dL_law_429 : decode cL_law 429 = .ok (.if_icmp .eq 5, 3) := by decide +kernel
theorem dL_law_432 : decode cL_law 432 = .ok (.iconst 0, 1) := by decide +kernel
theorem dL_law_433 : decode cL_law 433 = .ok (.ireturn, 1) := by decide +kernel
theorem dL_law_434 : decode cL_law 434 = .ok (.iload 5, 2) := by decide +kernel
theorem dL_law_436 : decode cL_law 436 = .ok (.ifCond .ne 15, 3) := by decide +kernel
theorem dL_law_439 : decode cL_law 439 = .ok (.aload_n 3, 1) := by decide +kernel
theorem dL_law_440 : decode cL_law 440 = .ok (.iconst 0, 1) := by decide +kernel
theorem dL_law_441 : decode cL_law 441 = .ok (.laload, 1) := by decide +kernel
theorem dL_law_442 : decode cL_law 442 = .ok (.iload 6, 2) := by decide +kernel
theorem dL_law_444 : decode cL_law 444 = .ok (.i2l, 1) := by decide +kernel
theorem dL_law_445 : decode cL_law 445 = .ok (.lcmp, 1) := by decide +kernel
theorem dL_law_446 : decode cL_law 446 = .ok (.ifCond .eq 5, 3) := by decide +kernel
theorem dL_law_449 : decode cL_law 449 = .ok (.iconst 0, 1) := by decide +kernel
theorem dL_law_450 : decode cL_law 450 = .ok (.ireturn, 1) := by decide +kernel
theorem dL_law_451 : decode cL_law 451 = .ok (.goto 418, 3) := by decide +kernel
theorem dL_law_454 : decode cL_law 454 = .ok (.aload_n 1, 1) := by decide +kernel
theorem dL_law_455 : decode cL_law 455 = .ok (.aload_n 0, 1) := by decide +kernel
theorem dL_law_456 : decode cL_law 456 = .ok (.iload 4, 2) := by decide +kernel
theorem dL_law_458 : decode cL_law 458 = .ok (.iconst 1, 1) := by decide +kernel
theorem dL_law_459 : decode cL_law 459 = .ok (.iadd, 1) := by decide +kernel
theorem dL_law_460 : decode cL_law 460 = .ok (.iaload, 1) := by decide +kernel
theorem dL_law_461 : decode cL_law 461 = .ok (.invokestatic 81, 3) := by decide +kernel
theorem dL_law_464 : decode cL_law 464 = .ok (.istore 5, 2) := by decide +kernel
theorem dL_law_466 : decode cL_law 466 = .ok (.aload_n 2, 1) := by decide +kernel
theorem dL_law_467 : decode cL_law 467 = .ok (.aload_n 0, 1) := by decide +kernel
theorem dL_law_468 : decode cL_law 468 = .ok (.iload 4, 2) := by decide +kernel
theorem dL_law_470 : decode cL_law 470 = .ok (.iconst 1, 1) := by decide +kernel
theorem dL_law_471 : decode cL_law 471 = .ok (.iadd, 1) := by decide +kernel
theorem dL_law_472 : decode cL_law 472 = .ok (.iaload, 1) := by decide +kernel
theorem dL_law_473 : decode cL_law 473 = .ok (.invokevirtual 84, 3) := by decide +kernel
theorem dL_law_476 : decode cL_law 476 = .ok (.aload_n 2, 1) := by decide +kernel
theorem dL_law_477 : decode cL_law 477 = .ok (.invokevirtual 63, 3) := by decide +kernel
theorem dL_law_480 : decode cL_law 480 = .ok (.iload 5, 2) := by decide +kernel
theorem dL_law_482 : decode cL_law 482 = .ok (.if_icmp .eq 5, 3) := by decide +kernel
theorem dL_law_485 : decode cL_law 485 = .ok (.iconst 0, 1) := by decide +kernel
theorem dL_law_486 : decode cL_law 486 = .ok (.ireturn, 1) := by decide +kernel
theorem dL_law_487 : decode cL_law 487 = .ok (.goto 382, 3) := by decide +kernel
theorem dL_law_490 : decode cL_law 490 = .ok (.aload_n 1, 1) := by decide +kernel
theorem dL_law_491 : decode cL_law 491 = .ok (.aload_n 0, 1) := by decide +kernel
theorem dL_law_492 : decode cL_law 492 = .ok (.iload 4, 2) := by decide +kernel
theorem dL_law_494 : decode cL_law 494 = .ok (.iconst 1, 1) := by decide +kernel
theorem dL_law_495 : decode cL_law 495 = .ok (.iadd, 1) := by decide +kernel
theorem dL_law_496 : decode cL_law 496 = .ok (.iaload, 1) := by decide +kernel
theorem dL_law_497 : decode cL_law 497 = .ok (.aload_n 3, 1) := by decide +kernel
theorem dL_law_498 : decode cL_law 498 = .ok (.invokestatic 85, 3) := by decide +kernel
theorem dL_law_501 : decode cL_law 501 = .ok (.istore 5, 2) := by decide +kernel
theorem dL_law_503 : decode cL_law 503 = .ok (.aload_n 2, 1) := by decide +kernel
theorem dL_law_504 : decode cL_law 504 = .ok (.aload_n 0, 1) := by decide +kernel
theorem dL_law_505 : decode cL_law 505 = .ok (.iload 4, 2) := by decide +kernel
theorem dL_law_507 : decode cL_law 507 = .ok (.iconst 1, 1) := by decide +kernel
theorem dL_law_508 : decode cL_law 508 = .ok (.iadd, 1) := by decide +kernel
theorem dL_law_509 : decode cL_law 509 = .ok (.iaload, 1) := by decide +kernel
theorem dL_law_510 : decode cL_law 510 = .ok (.invokevirtual 87, 3) := by decide +kernel
theorem dL_law_513 : decode cL_law 513 = .ok (.istore 6, 2) := by decide +kernel
theorem dL_law_515 : decode cL_law 515 = .ok (.aload_n 2, 1) := by decide +kernel
theorem dL_law_516 : decode cL_law 516 = .ok (.invokevirtual 63, 3) := by decide +kernel
theorem dL_law_519 : decode cL_law 519 = .ok (.iload 5, 2) := by decide +kernel
theorem dL_law_521 : decode cL_law 521 = .ok (.if_icmp .eq 5, 3) := by decide +kernel
theorem dL_law_524 : decode cL_law 524 = .ok (.iconst 0, 1) := by decide +kernel
theorem dL_law_525 : decode cL_law 525 = .ok (.ireturn, 1) := by decide +kernel
theorem dL_law_526 : decode cL_law 526 = .ok (.iload 5, 2) := by decide +kernel
theorem dL_law_528 : decode cL_law 528 = .ok (.ifCond .ne 15, 3) := by decide +kernel
theorem dL_law_531 : decode cL_law 531 = .ok (.aload_n 3, 1) := by decide +kernel
theorem dL_law_532 : decode cL_law 532 = .ok (.iconst 0, 1) := by decide +kernel
theorem dL_law_533 : decode cL_law 533 = .ok (.laload, 1) := by decide +kernel
theorem dL_law_534 : decode cL_law 534 = .ok (.iload 6, 2) := by decide +kernel
theorem dL_law_536 : decode cL_law 536 = .ok (.i2l, 1) := by decide +kernel
theorem dL_law_537 : decode cL_law 537 = .ok (.lcmp, 1) := by decide +kernel
theorem dL_law_538 : decode cL_law 538 = .ok (.ifCond .eq 5, 3) := by decide +kernel
theorem dL_law_541 : decode cL_law 541 = .ok (.iconst 0, 1) := by decide +kernel
theorem dL_law_542 : decode cL_law 542 = .ok (.ireturn, 1) := by decide +kernel
theorem dL_law_543 : decode cL_law 543 = .ok (.goto 326, 3) := by decide +kernel
theorem dL_law_546 : decode cL_law 546 = .ok (.aload_n 1, 1) := by decide +kernel
theorem dL_law_547 : decode cL_law 547 = .ok (.aload_n 0, 1) := by decide +kernel
theorem dL_law_548 : decode cL_law 548 = .ok (.iload 4, 2) := by decide +kernel
theorem dL_law_550 : decode cL_law 550 = .ok (.iconst 1, 1) := by decide +kernel
theorem dL_law_551 : decode cL_law 551 = .ok (.iadd, 1) := by decide +kernel
theorem dL_law_552 : decode cL_law 552 = .ok (.iaload, 1) := by decide +kernel
theorem dL_law_553 : decode cL_law 553 = .ok (.aload_n 3, 1) := by decide +kernel
theorem dL_law_554 : decode cL_law 554 = .ok (.invokestatic 88, 3) := by decide +kernel
theorem dL_law_557 : decode cL_law 557 = .ok (.istore 5, 2) := by decide +kernel
theorem dL_law_559 : decode cL_law 559 = .ok (.aload_n 2, 1) := by decide +kernel
theorem dL_law_560 : decode cL_law 560 = .ok (.aload_n 0, 1) := by decide +kernel
theorem dL_law_561 : decode cL_law 561 = .ok (.iload 4, 2) := by decide +kernel
theorem dL_law_563 : decode cL_law 563 = .ok (.iconst 1, 1) := by decide +kernel
theorem dL_law_564 : decode cL_law 564 = .ok (.iadd, 1) := by decide +kernel
theorem dL_law_565 : decode cL_law 565 = .ok (.iaload, 1) := by decide +kernel
theorem dL_law_566 : decode cL_law 566 = .ok (.invokevirtual 90, 3) := by decide +kernel
theorem dL_law_569 : decode cL_law 569 = .ok (.istore 6, 2) := by decide +kernel
theorem dL_law_571 : decode cL_law 571 = .ok (.aload_n 2, 1) := by decide +kernel
theorem dL_law_572 : decode cL_law 572 = .ok (.invokevirtual 63, 3) := by decide +kernel
theorem dL_law_575 : decode cL_law 575 = .ok (.iload 5, 2) := by decide +kernel
theorem dL_law_577 : decode cL_law 577 = .ok (.if_icmp .eq 5, 3) := by decide +kernel
theorem dL_law_580 : decode cL_law 580 = .ok (.iconst 0, 1) := by decide +kernel
theorem dL_law_581 : decode cL_law 581 = .ok (.ireturn, 1) := by decide +kernel
theorem dL_law_582 : decode cL_law 582 = .ok (.iload 5, 2) := by decide +kernel
theorem dL_law_584 : decode cL_law 584 = .ok (.ifCond .ne 15, 3) := by decide +kernel
theorem dL_law_587 : decode cL_law 587 = .ok (.aload_n 3, 1) := by decide +kernel
theorem dL_law_588 : decode cL_law 588 = .ok (.iconst 0, 1) := by decide +kernel
theorem dL_law_589 : decode cL_law 589 = .ok (.laload, 1) := by decide +kernel
theorem dL_law_590 : decode cL_law 590 = .ok (.iload 6, 2) := by decide +kernel
theorem dL_law_592 : decode cL_law 592 = .ok (.i2l, 1) := by decide +kernel
theorem dL_law_593 : decode cL_law 593 = .ok (.lcmp, 1) := by decide +kernel
theorem dL_law_594 : decode cL_law 594 = .ok (.ifCond .eq 5, 3) := by decide +kernel
theorem dL_law_597 : decode cL_law 597 = .ok (.iconst 0, 1) := by decide +kernel
theorem dL_law_598 : decode cL_law 598 = .ok (.ireturn, 1) := by decide +kernel
theorem dL_law_599 : decode cL_law 599 = .ok (.goto 270, 3) := by decide +kernel
theorem dL_law_602 : decode cL_law 602 = .ok (.aload_n 1, 1) := by decide +kernel
theorem dL_law_603 : decode cL_law 603 = .ok (.aload_n 0, 1) := by decide +kernel
theorem dL_law_604 : decode cL_law 604 = .ok (.iload 4, 2) := by decide +kernel
theorem dL_law_606 : decode cL_law 606 = .ok (.iconst 1, 1) := by decide +kernel
theorem dL_law_607 : decode cL_law 607 = .ok (.iadd, 1) := by decide +kernel
theorem dL_law_608 : decode cL_law 608 = .ok (.iaload, 1) := by decide +kernel
theorem dL_law_609 : decode cL_law 609 = .ok (.aload_n 3, 1) := by decide +kernel
theorem dL_law_610 : decode cL_law 610 = .ok (.invokestatic 91, 3) := by decide +kernel
theorem dL_law_613 : decode cL_law 613 = .ok (.istore 5, 2) := by decide +kernel
theorem dL_law_615 : decode cL_law 615 = .ok (.aload_n 2, 1) := by decide +kernel
theorem dL_law_616 : decode cL_law 616 = .ok (.aload_n 0, 1) := by decide +kernel
theorem dL_law_617 : decode cL_law 617 = .ok (.iload 4, 2) := by decide +kernel
theorem dL_law_619 : decode cL_law 619 = .ok (.iconst 1, 1) := by decide +kernel
theorem dL_law_620 : decode cL_law 620 = .ok (.iadd, 1) := by decide +kernel
theorem dL_law_621 : decode cL_law 621 = .ok (.iaload, 1) := by decide +kernel
theorem dL_law_622 : decode cL_law 622 = .ok (.invokevirtual 93, 3) := by decide +kernel
theorem dL_law_625 : decode cL_law 625 = .ok (.istore 6, 2) := by decide +kernel
theorem dL_law_627 : decode cL_law 627 = .ok (.aload_n 2, 1) := by decide +kernel
theorem dL_law_628 : decode cL_law 628 = .ok (.invokevirtual 63, 3) := by decide +kernel
theorem dL_law_631 : decode cL_law 631 = .ok (.iload 5, 2) := by decide +kernel
theorem dL_law_633 : decode cL_law 633 = .ok (.if_icmp .eq 5, 3) := by decide +kernel
theorem dL_law_636 : decode cL_law 636 = .ok (.iconst 0, 1) := by decide +kernel
theorem dL_law_637 : decode cL_law 637 = .ok (.ireturn, 1) := by decide +kernel
theorem dL_law_638 : decode cL_law 638 = .ok (.iload 5, 2) := by decide +kernel
theorem dL_law_640 : decode cL_law 640 = .ok (.ifCond .ne 15, 3) := by decide +kernel
theorem dL_law_643 : decode cL_law 643 = .ok (.aload_n 3, 1) := by decide +kernel
theorem dL_law_644 : decode cL_law 644 = .ok (.iconst 0, 1) := by decide +kernel
theorem dL_law_645 : decode cL_law 645 = .ok (.laload, 1) := by decide +kernel
theorem dL_law_646 : decode cL_law 646 = .ok (.iload 6, 2) := by decide +kernel
theorem dL_law_648 : decode cL_law 648 = .ok (.i2l, 1) := by decide +kernel
theorem dL_law_649 : decode cL_law 649 = .ok (.lcmp, 1) := by decide +kernel
theorem dL_law_650 : decode cL_law 650 = .ok (.ifCond .eq 5, 3) := by decide +kernel
theorem dL_law_653 : decode cL_law 653 = .ok (.iconst 0, 1) := by decide +kernel
theorem dL_law_654 : decode cL_law 654 = .ok (.ireturn, 1) := by decide +kernel
theorem dL_law_655 : decode cL_law 655 = .ok (.goto 214, 3) := by decide +kernel
theorem dL_law_658 : decode cL_law 658 = .ok (.aload_n 1, 1) := by decide +kernel
theorem dL_law_659 : decode cL_law 659 = .ok (.aload_n 0, 1) := by decide +kernel
theorem dL_law_660 : decode cL_law 660 = .ok (.iload 4, 2) := by decide +kernel
theorem dL_law_662 : decode cL_law 662 = .ok (.iconst 1, 1) := by decide +kernel
theorem dL_law_663 : decode cL_law 663 = .ok (.iadd, 1) := by decide +kernel
theorem dL_law_664 : decode cL_law 664 = .ok (.iaload, 1) := by decide +kernel
theorem dL_law_665 : decode cL_law 665 = .ok (.aload_n 3, 1) := by decide +kernel
theorem dL_law_666 : decode cL_law 666 = .ok (.invokestatic 94, 3) := by decide +kernel
theorem dL_law_669 : decode cL_law 669 = .ok (.istore 5, 2) := by decide +kernel
theorem dL_law_671 : decode cL_law 671 = .ok (.aload_n 2, 1) := by decide +kernel
theorem dL_law_672 : decode cL_law 672 = .ok (.aload_n 0, 1) := by decide +kernel
theorem dL_law_673 : decode cL_law 673 = .ok (.iload 4, 2) := by decide +kernel
theorem dL_law_675 : decode cL_law 675 = .ok (.iconst 1, 1) := by decide +kernel
theorem dL_law_676 : decode cL_law 676 = .ok (.iadd, 1) := by decide +kernel
theorem dL_law_677 : decode cL_law 677 = .ok (.iaload, 1) := by decide +kernel
theorem dL_law_678 : decode cL_law 678 = .ok (.invokevirtual 96, 3) := by decide +kernel
theorem dL_law_681 : decode cL_law 681 = .ok (.istore 6, 2) := by decide +kernel
theorem dL_law_683 : decode cL_law 683 = .ok (.aload_n 2, 1) := by decide +kernel
theorem dL_law_684 : decode cL_law 684 = .ok (.invokevirtual 63, 3) := by decide +kernel
theorem dL_law_687 : decode cL_law 687 = .ok (.iload 5, 2) := by decide +kernel
theorem dL_law_689 : decode cL_law 689 = .ok (.if_icmp .eq 5, 3) := by decide +kernel
theorem dL_law_692 : decode cL_law 692 = .ok (.iconst 0, 1) := by decide +kernel
theorem dL_law_693 : decode cL_law 693 = .ok (.ireturn, 1) := by decide +kernel
theorem dL_law_694 : decode cL_law 694 = .ok (.iload 5, 2) := by decide +kernel
theorem dL_law_696 : decode cL_law 696 = .ok (.ifCond .ne 15, 3) := by decide +kernel
theorem dL_law_699 : decode cL_law 699 = .ok (.aload_n 3, 1) := by decide +kernel
theorem dL_law_700 : decode cL_law 700 = .ok (.iconst 0, 1) := by decide +kernel
theorem dL_law_701 : decode cL_law 701 = .ok (.laload, 1) := by decide +kernel
theorem dL_law_702 : decode cL_law 702 = .ok (.iload 6, 2) := by decide +kernel
theorem dL_law_704 : decode cL_law 704 = .ok (.i2l, 1) := by decide +kernel
theorem dL_law_705 : decode cL_law 705 = .ok (.lcmp, 1) := by decide +kernel
theorem dL_law_706 : decode cL_law 706 = .ok (.ifCond .eq 5, 3) := by decide +kernel
theorem dL_law_709 : decode cL_law 709 = .ok (.iconst 0, 1) := by decide +kernel
theorem dL_law_710 : decode cL_law 710 = .ok (.ireturn, 1) := by decide +kernel
theorem dL_law_711 : decode cL_law 711 = .ok (.goto 158, 3) := by decide +kernel
theorem dL_law_714 : decode cL_law 714 = .ok (.aload_n 1, 1) := by decide +kernel
theorem dL_law_715 : decode cL_law 715 = .ok (.aload_n 0, 1) := by decide +kernel
theorem dL_law_716 : decode cL_law 716 = .ok (.iload 4, 2) := by decide +kernel
theorem dL_law_718 : decode cL_law 718 = .ok (.iconst 1, 1) := by decide +kernel
theorem dL_law_719 : decode cL_law 719 = .ok (.iadd, 1) := by decide +kernel
theorem dL_law_720 : decode cL_law 720 = .ok (.iaload, 1) := by decide +kernel
theorem dL_law_721 : decode cL_law 721 = .ok (.aload_n 3, 1) := by decide +kernel
theorem dL_law_722 : decode cL_law 722 = .ok (.invokestatic 97, 3) := by decide +kernel
theorem dL_law_725 : decode cL_law 725 = .ok (.istore 5, 2) := by decide +kernel
theorem dL_law_727 : decode cL_law 727 = .ok (.aload_n 2, 1) := by decide +kernel
theorem dL_law_728 : decode cL_law 728 = .ok (.aload_n 0, 1) := by decide +kernel
theorem dL_law_729 : decode cL_law 729 = .ok (.iload 4, 2) := by decide +kernel
theorem dL_law_731 : decode cL_law 731 = .ok (.iconst 1, 1) := by decide +kernel
theorem dL_law_732 : decode cL_law 732 = .ok (.iadd, 1) := by decide +kernel
theorem dL_law_733 : decode cL_law 733 = .ok (.iaload, 1) := by decide +kernel
theorem dL_law_734 : decode cL_law 734 = .ok (.invokevirtual 99, 3) := by decide +kernel
theorem dL_law_737 : decode cL_law 737 = .ok (.istore 6, 2) := by decide +kernel
theorem dL_law_739 : decode cL_law 739 = .ok (.aload_n 2, 1) := by decide +kernel
theorem dL_law_740 : decode cL_law 740 = .ok (.invokevirtual 63, 3) := by decide +kernel
theorem dL_law_743 : decode cL_law 743 = .ok (.iload 5, 2) := by decide +kernel
theorem dL_law_745 : decode cL_law 745 = .ok (.if_icmp .eq 5, 3) := by decide +kernel
theorem dL_law_748 : decode cL_law 748 = .ok (.iconst 0, 1) := by decide +kernel
theorem dL_law_749 : decode cL_law 749 = .ok (.ireturn, 1) := by decide +kernel
theorem dL_law_750 : decode cL_law 750 = .ok (.iload 5, 2) := by decide +kernel
theorem dL_law_752 : decode cL_law 752 = .ok (.ifCond .ne 15, 3) := by decide +kernel
theorem dL_law_755 : decode cL_law 755 = .ok (.aload_n 3, 1) := by decide +kernel
theorem dL_law_756 : decode cL_law 756 = .ok (.iconst 0, 1) := by decide +kernel
theorem dL_law_757 : decode cL_law 757 = .ok (.laload, 1) := by decide +kernel
theorem dL_law_758 : decode cL_law 758 = .ok (.iload 6, 2) := by decide +kernel
theorem dL_law_760 : decode cL_law 760 = .ok (.i2l, 1) := by decide +kernel
theorem dL_law_761 : decode cL_law 761 = .ok (.lcmp, 1) := by decide +kernel
theorem dL_law_762 : decode cL_law 762 = .ok (.ifCond .eq 5, 3) := by decide +kernel
theorem dL_law_765 : decode cL_law 765 = .ok (.iconst 0, 1) := by decide +kernel
theorem dL_law_766 : decode cL_law 766 = .ok (.ireturn, 1) := by decide +kernel
theorem dL_law_767 : decode cL_law 767 = .ok (.goto 102, 3) := by decide +kernel
theorem dL_law_770 : decode cL_law 770 = .ok (.aload_n 1, 1) := by decide +kernel
theorem dL_law_771 : decode cL_law 771 = .ok (.aload_n 0, 1) := by decide +kernel
theorem dL_law_772 : decode cL_law 772 = .ok (.iload 4, 2) := by decide +kernel
theorem dL_law_774 : decode cL_law 774 = .ok (.iconst 1, 1) := by decide +kernel
theorem dL_law_775 : decode cL_law 775 = .ok (.iadd, 1) := by decide +kernel
theorem dL_law_776 : decode cL_law 776 = .ok (.iaload, 1) := by decide +kernel
theorem dL_law_777 : decode cL_law 777 = .ok (.aload_n 3, 1) := by decide +kernel
theorem dL_law_778 : decode cL_law 778 = .ok (.invokestatic 100, 3) := by decide +kernel
theorem dL_law_781 : decode cL_law 781 = .ok (.istore 5, 2) := by decide +kernel
theorem dL_law_783 : decode cL_law 783 = .ok (.aload_n 2, 1) := by decide +kernel
theorem dL_law_784 : decode cL_law 784 = .ok (.aload_n 0, 1) := by decide +kernel
theorem dL_law_785 : decode cL_law 785 = .ok (.iload 4, 2) := by decide +kernel
theorem dL_law_787 : decode cL_law 787 = .ok (.iconst 1, 1) := by decide +kernel
theorem dL_law_788 : decode cL_law 788 = .ok (.iadd, 1) := by decide +kernel
theorem dL_law_789 : decode cL_law 789 = .ok (.iaload, 1) := by decide +kernel
theorem dL_law_790 : decode cL_law 790 = .ok (.invokevirtual 102, 3) := by decide +kernel
theorem dL_law_793 : decode cL_law 793 = .ok (.istore 6, 2) := by decide +kernel
theorem dL_law_795 : decode cL_law 795 = .ok (.aload_n 2, 1) := by decide +kernel
theorem dL_law_796 : decode cL_law 796 = .ok (.invokevirtual 63, 3) := by decide +kernel
theorem dL_law_799 : decode cL_law 799 = .ok (.iload 5, 2) := by decide +kernel
theorem dL_law_801 : decode cL_law 801 = .ok (.if_icmp .eq 5, 3) := by decide +kernel
theorem dL_law_804 : decode cL_law 804 = .ok (.iconst 0, 1) := by decide +kernel
theorem dL_law_805 : decode cL_law 805 = .ok (.ireturn, 1) := by decide +kernel
theorem dL_law_806 : decode cL_law 806 = .ok (.iload 5, 2) := by decide +kernel
theorem dL_law_808 : decode cL_law 808 = .ok (.ifCond .ne 15, 3) := by decide +kernel
theorem dL_law_811 : decode cL_law 811 = .ok (.aload_n 3, 1) := by decide +kernel
theorem dL_law_812 : decode cL_law 812 = .ok (.iconst 0, 1) := by decide +kernel
theorem dL_law_813 : decode cL_law 813 = .ok (.laload, 1) := by decide +kernel
theorem dL_law_814 : decode cL_law 814 = .ok (.iload 6, 2) := by decide +kernel
theorem dL_law_816 : decode cL_law 816 = .ok (.i2l, 1) := by decide +kernel
theorem dL_law_817 : decode cL_law 817 = .ok (.lcmp, 1) := by decide +kernel
theorem dL_law_818 : decode cL_law 818 = .ok (.ifCond .eq 5, 3) := by decide +kernel
theorem dL_law_821 : decode cL_law 821 = .ok (.iconst 0, 1) := by decide +kernel
theorem dL_law_822 : decode cL_law 822 = .ok (.ireturn, 1) := by decide +kernel
theorem dL_law_823 : decode cL_law 823 = .ok (.goto 46, 3) := by decide +kernel
theorem dL_law_826 : decode cL_law 826 = .ok (.aload_n 1, 1) := by decide +kernel
theorem dL_law_827 : decode cL_law 827 = .ok (.invokevirtual 103, 3) := by decide +kernel
theorem dL_law_830 : decode cL_law 830 = .ok (.f2d, 1) := by decide +kernel
theorem dL_law_831 : decode cL_law 831 = .ok (.dstore 5, 2) := by decide +kernel
theorem dL_law_833 : decode cL_law 833 = .ok (.aload_n 2, 1) := by decide +kernel
theorem dL_law_834 : decode cL_law 834 = .ok (.invokevirtual 107, 3) := by decide +kernel
theorem dL_law_837 : decode cL_law 837 = .ok (.f2d, 1) := by decide +kernel
theorem dL_law_838 : decode cL_law 838 = .ok (.dstore 7, 2) := by decide +kernel
theorem dL_law_840 : decode cL_law 840 = .ok (.dload 5, 2) := by decide +kernel
theorem dL_law_842 : decode cL_law 842 = .ok (.dload 7, 2) := by decide +kernel
theorem dL_law_844 : decode cL_law 844 = .ok (.dcmp .l, 1) := by decide +kernel
theorem dL_law_845 : decode cL_law 845 = .ok (.ifCond .eq 21, 3) := by decide +kernel
theorem dL_law_848 : decode cL_law 848 = .ok (.dload 5, 2) := by decide +kernel
theorem dL_law_850 : decode cL_law 850 = .ok (.dload 5, 2) := by decide +kernel
theorem dL_law_852 : decode cL_law 852 = .ok (.dcmp .l, 1) := by decide +kernel
theorem dL_law_853 : decode cL_law 853 = .ok (.ifCond .eq 11, 3) := by decide +kernel
theorem dL_law_856 : decode cL_law 856 = .ok (.dload 7, 2) := by decide +kernel
theorem dL_law_858 : decode cL_law 858 = .ok (.dload 7, 2) := by decide +kernel
theorem dL_law_860 : decode cL_law 860 = .ok (.dcmp .l, 1) := by decide +kernel
theorem dL_law_861 : decode cL_law 861 = .ok (.ifCond .ne 5, 3) := by decide +kernel
theorem dL_law_864 : decode cL_law 864 = .ok (.iconst 0, 1) := by decide +kernel
theorem dL_law_865 : decode cL_law 865 = .ok (.ireturn, 1) := by decide +kernel
theorem dL_law_866 : decode cL_law 866 = .ok (.goto 3, 3) := by decide +kernel
theorem dL_law_869 : decode cL_law 869 = .ok (.iinc 4 7, 3) := by decide +kernel
theorem dL_law_872 : decode cL_law 872 = .ok (.goto (-849), 3) := by decide +kernel
theorem dL_law_875 : decode cL_law 875 = .ok (.iconst 1, 1) := by decide +kernel
theorem dL_law_876 : decode cL_law 876 = .ok (.ireturn, 1) := by decide +kernel
