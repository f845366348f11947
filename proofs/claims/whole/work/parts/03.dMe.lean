/-! decode rows of LadderScan$Memory -/
theorem dMe_init_0 : decode bMe_init 0 = .ok (.aload_n 0, 1) := by decide +kernel
theorem dMe_init_1 : decode bMe_init 1 = .ok (.invokespecial 3, 3) := by decide +kernel
theorem dMe_init_4 : decode bMe_init 4 = .ok (.aload_n 0, 1) := by decide +kernel
theorem dMe_init_5 : decode bMe_init 5 = .ok (.bipush 32, 2) := by decide +kernel
theorem dMe_init_7 : decode bMe_init 7 = .ok (.newarray .int, 2) := by decide +kernel
theorem dMe_init_9 : decode bMe_init 9 = .ok (.putfield 9, 3) := by decide +kernel
theorem dMe_init_12 : decode bMe_init 12 = .ok (.aload_n 0, 1) := by decide +kernel
theorem dMe_init_13 : decode bMe_init 13 = .ok (.bipush 32, 2) := by decide +kernel
theorem dMe_init_15 : decode bMe_init 15 = .ok (.newarray .int, 2) := by decide +kernel
theorem dMe_init_17 : decode bMe_init 17 = .ok (.putfield 15, 3) := by decide +kernel
theorem dMe_init_20 : decode bMe_init 20 = .ok (.aload_n 0, 1) := by decide +kernel
theorem dMe_init_21 : decode bMe_init 21 = .ok (.bipush 8, 2) := by decide +kernel
theorem dMe_init_23 : decode bMe_init 23 = .ok (.newarray .int, 2) := by decide +kernel
theorem dMe_init_25 : decode bMe_init 25 = .ok (.putfield 18, 3) := by decide +kernel
theorem dMe_init_28 : decode bMe_init 28 = .ok (.aload_n 0, 1) := by decide +kernel
theorem dMe_init_29 : decode bMe_init 29 = .ok (.bipush 8, 2) := by decide +kernel
theorem dMe_init_31 : decode bMe_init 31 = .ok (.newarray .int, 2) := by decide +kernel
theorem dMe_init_33 : decode bMe_init 33 = .ok (.putfield 21, 3) := by decide +kernel
theorem dMe_init_36 : decode bMe_init 36 = .ok (.aload_n 0, 1) := by decide +kernel
theorem dMe_init_37 : decode bMe_init 37 = .ok (.bipush 8, 2) := by decide +kernel
theorem dMe_init_39 : decode bMe_init 39 = .ok (.newarray .int, 2) := by decide +kernel
theorem dMe_init_41 : decode bMe_init 41 = .ok (.putfield 24, 3) := by decide +kernel
theorem dMe_init_44 : decode bMe_init 44 = .ok (.iconst 0, 1) := by decide +kernel
theorem dMe_init_45 : decode bMe_init 45 = .ok (.istore_n 1, 1) := by decide +kernel
theorem dMe_init_46 : decode bMe_init 46 = .ok (.iload_n 1, 1) := by decide +kernel
theorem dMe_init_47 : decode bMe_init 47 = .ok (.bipush 32, 2) := by decide +kernel
theorem dMe_init_49 : decode bMe_init 49 = .ok (.if_icmp .ge 16, 3) := by decide +kernel
theorem dMe_init_52 : decode bMe_init 52 = .ok (.aload_n 0, 1) := by decide +kernel
theorem dMe_init_53 : decode bMe_init 53 = .ok (.getfield 15, 3) := by decide +kernel
theorem dMe_init_56 : decode bMe_init 56 = .ok (.iload_n 1, 1) := by decide +kernel
theorem dMe_init_57 : decode bMe_init 57 = .ok (.iconst (-1), 1) := by decide +kernel
theorem dMe_init_58 : decode bMe_init 58 = .ok (.iastore, 1) := by decide +kernel
theorem dMe_init_59 : decode bMe_init 59 = .ok (.iinc 1 1, 3) := by decide +kernel
theorem dMe_init_62 : decode bMe_init 62 = .ok (.goto (-16), 3) := by decide +kernel
theorem dMe_init_65 : decode bMe_init 65 = .ok (.return_, 1) := by decide +kernel
theorem dMe_read_0 : decode bMe_read 0 = .ok (.aload_n 0, 1) := by decide +kernel
theorem dMe_read_1 : decode bMe_read 1 = .ok (.getfield 15, 3) := by decide +kernel
theorem dMe_read_4 : decode bMe_read 4 = .ok (.iload_n 1, 1) := by decide +kernel
theorem dMe_read_5 : decode bMe_read 5 = .ok (.iaload, 1) := by decide +kernel
theorem dMe_read_6 : decode bMe_read 6 = .ok (.iconst (-1), 1) := by decide +kernel
theorem dMe_read_7 : decode bMe_read 7 = .ok (.if_icmp .ne 12, 3) := by decide +kernel
theorem dMe_read_10 : decode bMe_read 10 = .ok (.aload_n 0, 1) := by decide +kernel
theorem dMe_read_11 : decode bMe_read 11 = .ok (.getfield 9, 3) := by decide +kernel
theorem dMe_read_14 : decode bMe_read 14 = .ok (.iload_n 1, 1) := by decide +kernel
theorem dMe_read_15 : decode bMe_read 15 = .ok (.iaload, 1) := by decide +kernel
theorem dMe_read_16 : decode bMe_read 16 = .ok (.goto 9, 3) := by decide +kernel
theorem dMe_read_19 : decode bMe_read 19 = .ok (.aload_n 0, 1) := by decide +kernel
theorem dMe_read_20 : decode bMe_read 20 = .ok (.getfield 15, 3) := by decide +kernel
theorem dMe_read_23 : decode bMe_read 23 = .ok (.iload_n 1, 1) := by decide +kernel
theorem dMe_read_24 : decode bMe_read 24 = .ok (.iaload, 1) := by decide +kernel
theorem dMe_read_25 : decode bMe_read 25 = .ok (.ireturn, 1) := by decide +kernel
theorem dMe_assign_0 : decode bMe_assign 0 = .ok (.iload_n 1, 1) := by decide +kernel
theorem dMe_assign_1 : decode bMe_assign 1 = .ok (.bipush 10, 2) := by decide +kernel
theorem dMe_assign_3 : decode bMe_assign 3 = .ok (.if_icmp .ne 13, 3) := by decide +kernel
theorem dMe_assign_6 : decode bMe_assign 6 = .ok (.aload_n 0, 1) := by decide +kernel
theorem dMe_assign_7 : decode bMe_assign 7 = .ok (.getfield 9, 3) := by decide +kernel
theorem dMe_assign_10 : decode bMe_assign 10 = .ok (.iload_n 2, 1) := by decide +kernel
theorem dMe_assign_11 : decode bMe_assign 11 = .ok (.iload_n 3, 1) := by decide +kernel
theorem dMe_assign_12 : decode bMe_assign 12 = .ok (.iastore, 1) := by decide +kernel
theorem dMe_assign_13 : decode bMe_assign 13 = .ok (.goto 25, 3) := by decide +kernel
theorem dMe_assign_16 : decode bMe_assign 16 = .ok (.iload_n 3, 1) := by decide +kernel
theorem dMe_assign_17 : decode bMe_assign 17 = .ok (.iconst 1, 1) := by decide +kernel
theorem dMe_assign_18 : decode bMe_assign 18 = .ok (.if_icmp .ne 20, 3) := by decide +kernel
theorem dMe_assign_21 : decode bMe_assign 21 = .ok (.aload_n 0, 1) := by decide +kernel
theorem dMe_assign_22 : decode bMe_assign 22 = .ok (.getfield 9, 3) := by decide +kernel
theorem dMe_assign_25 : decode bMe_assign 25 = .ok (.iload_n 2, 1) := by decide +kernel
theorem dMe_assign_26 : decode bMe_assign 26 = .ok (.iload_n 1, 1) := by decide +kernel
theorem dMe_assign_27 : decode bMe_assign 27 = .ok (.bipush 11, 2) := by decide +kernel
theorem dMe_assign_29 : decode bMe_assign 29 = .ok (.if_icmp .ne 7, 3) := by decide +kernel
theorem dMe_assign_32 : decode bMe_assign 32 = .ok (.iconst 1, 1) := by decide +kernel
theorem dMe_assign_33 : decode bMe_assign 33 = .ok (.goto 4, 3) := by decide +kernel
theorem dMe_assign_36 : decode bMe_assign 36 = .ok (.iconst 0, 1) := by decide +kernel
theorem dMe_assign_37 : decode bMe_assign 37 = .ok (.iastore, 1) := by decide +kernel
theorem dMe_assign_38 : decode bMe_assign 38 = .ok (.return_, 1) := by decide +kernel
theorem dMe_isAbove_0 : decode bMe_isAbove 0 = .ok (.aload_n 0, 1) := by decide +kernel
theorem dMe_isAbove_1 : decode bMe_isAbove 1 = .ok (.getfield 24, 3) := by decide +kernel
theorem dMe_isAbove_4 : decode bMe_isAbove 4 = .ok (.iload_n 1, 1) := by decide +kernel
theorem dMe_isAbove_5 : decode bMe_isAbove 5 = .ok (.iaload, 1) := by decide +kernel
theorem dMe_isAbove_6 : decode bMe_isAbove 6 = .ok (.aload_n 0, 1) := by decide +kernel
theorem dMe_isAbove_7 : decode bMe_isAbove 7 = .ok (.getfield 24, 3) := by decide +kernel
theorem dMe_isAbove_10 : decode bMe_isAbove 10 = .ok (.iload_n 2, 1) := by decide +kernel
theorem dMe_isAbove_11 : decode bMe_isAbove 11 = .ok (.iaload, 1) := by decide +kernel
theorem dMe_isAbove_12 : decode bMe_isAbove 12 = .ok (.if_icmp .le 7, 3) := by decide +kernel
theorem dMe_isAbove_15 : decode bMe_isAbove 15 = .ok (.iconst 1, 1) := by decide +kernel
theorem dMe_isAbove_16 : decode bMe_isAbove 16 = .ok (.goto 4, 3) := by decide +kernel
theorem dMe_isAbove_19 : decode bMe_isAbove 19 = .ok (.iconst 0, 1) := by decide +kernel
theorem dMe_isAbove_20 : decode bMe_isAbove 20 = .ok (.ireturn, 1) := by decide +kernel
theorem dMe_store_0 : decode bMe_store 0 = .ok (.aload_n 0, 1) := by decide +kernel
theorem dMe_store_1 : decode bMe_store 1 = .ok (.getfield 24, 3) := by decide +kernel
theorem dMe_store_4 : decode bMe_store 4 = .ok (.iload_n 1, 1) := by decide +kernel
theorem dMe_store_5 : decode bMe_store 5 = .ok (.ldc2_w 27, 3) := by decide +kernel
theorem dMe_store_8 : decode bMe_store 8 = .ok (.ldc2_w 29, 3) := by decide +kernel
theorem dMe_store_11 : decode bMe_store 11 = .ok (.lload_n 2, 1) := by decide +kernel
theorem dMe_store_12 : decode bMe_store 12 = .ok (.invokestatic 31, 3) := by decide +kernel
theorem dMe_store_15 : decode bMe_store 15 = .ok (.invokestatic 37, 3) := by decide +kernel
theorem dMe_store_18 : decode bMe_store 18 = .ok (.l2i, 1) := by decide +kernel
theorem dMe_store_19 : decode bMe_store 19 = .ok (.iastore, 1) := by decide +kernel
theorem dMe_store_20 : decode bMe_store 20 = .ok (.return_, 1) := by decide +kernel
theorem dMe_takeInputs_0 : decode bMe_takeInputs 0 = .ok (.iconst 0, 1) := by decide +kernel
theorem dMe_takeInputs_1 : decode bMe_takeInputs 1 = .ok (.istore_n 1, 1) := by decide +kernel
theorem dMe_takeInputs_2 : decode bMe_takeInputs 2 = .ok (.iload_n 1, 1) := by decide +kernel
theorem dMe_takeInputs_3 : decode bMe_takeInputs 3 = .ok (.bipush 8, 2) := by decide +kernel
theorem dMe_takeInputs_5 : decode bMe_takeInputs 5 = .ok (.if_icmp .ge 21, 3) := by decide +kernel
theorem dMe_takeInputs_8 : decode bMe_takeInputs 8 = .ok (.aload_n 0, 1) := by decide +kernel
theorem dMe_takeInputs_9 : decode bMe_takeInputs 9 = .ok (.getfield 9, 3) := by decide +kernel
theorem dMe_takeInputs_12 : decode bMe_takeInputs 12 = .ok (.iload_n 1, 1) := by decide +kernel
theorem dMe_takeInputs_13 : decode bMe_takeInputs 13 = .ok (.aload_n 0, 1) := by decide +kernel
theorem dMe_takeInputs_14 : decode bMe_takeInputs 14 = .ok (.getfield 18, 3) := by decide +kernel
theorem dMe_takeInputs_17 : decode bMe_takeInputs 17 = .ok (.iload_n 1, 1) := by decide +kernel
theorem dMe_takeInputs_18 : decode bMe_takeInputs 18 = .ok (.iaload, 1) := by decide +kernel
theorem dMe_takeInputs_19 : decode bMe_takeInputs 19 = .ok (.iastore, 1) := by decide +kernel
theorem dMe_takeInputs_20 : decode bMe_takeInputs 20 = .ok (.iinc 1 1, 3) := by decide +kernel
theorem dMe_takeInputs_23 : decode bMe_takeInputs 23 = .ok (.goto (-21), 3) := by decide +kernel
theorem dMe_takeInputs_26 : decode bMe_takeInputs 26 = .ok (.return_, 1) := by decide +kernel
theorem dMe_sendOutputs_0 : decode bMe_sendOutputs 0 = .ok (.iconst 0, 1) := by decide +kernel
theorem dMe_sendOutputs_1 : decode bMe_sendOutputs 1 = .ok (.istore_n 1, 1) := by decide +kernel
theorem dMe_sendOutputs_2 : decode bMe_sendOutputs 2 = .ok (.iload_n 1, 1) := by decide +kernel
theorem dMe_sendOutputs_3 : decode bMe_sendOutputs 3 = .ok (.bipush 8, 2) := by decide +kernel
theorem dMe_sendOutputs_5 : decode bMe_sendOutputs 5 = .ok (.if_icmp .ge 23, 3) := by decide +kernel
theorem dMe_sendOutputs_8 : decode bMe_sendOutputs 8 = .ok (.aload_n 0, 1) := by decide +kernel
theorem dMe_sendOutputs_9 : decode bMe_sendOutputs 9 = .ok (.getfield 21, 3) := by decide +kernel
theorem dMe_sendOutputs_12 : decode bMe_sendOutputs 12 = .ok (.iload_n 1, 1) := by decide +kernel
theorem dMe_sendOutputs_13 : decode bMe_sendOutputs 13 = .ok (.aload_n 0, 1) := by decide +kernel
theorem dMe_sendOutputs_14 : decode bMe_sendOutputs 14 = .ok (.bipush 8, 2) := by decide +kernel
theorem dMe_sendOutputs_16 : decode bMe_sendOutputs 16 = .ok (.iload_n 1, 1) := by decide +kernel
theorem dMe_sendOutputs_17 : decode bMe_sendOutputs 17 = .ok (.iadd, 1) := by decide +kernel
theorem dMe_sendOutputs_18 : decode bMe_sendOutputs 18 = .ok (.invokevirtual 40, 3) := by decide +kernel
theorem dMe_sendOutputs_21 : decode bMe_sendOutputs 21 = .ok (.iastore, 1) := by decide +kernel
theorem dMe_sendOutputs_22 : decode bMe_sendOutputs 22 = .ok (.iinc 1 1, 3) := by decide +kernel
theorem dMe_sendOutputs_25 : decode bMe_sendOutputs 25 = .ok (.goto (-23), 3) := by decide +kernel
theorem dMe_sendOutputs_28 : decode bMe_sendOutputs 28 = .ok (.return_, 1) := by decide +kernel
theorem dMe_clearOutputWires_0 : decode bMe_clearOutputWires 0 = .ok (.iconst 0, 1) := by decide +kernel
theorem dMe_clearOutputWires_1 : decode bMe_clearOutputWires 1 = .ok (.istore_n 1, 1) := by decide +kernel
theorem dMe_clearOutputWires_2 : decode bMe_clearOutputWires 2 = .ok (.iload_n 1, 1) := by decide +kernel
theorem dMe_clearOutputWires_3 : decode bMe_clearOutputWires 3 = .ok (.bipush 8, 2) := by decide +kernel
theorem dMe_clearOutputWires_5 : decode bMe_clearOutputWires 5 = .ok (.if_icmp .ge 16, 3) := by decide +kernel
theorem dMe_clearOutputWires_8 : decode bMe_clearOutputWires 8 = .ok (.aload_n 0, 1) := by decide +kernel
theorem dMe_clearOutputWires_9 : decode bMe_clearOutputWires 9 = .ok (.getfield 21, 3) := by decide +kernel
theorem dMe_clearOutputWires_12 : decode bMe_clearOutputWires 12 = .ok (.iload_n 1, 1) := by decide +kernel
theorem dMe_clearOutputWires_13 : decode bMe_clearOutputWires 13 = .ok (.iconst 0, 1) := by decide +kernel
theorem dMe_clearOutputWires_14 : decode bMe_clearOutputWires 14 = .ok (.iastore, 1) := by decide +kernel
theorem dMe_clearOutputWires_15 : decode bMe_clearOutputWires 15 = .ok (.iinc 1 1, 3) := by decide +kernel
theorem dMe_clearOutputWires_18 : decode bMe_clearOutputWires 18 = .ok (.goto (-16), 3) := by decide +kernel
theorem dMe_clearOutputWires_21 : decode bMe_clearOutputWires 21 = .ok (.return_, 1) := by decide +kernel
theorem dMe_losePower_0 : decode bMe_losePower 0 = .ok (.iconst 0, 1) := by decide +kernel
theorem dMe_losePower_1 : decode bMe_losePower 1 = .ok (.istore_n 1, 1) := by decide +kernel
theorem dMe_losePower_2 : decode bMe_losePower 2 = .ok (.iload_n 1, 1) := by decide +kernel
theorem dMe_losePower_3 : decode bMe_losePower 3 = .ok (.bipush 24, 2) := by decide +kernel
theorem dMe_losePower_5 : decode bMe_losePower 5 = .ok (.if_icmp .ge 16, 3) := by decide +kernel
theorem dMe_losePower_8 : decode bMe_losePower 8 = .ok (.aload_n 0, 1) := by decide +kernel
theorem dMe_losePower_9 : decode bMe_losePower 9 = .ok (.getfield 9, 3) := by decide +kernel
theorem dMe_losePower_12 : decode bMe_losePower 12 = .ok (.iload_n 1, 1) := by decide +kernel
theorem dMe_losePower_13 : decode bMe_losePower 13 = .ok (.iconst 0, 1) := by decide +kernel
theorem dMe_losePower_14 : decode bMe_losePower 14 = .ok (.iastore, 1) := by decide +kernel
theorem dMe_losePower_15 : decode bMe_losePower 15 = .ok (.iinc 1 1, 3) := by decide +kernel
theorem dMe_losePower_18 : decode bMe_losePower 18 = .ok (.goto (-16), 3) := by decide +kernel
theorem dMe_losePower_21 : decode bMe_losePower 21 = .ok (.aload_n 0, 1) := by decide +kernel
theorem dMe_losePower_22 : decode bMe_losePower 22 = .ok (.invokevirtual 44, 3) := by decide +kernel
theorem dMe_losePower_25 : decode bMe_losePower 25 = .ok (.return_, 1) := by decide +kernel
theorem dMe_keptOnes_0 : decode bMe_keptOnes 0 = .ok (.iconst 0, 1) := by decide +kernel
theorem dMe_keptOnes_1 : decode bMe_keptOnes 1 = .ok (.istore_n 1, 1) := by decide +kernel
theorem dMe_keptOnes_2 : decode bMe_keptOnes 2 = .ok (.bipush 24, 2) := by decide +kernel
theorem dMe_keptOnes_4 : decode bMe_keptOnes 4 = .ok (.istore_n 2, 1) := by decide +kernel
theorem dMe_keptOnes_5 : decode bMe_keptOnes 5 = .ok (.iload_n 2, 1) := by decide +kernel
theorem dMe_keptOnes_6 : decode bMe_keptOnes 6 = .ok (.bipush 32, 2) := by decide +kernel
theorem dMe_keptOnes_8 : decode bMe_keptOnes 8 = .ok (.if_icmp .ge 18, 3) := by decide +kernel
theorem dMe_keptOnes_11 : decode bMe_keptOnes 11 = .ok (.iload_n 1, 1) := by decide +kernel
theorem dMe_keptOnes_12 : decode bMe_keptOnes 12 = .ok (.aload_n 0, 1) := by decide +kernel
theorem dMe_keptOnes_13 : decode bMe_keptOnes 13 = .ok (.getfield 9, 3) := by decide +kernel
theorem dMe_keptOnes_16 : decode bMe_keptOnes 16 = .ok (.iload_n 2, 1) := by decide +kernel
theorem dMe_keptOnes_17 : decode bMe_keptOnes 17 = .ok (.iaload, 1) := by decide +kernel
theorem dMe_keptOnes_18 : decode bMe_keptOnes 18 = .ok (.iadd, 1) := by decide +kernel
theorem dMe_keptOnes_19 : decode bMe_keptOnes 19 = .ok (.istore_n 1, 1) := by decide +kernel
theorem dMe_keptOnes_20 : decode bMe_keptOnes 20 = .ok (.iinc 2 1, 3) := by decide +kernel
theorem dMe_keptOnes_23 : decode bMe_keptOnes 23 = .ok (.goto (-18), 3) := by decide +kernel
theorem dMe_keptOnes_26 : decode bMe_keptOnes 26 = .ok (.iload_n 1, 1) := by decide +kernel
theorem dMe_keptOnes_27 : decode bMe_keptOnes 27 = .ok (.ireturn, 1) := by decide +kernel
theorem dMe_forcedBits_0 : decode bMe_forcedBits 0 = .ok (.iconst 0, 1) := by decide +kernel
theorem dMe_forcedBits_1 : decode bMe_forcedBits 1 = .ok (.istore_n 1, 1) := by decide +kernel
theorem dMe_forcedBits_2 : decode bMe_forcedBits 2 = .ok (.iconst 0, 1) := by decide +kernel
theorem dMe_forcedBits_3 : decode bMe_forcedBits 3 = .ok (.istore_n 2, 1) := by decide +kernel
theorem dMe_forcedBits_4 : decode bMe_forcedBits 4 = .ok (.iload_n 2, 1) := by decide +kernel
theorem dMe_forcedBits_5 : decode bMe_forcedBits 5 = .ok (.bipush 32, 2) := by decide +kernel
theorem dMe_forcedBits_7 : decode bMe_forcedBits 7 = .ok (.if_icmp .ge 22, 3) := by decide +kernel
theorem dMe_forcedBits_10 : decode bMe_forcedBits 10 = .ok (.aload_n 0, 1) := by decide +kernel
theorem dMe_forcedBits_11 : decode bMe_forcedBits 11 = .ok (.getfield 15, 3) := by decide +kernel
theorem dMe_forcedBits_14 : decode bMe_forcedBits 14 = .ok (.iload_n 2, 1) := by decide +kernel
theorem dMe_forcedBits_15 : decode bMe_forcedBits 15 = .ok (.iaload, 1) := by decide +kernel
theorem dMe_forcedBits_16 : decode bMe_forcedBits 16 = .ok (.iconst (-1), 1) := by decide +kernel
theorem dMe_forcedBits_17 : decode bMe_forcedBits 17 = .ok (.if_icmp .eq 6, 3) := by decide +kernel
theorem dMe_forcedBits_20 : decode bMe_forcedBits 20 = .ok (.iinc 1 1, 3) := by decide +kernel
theorem dMe_forcedBits_23 : decode bMe_forcedBits 23 = .ok (.iinc 2 1, 3) := by decide +kernel
theorem dMe_forcedBits_26 : decode bMe_forcedBits 26 = .ok (.goto (-22), 3) := by decide +kernel
theorem dMe_forcedBits_29 : decode bMe_forcedBits 29 = .ok (.iload_n 1, 1) := by decide +kernel
theorem dMe_forcedBits_30 : decode bMe_forcedBits 30 = .ok (.ireturn, 1) := by decide +kernel
