/-! decode rows of LadderScan -/
theorem dX_init_0 : decode bX_init 0 = .ok (.aload_n 0, 1) := by decide +kernel
theorem dX_init_1 : decode bX_init 1 = .ok (.invokespecial 3, 3) := by decide +kernel
theorem dX_init_4 : decode bX_init 4 = .ok (.aload_n 0, 1) := by decide +kernel
theorem dX_init_5 : decode bX_init 5 = .ok (.new 9, 3) := by decide +kernel
theorem dX_init_8 : decode bX_init 8 = .ok (.dup, 1) := by decide +kernel
theorem dX_init_9 : decode bX_init 9 = .ok (.invokespecial 11, 3) := by decide +kernel
theorem dX_init_12 : decode bX_init 12 = .ok (.putfield 12, 3) := by decide +kernel
theorem dX_init_15 : decode bX_init 15 = .ok (.aload_n 0, 1) := by decide +kernel
theorem dX_init_16 : decode bX_init 16 = .ok (.bipush 10, 2) := by decide +kernel
theorem dX_init_18 : decode bX_init 18 = .ok (.anewarray 16, 3) := by decide +kernel
theorem dX_init_21 : decode bX_init 21 = .ok (.putfield 18, 3) := by decide +kernel
theorem dX_init_24 : decode bX_init 24 = .ok (.aload_n 0, 1) := by decide +kernel
theorem dX_init_25 : decode bX_init 25 = .ok (.new 22, 3) := by decide +kernel
theorem dX_init_28 : decode bX_init 28 = .ok (.dup, 1) := by decide +kernel
theorem dX_init_29 : decode bX_init 29 = .ok (.invokespecial 24, 3) := by decide +kernel
theorem dX_init_32 : decode bX_init 32 = .ok (.putfield 25, 3) := by decide +kernel
theorem dX_init_35 : decode bX_init 35 = .ok (.aload_n 0, 1) := by decide +kernel
theorem dX_init_36 : decode bX_init 36 = .ok (.new 22, 3) := by decide +kernel
theorem dX_init_39 : decode bX_init 39 = .ok (.dup, 1) := by decide +kernel
theorem dX_init_40 : decode bX_init 40 = .ok (.invokespecial 24, 3) := by decide +kernel
theorem dX_init_43 : decode bX_init 43 = .ok (.putfield 29, 3) := by decide +kernel
theorem dX_init_46 : decode bX_init 46 = .ok (.aload_n 0, 1) := by decide +kernel
theorem dX_init_47 : decode bX_init 47 = .ok (.iconst 0, 1) := by decide +kernel
theorem dX_init_48 : decode bX_init 48 = .ok (.putfield 32, 3) := by decide +kernel
theorem dX_init_51 : decode bX_init 51 = .ok (.aload_n 0, 1) := by decide +kernel
theorem dX_init_52 : decode bX_init 52 = .ok (.iconst 0, 1) := by decide +kernel
theorem dX_init_53 : decode bX_init 53 = .ok (.putfield 36, 3) := by decide +kernel
theorem dX_init_56 : decode bX_init 56 = .ok (.aload_n 0, 1) := by decide +kernel
theorem dX_init_57 : decode bX_init 57 = .ok (.iconst 0, 1) := by decide +kernel
theorem dX_init_58 : decode bX_init 58 = .ok (.putfield 39, 3) := by decide +kernel
theorem dX_init_61 : decode bX_init 61 = .ok (.aload_n 0, 1) := by decide +kernel
theorem dX_init_62 : decode bX_init 62 = .ok (.iconst 0, 1) := by decide +kernel
theorem dX_init_63 : decode bX_init 63 = .ok (.putfield 42, 3) := by decide +kernel
theorem dX_init_66 : decode bX_init 66 = .ok (.iconst 0, 1) := by decide +kernel
theorem dX_init_67 : decode bX_init 67 = .ok (.istore_n 1, 1) := by decide +kernel
theorem dX_init_68 : decode bX_init 68 = .ok (.iload_n 1, 1) := by decide +kernel
theorem dX_init_69 : decode bX_init 69 = .ok (.bipush 10, 2) := by decide +kernel
theorem dX_init_71 : decode bX_init 71 = .ok (.if_icmp .ge 22, 3) := by decide +kernel
theorem dX_init_74 : decode bX_init 74 = .ok (.aload_n 0, 1) := by decide +kernel
theorem dX_init_75 : decode bX_init 75 = .ok (.getfield 18, 3) := by decide +kernel
theorem dX_init_78 : decode bX_init 78 = .ok (.iload_n 1, 1) := by decide +kernel
theorem dX_init_79 : decode bX_init 79 = .ok (.new 16, 3) := by decide +kernel
theorem dX_init_82 : decode bX_init 82 = .ok (.dup, 1) := by decide +kernel
theorem dX_init_83 : decode bX_init 83 = .ok (.invokespecial 46, 3) := by decide +kernel
theorem dX_init_86 : decode bX_init 86 = .ok (.aastore, 1) := by decide +kernel
theorem dX_init_87 : decode bX_init 87 = .ok (.iinc 1 1, 3) := by decide +kernel
theorem dX_init_90 : decode bX_init 90 = .ok (.goto (-22), 3) := by decide +kernel
theorem dX_init_93 : decode bX_init 93 = .ok (.return_, 1) := by decide +kernel
theorem dX_block_0 : decode bX_block 0 = .ok (.iload_n 1, 1) := by decide +kernel
theorem dX_block_1 : decode bX_block 1 = .ok (.iload_n 2, 1) := by decide +kernel
theorem dX_block_2 : decode bX_block 2 = .ok (.iload_n 3, 1) := by decide +kernel
theorem dX_block_3 : decode bX_block 3 = .ok (.invokestatic 47, 3) := by decide +kernel
theorem dX_block_6 : decode bX_block 6 = .ok (.ifCond .ne 11, 3) := by decide +kernel
theorem dX_block_9 : decode bX_block 9 = .ok (.new 51, 3) := by decide +kernel
theorem dX_block_12 : decode bX_block 12 = .ok (.dup, 1) := by decide +kernel
theorem dX_block_13 : decode bX_block 13 = .ok (.invokespecial 53, 3) := by decide +kernel
theorem dX_block_16 : decode bX_block 16 = .ok (.athrow, 1) := by decide +kernel
theorem dX_block_17 : decode bX_block 17 = .ok (.aload_n 0, 1) := by decide +kernel
theorem dX_block_18 : decode bX_block 18 = .ok (.getfield 32, 3) := by decide +kernel
theorem dX_block_21 : decode bX_block 21 = .ok (.bipush 10, 2) := by decide +kernel
theorem dX_block_23 : decode bX_block 23 = .ok (.if_icmp .lt 11, 3) := by decide +kernel
theorem dX_block_26 : decode bX_block 26 = .ok (.new 54, 3) := by decide +kernel
theorem dX_block_29 : decode bX_block 29 = .ok (.dup, 1) := by decide +kernel
theorem dX_block_30 : decode bX_block 30 = .ok (.invokespecial 56, 3) := by decide +kernel
theorem dX_block_33 : decode bX_block 33 = .ok (.athrow, 1) := by decide +kernel
theorem dX_block_34 : decode bX_block 34 = .ok (.aload_n 0, 1) := by decide +kernel
theorem dX_block_35 : decode bX_block 35 = .ok (.getfield 18, 3) := by decide +kernel
theorem dX_block_38 : decode bX_block 38 = .ok (.aload_n 0, 1) := by decide +kernel
theorem dX_block_39 : decode bX_block 39 = .ok (.getfield 32, 3) := by decide +kernel
theorem dX_block_42 : decode bX_block 42 = .ok (.aaload, 1) := by decide +kernel
theorem dX_block_43 : decode bX_block 43 = .ok (.iload_n 1, 1) := by decide +kernel
theorem dX_block_44 : decode bX_block 44 = .ok (.iload_n 2, 1) := by decide +kernel
theorem dX_block_45 : decode bX_block 45 = .ok (.iload_n 3, 1) := by decide +kernel
theorem dX_block_46 : decode bX_block 46 = .ok (.invokevirtual 57, 3) := by decide +kernel
theorem dX_block_49 : decode bX_block 49 = .ok (.aload_n 0, 1) := by decide +kernel
theorem dX_block_50 : decode bX_block 50 = .ok (.dup, 1) := by decide +kernel
theorem dX_block_51 : decode bX_block 51 = .ok (.getfield 32, 3) := by decide +kernel
theorem dX_block_54 : decode bX_block 54 = .ok (.iconst 1, 1) := by decide +kernel
theorem dX_block_55 : decode bX_block 55 = .ok (.iadd, 1) := by decide +kernel
theorem dX_block_56 : decode bX_block 56 = .ok (.putfield 32, 3) := by decide +kernel
theorem dX_block_59 : decode bX_block 59 = .ok (.aload_n 0, 1) := by decide +kernel
theorem dX_block_60 : decode bX_block 60 = .ok (.getfield 32, 3) := by decide +kernel
theorem dX_block_63 : decode bX_block 63 = .ok (.iconst 1, 1) := by decide +kernel
theorem dX_block_64 : decode bX_block 64 = .ok (.isub, 1) := by decide +kernel
theorem dX_block_65 : decode bX_block 65 = .ok (.ireturn, 1) := by decide +kernel
theorem dX_tune_0 : decode bX_tune 0 = .ok (.aload_n 0, 1) := by decide +kernel
theorem dX_tune_1 : decode bX_tune 1 = .ok (.iload_n 1, 1) := by decide +kernel
theorem dX_tune_2 : decode bX_tune 2 = .ok (.invokevirtual 61, 3) := by decide +kernel
theorem dX_tune_5 : decode bX_tune 5 = .ok (.ifCond .ne 11, 3) := by decide +kernel
theorem dX_tune_8 : decode bX_tune 8 = .ok (.new 65, 3) := by decide +kernel
theorem dX_tune_11 : decode bX_tune 11 = .ok (.dup, 1) := by decide +kernel
theorem dX_tune_12 : decode bX_tune 12 = .ok (.invokespecial 67, 3) := by decide +kernel
theorem dX_tune_15 : decode bX_tune 15 = .ok (.athrow, 1) := by decide +kernel
theorem dX_tune_16 : decode bX_tune 16 = .ok (.aload_n 0, 1) := by decide +kernel
theorem dX_tune_17 : decode bX_tune 17 = .ok (.getfield 18, 3) := by decide +kernel
theorem dX_tune_20 : decode bX_tune 20 = .ok (.iload_n 1, 1) := by decide +kernel
theorem dX_tune_21 : decode bX_tune 21 = .ok (.aaload, 1) := by decide +kernel
theorem dX_tune_22 : decode bX_tune 22 = .ok (.astore 6, 2) := by decide +kernel
theorem dX_tune_24 : decode bX_tune 24 = .ok (.aload 6, 2) := by decide +kernel
theorem dX_tune_26 : decode bX_tune 26 = .ok (.getfield 68, 3) := by decide +kernel
theorem dX_tune_29 : decode bX_tune 29 = .ok (.iconst 5, 1) := by decide +kernel
theorem dX_tune_30 : decode bX_tune 30 = .ok (.if_icmp .ge 11, 3) := by decide +kernel
theorem dX_tune_33 : decode bX_tune 33 = .ok (.new 71, 3) := by decide +kernel
theorem dX_tune_36 : decode bX_tune 36 = .ok (.dup, 1) := by decide +kernel
theorem dX_tune_37 : decode bX_tune 37 = .ok (.invokespecial 73, 3) := by decide +kernel
theorem dX_tune_40 : decode bX_tune 40 = .ok (.athrow, 1) := by decide +kernel
theorem dX_tune_41 : decode bX_tune 41 = .ok (.dload_n 2, 1) := by decide +kernel
theorem dX_tune_42 : decode bX_tune 42 = .ok (.invokestatic 74, 3) := by decide +kernel
theorem dX_tune_45 : decode bX_tune 45 = .ok (.ifCond .eq 11, 3) := by decide +kernel
theorem dX_tune_48 : decode bX_tune 48 = .ok (.dload 4, 2) := by decide +kernel
theorem dX_tune_50 : decode bX_tune 50 = .ok (.invokestatic 74, 3) := by decide +kernel
theorem dX_tune_53 : decode bX_tune 53 = .ok (.ifCond .ne 11, 3) := by decide +kernel
theorem dX_tune_56 : decode bX_tune 56 = .ok (.new 51, 3) := by decide +kernel
theorem dX_tune_59 : decode bX_tune 59 = .ok (.dup, 1) := by decide +kernel
theorem dX_tune_60 : decode bX_tune 60 = .ok (.invokespecial 53, 3) := by decide +kernel
theorem dX_tune_63 : decode bX_tune 63 = .ok (.athrow, 1) := by decide +kernel
theorem dX_tune_64 : decode bX_tune 64 = .ok (.aload 6, 2) := by decide +kernel
theorem dX_tune_66 : decode bX_tune 66 = .ok (.getfield 68, 3) := by decide +kernel
theorem dX_tune_69 : decode bX_tune 69 = .ok (.bipush 7, 2) := by decide +kernel
theorem dX_tune_71 : decode bX_tune 71 = .ok (.if_icmp .ne 18, 3) := by decide +kernel
theorem dX_tune_74 : decode bX_tune 74 = .ok (.dload_n 2, 1) := by decide +kernel
theorem dX_tune_75 : decode bX_tune 75 = .ok (.dload 4, 2) := by decide +kernel
theorem dX_tune_77 : decode bX_tune 77 = .ok (.dcmp .g, 1) := by decide +kernel
theorem dX_tune_78 : decode bX_tune 78 = .ok (.ifCond .ge 11, 3) := by decide +kernel
theorem dX_tune_81 : decode bX_tune 81 = .ok (.new 51, 3) := by decide +kernel
theorem dX_tune_84 : decode bX_tune 84 = .ok (.dup, 1) := by decide +kernel
theorem dX_tune_85 : decode bX_tune 85 = .ok (.invokespecial 53, 3) := by decide +kernel
theorem dX_tune_88 : decode bX_tune 88 = .ok (.athrow, 1) := by decide +kernel
theorem dX_tune_89 : decode bX_tune 89 = .ok (.aload 6, 2) := by decide +kernel
theorem dX_tune_91 : decode bX_tune 91 = .ok (.getfield 78, 3) := by decide +kernel
theorem dX_tune_94 : decode bX_tune 94 = .ok (.invokestatic 81, 3) := by decide +kernel
theorem dX_tune_97 : decode bX_tune 97 = .ok (.dstore 7, 2) := by decide +kernel
theorem dX_tune_99 : decode bX_tune 99 = .ok (.aload 6, 2) := by decide +kernel
theorem dX_tune_101 : decode bX_tune 101 = .ok (.dload_n 2, 1) := by decide +kernel
theorem dX_tune_102 : decode bX_tune 102 = .ok (.invokestatic 85, 3) := by decide +kernel
theorem dX_tune_105 : decode bX_tune 105 = .ok (.putfield 78, 3) := by decide +kernel
theorem dX_tune_108 : decode bX_tune 108 = .ok (.aload 6, 2) := by decide +kernel
theorem dX_tune_110 : decode bX_tune 110 = .ok (.dload 4, 2) := by decide +kernel
theorem dX_tune_112 : decode bX_tune 112 = .ok (.invokestatic 85, 3) := by decide +kernel
theorem dX_tune_115 : decode bX_tune 115 = .ok (.putfield 89, 3) := by decide +kernel
theorem dX_tune_118 : decode bX_tune 118 = .ok (.dload 7, 2) := by decide +kernel
theorem dX_tune_120 : decode bX_tune 120 = .ok (.dreturn, 1) := by decide +kernel
theorem dX_step_0 : decode bX_step 0 = .ok (.iload_n 1, 1) := by decide +kernel
theorem dX_step_1 : decode bX_step 1 = .ok (.invokestatic 92, 3) := by decide +kernel
theorem dX_step_4 : decode bX_step 4 = .ok (.ifCond .eq 12, 3) := by decide +kernel
theorem dX_step_7 : decode bX_step 7 = .ok (.aload_n 0, 1) := by decide +kernel
theorem dX_step_8 : decode bX_step 8 = .ok (.iload_n 2, 1) := by decide +kernel
theorem dX_step_9 : decode bX_step 9 = .ok (.iload_n 3, 1) := by decide +kernel
theorem dX_step_10 : decode bX_step 10 = .ok (.invokevirtual 95, 3) := by decide +kernel
theorem dX_step_13 : decode bX_step 13 = .ok (.ifCond .ne 11, 3) := by decide +kernel
theorem dX_step_16 : decode bX_step 16 = .ok (.new 51, 3) := by decide +kernel
theorem dX_step_19 : decode bX_step 19 = .ok (.dup, 1) := by decide +kernel
theorem dX_step_20 : decode bX_step 20 = .ok (.invokespecial 53, 3) := by decide +kernel
theorem dX_step_23 : decode bX_step 23 = .ok (.athrow, 1) := by decide +kernel
theorem dX_step_24 : decode bX_step 24 = .ok (.aload_n 0, 1) := by decide +kernel
theorem dX_step_25 : decode bX_step 25 = .ok (.getfield 25, 3) := by decide +kernel
theorem dX_step_28 : decode bX_step 28 = .ok (.iload_n 1, 1) := by decide +kernel
theorem dX_step_29 : decode bX_step 29 = .ok (.iload_n 2, 1) := by decide +kernel
theorem dX_step_30 : decode bX_step 30 = .ok (.invokevirtual 99, 3) := by decide +kernel
theorem dX_step_33 : decode bX_step 33 = .ok (.ifCond .ne 11, 3) := by decide +kernel
theorem dX_step_36 : decode bX_step 36 = .ok (.new 71, 3) := by decide +kernel
theorem dX_step_39 : decode bX_step 39 = .ok (.dup, 1) := by decide +kernel
theorem dX_step_40 : decode bX_step 40 = .ok (.invokespecial 73, 3) := by decide +kernel
theorem dX_step_43 : decode bX_step 43 = .ok (.athrow, 1) := by decide +kernel
theorem dX_step_44 : decode bX_step 44 = .ok (.aload_n 0, 1) := by decide +kernel
theorem dX_step_45 : decode bX_step 45 = .ok (.getfield 25, 3) := by decide +kernel
theorem dX_step_48 : decode bX_step 48 = .ok (.iload_n 1, 1) := by decide +kernel
theorem dX_step_49 : decode bX_step 49 = .ok (.invokevirtual 102, 3) := by decide +kernel
theorem dX_step_52 : decode bX_step 52 = .ok (.ifCond .eq 11, 3) := by decide +kernel
theorem dX_step_55 : decode bX_step 55 = .ok (.new 54, 3) := by decide +kernel
theorem dX_step_58 : decode bX_step 58 = .ok (.dup, 1) := by decide +kernel
theorem dX_step_59 : decode bX_step 59 = .ok (.invokespecial 56, 3) := by decide +kernel
theorem dX_step_62 : decode bX_step 62 = .ok (.athrow, 1) := by decide +kernel
theorem dX_step_63 : decode bX_step 63 = .ok (.aload_n 0, 1) := by decide +kernel
theorem dX_step_64 : decode bX_step 64 = .ok (.getfield 25, 3) := by decide +kernel
theorem dX_step_67 : decode bX_step 67 = .ok (.iload_n 1, 1) := by decide +kernel
theorem dX_step_68 : decode bX_step 68 = .ok (.iload_n 2, 1) := by decide +kernel
theorem dX_step_69 : decode bX_step 69 = .ok (.iload_n 3, 1) := by decide +kernel
theorem dX_step_70 : decode bX_step 70 = .ok (.invokevirtual 105, 3) := by decide +kernel
theorem dX_step_73 : decode bX_step 73 = .ok (.ireturn, 1) := by decide +kernel
theorem dX_erase_0 : decode bX_erase 0 = .ok (.iload_n 1, 1) := by decide +kernel
theorem dX_erase_1 : decode bX_erase 1 = .ok (.invokestatic 92, 3) := by decide +kernel
theorem dX_erase_4 : decode bX_erase 4 = .ok (.ifCond .ne 11, 3) := by decide +kernel
theorem dX_erase_7 : decode bX_erase 7 = .ok (.new 51, 3) := by decide +kernel
theorem dX_erase_10 : decode bX_erase 10 = .ok (.dup, 1) := by decide +kernel
theorem dX_erase_11 : decode bX_erase 11 = .ok (.invokespecial 53, 3) := by decide +kernel
theorem dX_erase_14 : decode bX_erase 14 = .ok (.athrow, 1) := by decide +kernel
theorem dX_erase_15 : decode bX_erase 15 = .ok (.aload_n 0, 1) := by decide +kernel
theorem dX_erase_16 : decode bX_erase 16 = .ok (.getfield 25, 3) := by decide +kernel
theorem dX_erase_19 : decode bX_erase 19 = .ok (.iload_n 1, 1) := by decide +kernel
theorem dX_erase_20 : decode bX_erase 20 = .ok (.invokevirtual 109, 3) := by decide +kernel
theorem dX_erase_23 : decode bX_erase 23 = .ok (.ireturn, 1) := by decide +kernel
theorem dX_download_0 : decode bX_download 0 = .ok (.aload_n 0, 1) := by decide +kernel
theorem dX_download_1 : decode bX_download 1 = .ok (.getfield 29, 3) := by decide +kernel
theorem dX_download_4 : decode bX_download 4 = .ok (.aload_n 0, 1) := by decide +kernel
theorem dX_download_5 : decode bX_download 5 = .ok (.getfield 25, 3) := by decide +kernel
theorem dX_download_8 : decode bX_download 8 = .ok (.invokevirtual 113, 3) := by decide +kernel
theorem dX_download_11 : decode bX_download 11 = .ok (.aload_n 0, 1) := by decide +kernel
theorem dX_download_12 : decode bX_download 12 = .ok (.getfield 29, 3) := by decide +kernel
theorem dX_download_15 : decode bX_download 15 = .ok (.invokevirtual 117, 3) := by decide +kernel
theorem dX_download_18 : decode bX_download 18 = .ok (.ireturn, 1) := by decide +kernel
theorem dX_wire_0 : decode bX_wire 0 = .ok (.iload_n 1, 1) := by decide +kernel
theorem dX_wire_1 : decode bX_wire 1 = .ok (.iconst 0, 1) := by decide +kernel
theorem dX_wire_2 : decode bX_wire 2 = .ok (.bipush 7, 2) := by decide +kernel
theorem dX_wire_4 : decode bX_wire 4 = .ok (.invokestatic 121, 3) := by decide +kernel
theorem dX_wire_7 : decode bX_wire 7 = .ok (.ifCond .eq 12, 3) := by decide +kernel
theorem dX_wire_10 : decode bX_wire 10 = .ok (.iload_n 2, 1) := by decide +kernel
theorem dX_wire_11 : decode bX_wire 11 = .ok (.iconst 0, 1) := by decide +kernel
theorem dX_wire_12 : decode bX_wire 12 = .ok (.iconst 1, 1) := by decide +kernel
theorem dX_wire_13 : decode bX_wire 13 = .ok (.invokestatic 121, 3) := by decide +kernel
theorem dX_wire_16 : decode bX_wire 16 = .ok (.ifCond .ne 11, 3) := by decide +kernel
theorem dX_wire_19 : decode bX_wire 19 = .ok (.new 51, 3) := by decide +kernel
theorem dX_wire_22 : decode bX_wire 22 = .ok (.dup, 1) := by decide +kernel
theorem dX_wire_23 : decode bX_wire 23 = .ok (.invokespecial 53, 3) := by decide +kernel
theorem dX_wire_26 : decode bX_wire 26 = .ok (.athrow, 1) := by decide +kernel
theorem dX_wire_27 : decode bX_wire 27 = .ok (.aload_n 0, 1) := by decide +kernel
theorem dX_wire_28 : decode bX_wire 28 = .ok (.getfield 12, 3) := by decide +kernel
theorem dX_wire_31 : decode bX_wire 31 = .ok (.getfield 124, 3) := by decide +kernel
theorem dX_wire_34 : decode bX_wire 34 = .ok (.iload_n 1, 1) := by decide +kernel
theorem dX_wire_35 : decode bX_wire 35 = .ok (.iaload, 1) := by decide +kernel
theorem dX_wire_36 : decode bX_wire 36 = .ok (.istore_n 3, 1) := by decide +kernel
theorem dX_wire_37 : decode bX_wire 37 = .ok (.aload_n 0, 1) := by decide +kernel
theorem dX_wire_38 : decode bX_wire 38 = .ok (.getfield 12, 3) := by decide +kernel
theorem dX_wire_41 : decode bX_wire 41 = .ok (.getfield 124, 3) := by decide +kernel
theorem dX_wire_44 : decode bX_wire 44 = .ok (.iload_n 1, 1) := by decide +kernel
theorem dX_wire_45 : decode bX_wire 45 = .ok (.iload_n 2, 1) := by decide +kernel
theorem dX_wire_46 : decode bX_wire 46 = .ok (.iastore, 1) := by decide +kernel
theorem dX_wire_47 : decode bX_wire 47 = .ok (.iload_n 3, 1) := by decide +kernel
theorem dX_wire_48 : decode bX_wire 48 = .ok (.ireturn, 1) := by decide +kernel
theorem dX_put_0 : decode bX_put 0 = .ok (.iload_n 1, 1) := by decide +kernel
theorem dX_put_1 : decode bX_put 1 = .ok (.invokestatic 128, 3) := by decide +kernel
theorem dX_put_4 : decode bX_put 4 = .ok (.ifCond .eq 10, 3) := by decide +kernel
theorem dX_put_7 : decode bX_put 7 = .ok (.dload_n 2, 1) := by decide +kernel
theorem dX_put_8 : decode bX_put 8 = .ok (.invokestatic 131, 3) := by decide +kernel
theorem dX_put_11 : decode bX_put 11 = .ok (.ifCond .ne 11, 3) := by decide +kernel
theorem dX_put_14 : decode bX_put 14 = .ok (.new 51, 3) := by decide +kernel
theorem dX_put_17 : decode bX_put 17 = .ok (.dup, 1) := by decide +kernel
theorem dX_put_18 : decode bX_put 18 = .ok (.invokespecial 53, 3) := by decide +kernel
theorem dX_put_21 : decode bX_put 21 = .ok (.athrow, 1) := by decide +kernel
theorem dX_put_22 : decode bX_put 22 = .ok (.aload_n 0, 1) := by decide +kernel
theorem dX_put_23 : decode bX_put 23 = .ok (.getfield 12, 3) := by decide +kernel
theorem dX_put_26 : decode bX_put 26 = .ok (.getfield 134, 3) := by decide +kernel
theorem dX_put_29 : decode bX_put 29 = .ok (.iload_n 1, 1) := by decide +kernel
theorem dX_put_30 : decode bX_put 30 = .ok (.iaload, 1) := by decide +kernel
theorem dX_put_31 : decode bX_put 31 = .ok (.invokestatic 81, 3) := by decide +kernel
theorem dX_put_34 : decode bX_put 34 = .ok (.dstore 4, 2) := by decide +kernel
theorem dX_put_36 : decode bX_put 36 = .ok (.aload_n 0, 1) := by decide +kernel
theorem dX_put_37 : decode bX_put 37 = .ok (.getfield 12, 3) := by decide +kernel
theorem dX_put_40 : decode bX_put 40 = .ok (.getfield 134, 3) := by decide +kernel
theorem dX_put_43 : decode bX_put 43 = .ok (.iload_n 1, 1) := by decide +kernel
theorem dX_put_44 : decode bX_put 44 = .ok (.dload_n 2, 1) := by decide +kernel
theorem dX_put_45 : decode bX_put 45 = .ok (.invokestatic 85, 3) := by decide +kernel
theorem dX_put_48 : decode bX_put 48 = .ok (.iastore, 1) := by decide +kernel
theorem dX_put_49 : decode bX_put 49 = .ok (.dload 4, 2) := by decide +kernel
theorem dX_put_51 : decode bX_put 51 = .ok (.dreturn, 1) := by decide +kernel
theorem dX_force_0 : decode bX_force 0 = .ok (.iload_n 1, 1) := by decide +kernel
theorem dX_force_1 : decode bX_force 1 = .ok (.invokestatic 137, 3) := by decide +kernel
theorem dX_force_4 : decode bX_force 4 = .ok (.ifCond .eq 12, 3) := by decide +kernel
theorem dX_force_7 : decode bX_force 7 = .ok (.iload_n 2, 1) := by decide +kernel
theorem dX_force_8 : decode bX_force 8 = .ok (.iconst (-1), 1) := by decide +kernel
theorem dX_force_9 : decode bX_force 9 = .ok (.iconst 1, 1) := by decide +kernel
theorem dX_force_10 : decode bX_force 10 = .ok (.invokestatic 121, 3) := by decide +kernel
theorem dX_force_13 : decode bX_force 13 = .ok (.ifCond .ne 11, 3) := by decide +kernel
theorem dX_force_16 : decode bX_force 16 = .ok (.new 51, 3) := by decide +kernel
theorem dX_force_19 : decode bX_force 19 = .ok (.dup, 1) := by decide +kernel
theorem dX_force_20 : decode bX_force 20 = .ok (.invokespecial 53, 3) := by decide +kernel
theorem dX_force_23 : decode bX_force 23 = .ok (.athrow, 1) := by decide +kernel
theorem dX_force_24 : decode bX_force 24 = .ok (.aload_n 0, 1) := by decide +kernel
theorem dX_force_25 : decode bX_force 25 = .ok (.getfield 12, 3) := by decide +kernel
theorem dX_force_28 : decode bX_force 28 = .ok (.getfield 140, 3) := by decide +kernel
theorem dX_force_31 : decode bX_force 31 = .ok (.iload_n 1, 1) := by decide +kernel
theorem dX_force_32 : decode bX_force 32 = .ok (.iaload, 1) := by decide +kernel
theorem dX_force_33 : decode bX_force 33 = .ok (.istore_n 3, 1) := by decide +kernel
theorem dX_force_34 : decode bX_force 34 = .ok (.aload_n 0, 1) := by decide +kernel
theorem dX_force_35 : decode bX_force 35 = .ok (.getfield 12, 3) := by decide +kernel
theorem dX_force_38 : decode bX_force 38 = .ok (.getfield 140, 3) := by decide +kernel
theorem dX_force_41 : decode bX_force 41 = .ok (.iload_n 1, 1) := by decide +kernel
theorem dX_force_42 : decode bX_force 42 = .ok (.iload_n 2, 1) := by decide +kernel
theorem dX_force_43 : decode bX_force 43 = .ok (.iastore, 1) := by decide +kernel
theorem dX_force_44 : decode bX_force 44 = .ok (.iload_n 3, 1) := by decide +kernel
theorem dX_force_45 : decode bX_force 45 = .ok (.ireturn, 1) := by decide +kernel
theorem dX_scan_0 : decode bX_scan 0 = .ok (.iload_n 1, 1) := by decide +kernel
theorem dX_scan_1 : decode bX_scan 1 = .ok (.iconst 1, 1) := by decide +kernel
theorem dX_scan_2 : decode bX_scan 2 = .ok (.bipush 20, 2) := by decide +kernel
theorem dX_scan_4 : decode bX_scan 4 = .ok (.invokestatic 121, 3) := by decide +kernel
theorem dX_scan_7 : decode bX_scan 7 = .ok (.ifCond .ne 11, 3) := by decide +kernel
theorem dX_scan_10 : decode bX_scan 10 = .ok (.new 51, 3) := by decide +kernel
theorem dX_scan_13 : decode bX_scan 13 = .ok (.dup, 1) := by decide +kernel
theorem dX_scan_14 : decode bX_scan 14 = .ok (.invokespecial 53, 3) := by decide +kernel
theorem dX_scan_17 : decode bX_scan 17 = .ok (.athrow, 1) := by decide +kernel
theorem dX_scan_18 : decode bX_scan 18 = .ok (.aload_n 0, 1) := by decide +kernel
theorem dX_scan_19 : decode bX_scan 19 = .ok (.getfield 42, 3) := by decide +kernel
theorem dX_scan_22 : decode bX_scan 22 = .ok (.ifCond .eq 11, 3) := by decide +kernel
theorem dX_scan_25 : decode bX_scan 25 = .ok (.new 54, 3) := by decide +kernel
theorem dX_scan_28 : decode bX_scan 28 = .ok (.dup, 1) := by decide +kernel
theorem dX_scan_29 : decode bX_scan 29 = .ok (.invokespecial 56, 3) := by decide +kernel
theorem dX_scan_32 : decode bX_scan 32 = .ok (.athrow, 1) := by decide +kernel
theorem dX_scan_33 : decode bX_scan 33 = .ok (.iconst 0, 1) := by decide +kernel
theorem dX_scan_34 : decode bX_scan 34 = .ok (.istore_n 2, 1) := by decide +kernel
theorem dX_scan_35 : decode bX_scan 35 = .ok (.iconst 0, 1) := by decide +kernel
theorem dX_scan_36 : decode bX_scan 36 = .ok (.istore_n 3, 1) := by decide +kernel
theorem dX_scan_37 : decode bX_scan 37 = .ok (.iload_n 3, 1) := by decide +kernel
theorem dX_scan_38 : decode bX_scan 38 = .ok (.iload_n 1, 1) := by decide +kernel
theorem dX_scan_39 : decode bX_scan 39 = .ok (.if_icmp .ge 49, 3) := by decide +kernel
theorem dX_scan_42 : decode bX_scan 42 = .ok (.aload_n 0, 1) := by decide +kernel
theorem dX_scan_43 : decode bX_scan 43 = .ok (.invokevirtual 143, 3) := by decide +kernel
theorem dX_scan_46 : decode bX_scan 46 = .ok (.istore 4, 2) := by decide +kernel
theorem dX_scan_48 : decode bX_scan 48 = .ok (.iload 4, 2) := by decide +kernel
theorem dX_scan_50 : decode bX_scan 50 = .ok (.iconst (-1), 1) := by decide +kernel
theorem dX_scan_51 : decode bX_scan 51 = .ok (.if_icmp .ne 11, 3) := by decide +kernel
theorem dX_scan_54 : decode bX_scan 54 = .ok (.new 54, 3) := by decide +kernel
theorem dX_scan_57 : decode bX_scan 57 = .ok (.dup, 1) := by decide +kernel
theorem dX_scan_58 : decode bX_scan 58 = .ok (.invokespecial 56, 3) := by decide +kernel
theorem dX_scan_61 : decode bX_scan 61 = .ok (.athrow, 1) := by decide +kernel
theorem dX_scan_62 : decode bX_scan 62 = .ok (.iload 4, 2) := by decide +kernel
theorem dX_scan_64 : decode bX_scan 64 = .ok (.bipush (-2), 2) := by decide +kernel
theorem dX_scan_66 : decode bX_scan 66 = .ok (.if_icmp .ne 11, 3) := by decide +kernel
theorem dX_scan_69 : decode bX_scan 69 = .ok (.new 146, 3) := by decide +kernel
theorem dX_scan_72 : decode bX_scan 72 = .ok (.dup, 1) := by decide +kernel
theorem dX_scan_73 : decode bX_scan 73 = .ok (.invokespecial 148, 3) := by decide +kernel
theorem dX_scan_76 : decode bX_scan 76 = .ok (.athrow, 1) := by decide +kernel
theorem dX_scan_77 : decode bX_scan 77 = .ok (.iload_n 2, 1) := by decide +kernel
theorem dX_scan_78 : decode bX_scan 78 = .ok (.iload 4, 2) := by decide +kernel
theorem dX_scan_80 : decode bX_scan 80 = .ok (.iadd, 1) := by decide +kernel
theorem dX_scan_81 : decode bX_scan 81 = .ok (.istore_n 2, 1) := by decide +kernel
theorem dX_scan_82 : decode bX_scan 82 = .ok (.iinc 3 1, 3) := by decide +kernel
theorem dX_scan_85 : decode bX_scan 85 = .ok (.goto (-48), 3) := by decide +kernel
theorem dX_scan_88 : decode bX_scan 88 = .ok (.iload_n 2, 1) := by decide +kernel
theorem dX_scan_89 : decode bX_scan 89 = .ok (.ireturn, 1) := by decide +kernel
theorem dX_restart_0 : decode bX_restart 0 = .ok (.aload_n 0, 1) := by decide +kernel
theorem dX_restart_1 : decode bX_restart 1 = .ok (.getfield 42, 3) := by decide +kernel
theorem dX_restart_4 : decode bX_restart 4 = .ok (.ifCond .eq 7, 3) := by decide +kernel
theorem dX_restart_7 : decode bX_restart 7 = .ok (.iconst 1, 1) := by decide +kernel
theorem dX_restart_8 : decode bX_restart 8 = .ok (.goto 4, 3) := by decide +kernel
theorem dX_restart_11 : decode bX_restart 11 = .ok (.iconst 0, 1) := by decide +kernel
theorem dX_restart_12 : decode bX_restart 12 = .ok (.istore_n 1, 1) := by decide +kernel
theorem dX_restart_13 : decode bX_restart 13 = .ok (.aload_n 0, 1) := by decide +kernel
theorem dX_restart_14 : decode bX_restart 14 = .ok (.iconst 0, 1) := by decide +kernel
theorem dX_restart_15 : decode bX_restart 15 = .ok (.putfield 42, 3) := by decide +kernel
theorem dX_restart_18 : decode bX_restart 18 = .ok (.iload_n 1, 1) := by decide +kernel
theorem dX_restart_19 : decode bX_restart 19 = .ok (.ireturn, 1) := by decide +kernel
theorem dX_fail_0 : decode bX_fail 0 = .ok (.aload_n 0, 1) := by decide +kernel
theorem dX_fail_1 : decode bX_fail 1 = .ok (.getfield 12, 3) := by decide +kernel
theorem dX_fail_4 : decode bX_fail 4 = .ok (.invokevirtual 149, 3) := by decide +kernel
theorem dX_fail_7 : decode bX_fail 7 = .ok (.iconst 0, 1) := by decide +kernel
theorem dX_fail_8 : decode bX_fail 8 = .ok (.istore_n 1, 1) := by decide +kernel
theorem dX_fail_9 : decode bX_fail 9 = .ok (.iload_n 1, 1) := by decide +kernel
theorem dX_fail_10 : decode bX_fail 10 = .ok (.bipush 10, 2) := by decide +kernel
theorem dX_fail_12 : decode bX_fail 12 = .ok (.if_icmp .ge 18, 3) := by decide +kernel
theorem dX_fail_15 : decode bX_fail 15 = .ok (.aload_n 0, 1) := by decide +kernel
theorem dX_fail_16 : decode bX_fail 16 = .ok (.getfield 18, 3) := by decide +kernel
theorem dX_fail_19 : decode bX_fail 19 = .ok (.iload_n 1, 1) := by decide +kernel
theorem dX_fail_20 : decode bX_fail 20 = .ok (.aaload, 1) := by decide +kernel
theorem dX_fail_21 : decode bX_fail 21 = .ok (.invokevirtual 152, 3) := by decide +kernel
theorem dX_fail_24 : decode bX_fail 24 = .ok (.iinc 1 1, 3) := by decide +kernel
theorem dX_fail_27 : decode bX_fail 27 = .ok (.goto (-18), 3) := by decide +kernel
theorem dX_fail_30 : decode bX_fail 30 = .ok (.aload_n 0, 1) := by decide +kernel
theorem dX_fail_31 : decode bX_fail 31 = .ok (.iconst 0, 1) := by decide +kernel
theorem dX_fail_32 : decode bX_fail 32 = .ok (.putfield 42, 3) := by decide +kernel
theorem dX_fail_35 : decode bX_fail 35 = .ok (.aload_n 0, 1) := by decide +kernel
theorem dX_fail_36 : decode bX_fail 36 = .ok (.getfield 12, 3) := by decide +kernel
theorem dX_fail_39 : decode bX_fail 39 = .ok (.invokevirtual 153, 3) := by decide +kernel
theorem dX_fail_42 : decode bX_fail 42 = .ok (.ireturn, 1) := by decide +kernel
theorem dX_bit_0 : decode bX_bit 0 = .ok (.iload_n 1, 1) := by decide +kernel
theorem dX_bit_1 : decode bX_bit 1 = .ok (.invokestatic 137, 3) := by decide +kernel
theorem dX_bit_4 : decode bX_bit 4 = .ok (.ifCond .ne 11, 3) := by decide +kernel
theorem dX_bit_7 : decode bX_bit 7 = .ok (.new 51, 3) := by decide +kernel
theorem dX_bit_10 : decode bX_bit 10 = .ok (.dup, 1) := by decide +kernel
theorem dX_bit_11 : decode bX_bit 11 = .ok (.invokespecial 53, 3) := by decide +kernel
theorem dX_bit_14 : decode bX_bit 14 = .ok (.athrow, 1) := by decide +kernel
theorem dX_bit_15 : decode bX_bit 15 = .ok (.aload_n 0, 1) := by decide +kernel
theorem dX_bit_16 : decode bX_bit 16 = .ok (.getfield 12, 3) := by decide +kernel
theorem dX_bit_19 : decode bX_bit 19 = .ok (.iload_n 1, 1) := by decide +kernel
theorem dX_bit_20 : decode bX_bit 20 = .ok (.invokevirtual 156, 3) := by decide +kernel
theorem dX_bit_23 : decode bX_bit 23 = .ok (.ireturn, 1) := by decide +kernel
theorem dX_out_0 : decode bX_out 0 = .ok (.iload_n 1, 1) := by decide +kernel
theorem dX_out_1 : decode bX_out 1 = .ok (.bipush 8, 2) := by decide +kernel
theorem dX_out_3 : decode bX_out 3 = .ok (.bipush 15, 2) := by decide +kernel
theorem dX_out_5 : decode bX_out 5 = .ok (.invokestatic 121, 3) := by decide +kernel
theorem dX_out_8 : decode bX_out 8 = .ok (.ifCond .ne 11, 3) := by decide +kernel
theorem dX_out_11 : decode bX_out 11 = .ok (.new 51, 3) := by decide +kernel
theorem dX_out_14 : decode bX_out 14 = .ok (.dup, 1) := by decide +kernel
theorem dX_out_15 : decode bX_out 15 = .ok (.invokespecial 53, 3) := by decide +kernel
theorem dX_out_18 : decode bX_out 18 = .ok (.athrow, 1) := by decide +kernel
theorem dX_out_19 : decode bX_out 19 = .ok (.aload_n 0, 1) := by decide +kernel
theorem dX_out_20 : decode bX_out 20 = .ok (.getfield 12, 3) := by decide +kernel
theorem dX_out_23 : decode bX_out 23 = .ok (.getfield 159, 3) := by decide +kernel
theorem dX_out_26 : decode bX_out 26 = .ok (.iload_n 1, 1) := by decide +kernel
theorem dX_out_27 : decode bX_out 27 = .ok (.bipush 8, 2) := by decide +kernel
theorem dX_out_29 : decode bX_out 29 = .ok (.isub, 1) := by decide +kernel
theorem dX_out_30 : decode bX_out 30 = .ok (.iaload, 1) := by decide +kernel
theorem dX_out_31 : decode bX_out 31 = .ok (.ireturn, 1) := by decide +kernel
theorem dX_register_0 : decode bX_register 0 = .ok (.iload_n 1, 1) := by decide +kernel
theorem dX_register_1 : decode bX_register 1 = .ok (.invokestatic 128, 3) := by decide +kernel
theorem dX_register_4 : decode bX_register 4 = .ok (.ifCond .ne 11, 3) := by decide +kernel
theorem dX_register_7 : decode bX_register 7 = .ok (.new 51, 3) := by decide +kernel
theorem dX_register_10 : decode bX_register 10 = .ok (.dup, 1) := by decide +kernel
theorem dX_register_11 : decode bX_register 11 = .ok (.invokespecial 53, 3) := by decide +kernel
theorem dX_register_14 : decode bX_register 14 = .ok (.athrow, 1) := by decide +kernel
theorem dX_register_15 : decode bX_register 15 = .ok (.aload_n 0, 1) := by decide +kernel
theorem dX_register_16 : decode bX_register 16 = .ok (.getfield 12, 3) := by decide +kernel
theorem dX_register_19 : decode bX_register 19 = .ok (.getfield 134, 3) := by decide +kernel
theorem dX_register_22 : decode bX_register 22 = .ok (.iload_n 1, 1) := by decide +kernel
theorem dX_register_23 : decode bX_register 23 = .ok (.iaload, 1) := by decide +kernel
theorem dX_register_24 : decode bX_register 24 = .ok (.invokestatic 81, 3) := by decide +kernel
theorem dX_register_27 : decode bX_register 27 = .ok (.dreturn, 1) := by decide +kernel
theorem dX_state_0 : decode bX_state 0 = .ok (.aload_n 0, 1) := by decide +kernel
theorem dX_state_1 : decode bX_state 1 = .ok (.iload_n 1, 1) := by decide +kernel
theorem dX_state_2 : decode bX_state 2 = .ok (.invokevirtual 61, 3) := by decide +kernel
theorem dX_state_5 : decode bX_state 5 = .ok (.ifCond .ne 11, 3) := by decide +kernel
theorem dX_state_8 : decode bX_state 8 = .ok (.new 65, 3) := by decide +kernel
theorem dX_state_11 : decode bX_state 11 = .ok (.dup, 1) := by decide +kernel
theorem dX_state_12 : decode bX_state 12 = .ok (.invokespecial 67, 3) := by decide +kernel
theorem dX_state_15 : decode bX_state 15 = .ok (.athrow, 1) := by decide +kernel
theorem dX_state_16 : decode bX_state 16 = .ok (.iload_n 2, 1) := by decide +kernel
theorem dX_state_17 : decode bX_state 17 = .ok (.tableswitch 57 0 2 #[27, 37, 47], 27) := by decide +kernel
theorem dX_state_44 : decode bX_state 44 = .ok (.aload_n 0, 1) := by decide +kernel
theorem dX_state_45 : decode bX_state 45 = .ok (.getfield 18, 3) := by decide +kernel
theorem dX_state_48 : decode bX_state 48 = .ok (.iload_n 1, 1) := by decide +kernel
theorem dX_state_49 : decode bX_state 49 = .ok (.aaload, 1) := by decide +kernel
theorem dX_state_50 : decode bX_state 50 = .ok (.getfield 68, 3) := by decide +kernel
theorem dX_state_53 : decode bX_state 53 = .ok (.ireturn, 1) := by decide +kernel
theorem dX_state_54 : decode bX_state 54 = .ok (.aload_n 0, 1) := by decide +kernel
theorem dX_state_55 : decode bX_state 55 = .ok (.getfield 18, 3) := by decide +kernel
theorem dX_state_58 : decode bX_state 58 = .ok (.iload_n 1, 1) := by decide +kernel
theorem dX_state_59 : decode bX_state 59 = .ok (.aaload, 1) := by decide +kernel
theorem dX_state_60 : decode bX_state 60 = .ok (.getfield 162, 3) := by decide +kernel
theorem dX_state_63 : decode bX_state 63 = .ok (.ireturn, 1) := by decide +kernel
theorem dX_state_64 : decode bX_state 64 = .ok (.aload_n 0, 1) := by decide +kernel
theorem dX_state_65 : decode bX_state 65 = .ok (.getfield 18, 3) := by decide +kernel
theorem dX_state_68 : decode bX_state 68 = .ok (.iload_n 1, 1) := by decide +kernel
theorem dX_state_69 : decode bX_state 69 = .ok (.aaload, 1) := by decide +kernel
theorem dX_state_70 : decode bX_state 70 = .ok (.getfield 165, 3) := by decide +kernel
theorem dX_state_73 : decode bX_state 73 = .ok (.ireturn, 1) := by decide +kernel
theorem dX_state_74 : decode bX_state 74 = .ok (.new 51, 3) := by decide +kernel
theorem dX_state_77 : decode bX_state 77 = .ok (.dup, 1) := by decide +kernel
theorem dX_state_78 : decode bX_state 78 = .ok (.invokespecial 53, 3) := by decide +kernel
theorem dX_state_81 : decode bX_state 81 = .ok (.athrow, 1) := by decide +kernel
theorem dX_count_0 : decode bX_count 0 = .ok (.iload_n 1, 1) := by decide +kernel
theorem dX_count_1 : decode bX_count 1 = .ok (.tableswitch 83 0 5 #[39, 44, 49, 62, 67, 75], 39) := by decide +kernel
theorem dX_count_40 : decode bX_count 40 = .ok (.aload_n 0, 1) := by decide +kernel
theorem dX_count_41 : decode bX_count 41 = .ok (.getfield 36, 3) := by decide +kernel
theorem dX_count_44 : decode bX_count 44 = .ok (.ireturn, 1) := by decide +kernel
theorem dX_count_45 : decode bX_count 45 = .ok (.aload_n 0, 1) := by decide +kernel
theorem dX_count_46 : decode bX_count 46 = .ok (.getfield 39, 3) := by decide +kernel
theorem dX_count_49 : decode bX_count 49 = .ok (.ireturn, 1) := by decide +kernel
theorem dX_count_50 : decode bX_count 50 = .ok (.aload_n 0, 1) := by decide +kernel
theorem dX_count_51 : decode bX_count 51 = .ok (.getfield 42, 3) := by decide +kernel
theorem dX_count_54 : decode bX_count 54 = .ok (.ifCond .eq 7, 3) := by decide +kernel
theorem dX_count_57 : decode bX_count 57 = .ok (.iconst 1, 1) := by decide +kernel
theorem dX_count_58 : decode bX_count 58 = .ok (.goto 4, 3) := by decide +kernel
theorem dX_count_61 : decode bX_count 61 = .ok (.iconst 0, 1) := by decide +kernel
theorem dX_count_62 : decode bX_count 62 = .ok (.ireturn, 1) := by decide +kernel
theorem dX_count_63 : decode bX_count 63 = .ok (.aload_n 0, 1) := by decide +kernel
theorem dX_count_64 : decode bX_count 64 = .ok (.getfield 32, 3) := by decide +kernel
theorem dX_count_67 : decode bX_count 67 = .ok (.ireturn, 1) := by decide +kernel
theorem dX_count_68 : decode bX_count 68 = .ok (.aload_n 0, 1) := by decide +kernel
theorem dX_count_69 : decode bX_count 69 = .ok (.getfield 29, 3) := by decide +kernel
theorem dX_count_72 : decode bX_count 72 = .ok (.invokevirtual 117, 3) := by decide +kernel
theorem dX_count_75 : decode bX_count 75 = .ok (.ireturn, 1) := by decide +kernel
theorem dX_count_76 : decode bX_count 76 = .ok (.aload_n 0, 1) := by decide +kernel
theorem dX_count_77 : decode bX_count 77 = .ok (.getfield 12, 3) := by decide +kernel
theorem dX_count_80 : decode bX_count 80 = .ok (.invokevirtual 168, 3) := by decide +kernel
theorem dX_count_83 : decode bX_count 83 = .ok (.ireturn, 1) := by decide +kernel
theorem dX_count_84 : decode bX_count 84 = .ok (.new 51, 3) := by decide +kernel
theorem dX_count_87 : decode bX_count 87 = .ok (.dup, 1) := by decide +kernel
theorem dX_count_88 : decode bX_count 88 = .ok (.invokespecial 53, 3) := by decide +kernel
theorem dX_count_91 : decode bX_count 91 = .ok (.athrow, 1) := by decide +kernel
theorem dX_isWithin_0 : decode bX_isWithin 0 = .ok (.iload_n 0, 1) := by decide +kernel
theorem dX_isWithin_1 : decode bX_isWithin 1 = .ok (.iload_n 1, 1) := by decide +kernel
theorem dX_isWithin_2 : decode bX_isWithin 2 = .ok (.if_icmp .lt 12, 3) := by decide +kernel
theorem dX_isWithin_5 : decode bX_isWithin 5 = .ok (.iload_n 0, 1) := by decide +kernel
theorem dX_isWithin_6 : decode bX_isWithin 6 = .ok (.iload_n 2, 1) := by decide +kernel
theorem dX_isWithin_7 : decode bX_isWithin 7 = .ok (.if_icmp .gt 7, 3) := by decide +kernel
theorem dX_isWithin_10 : decode bX_isWithin 10 = .ok (.iconst 1, 1) := by decide +kernel
theorem dX_isWithin_11 : decode bX_isWithin 11 = .ok (.goto 4, 3) := by decide +kernel
theorem dX_isWithin_14 : decode bX_isWithin 14 = .ok (.iconst 0, 1) := by decide +kernel
theorem dX_isWithin_15 : decode bX_isWithin 15 = .ok (.ireturn, 1) := by decide +kernel
theorem dX_isBit_0 : decode bX_isBit 0 = .ok (.iload_n 0, 1) := by decide +kernel
theorem dX_isBit_1 : decode bX_isBit 1 = .ok (.iconst 0, 1) := by decide +kernel
theorem dX_isBit_2 : decode bX_isBit 2 = .ok (.bipush 31, 2) := by decide +kernel
theorem dX_isBit_4 : decode bX_isBit 4 = .ok (.invokestatic 121, 3) := by decide +kernel
theorem dX_isBit_7 : decode bX_isBit 7 = .ok (.ireturn, 1) := by decide +kernel
theorem dX_isRegister_0 : decode bX_isRegister 0 = .ok (.iload_n 0, 1) := by decide +kernel
theorem dX_isRegister_1 : decode bX_isRegister 1 = .ok (.iconst 0, 1) := by decide +kernel
theorem dX_isRegister_2 : decode bX_isRegister 2 = .ok (.bipush 7, 2) := by decide +kernel
theorem dX_isRegister_4 : decode bX_isRegister 4 = .ok (.invokestatic 121, 3) := by decide +kernel
theorem dX_isRegister_7 : decode bX_isRegister 7 = .ok (.ireturn, 1) := by decide +kernel
theorem dX_isRung_0 : decode bX_isRung 0 = .ok (.iload_n 0, 1) := by decide +kernel
theorem dX_isRung_1 : decode bX_isRung 1 = .ok (.iconst 0, 1) := by decide +kernel
theorem dX_isRung_2 : decode bX_isRung 2 = .ok (.bipush 11, 2) := by decide +kernel
theorem dX_isRung_4 : decode bX_isRung 4 = .ok (.invokestatic 121, 3) := by decide +kernel
theorem dX_isRung_7 : decode bX_isRung 7 = .ok (.ireturn, 1) := by decide +kernel
theorem dX_isMade_0 : decode bX_isMade 0 = .ok (.iload_n 1, 1) := by decide +kernel
theorem dX_isMade_1 : decode bX_isMade 1 = .ok (.iconst 0, 1) := by decide +kernel
theorem dX_isMade_2 : decode bX_isMade 2 = .ok (.aload_n 0, 1) := by decide +kernel
theorem dX_isMade_3 : decode bX_isMade 3 = .ok (.getfield 32, 3) := by decide +kernel
theorem dX_isMade_6 : decode bX_isMade 6 = .ok (.iconst 1, 1) := by decide +kernel
theorem dX_isMade_7 : decode bX_isMade 7 = .ok (.isub, 1) := by decide +kernel
theorem dX_isMade_8 : decode bX_isMade 8 = .ok (.invokestatic 121, 3) := by decide +kernel
theorem dX_isMade_11 : decode bX_isMade 11 = .ok (.ireturn, 1) := by decide +kernel
theorem dX_isBlock_0 : decode bX_isBlock 0 = .ok (.iload_n 0, 1) := by decide +kernel
theorem dX_isBlock_1 : decode bX_isBlock 1 = .ok (.tableswitch 100 0 7 #[47, 47, 55, 78, 78, 80, 80, 80], 47) := by decide +kernel
theorem dX_isBlock_48 : decode bX_isBlock 48 = .ok (.iload_n 1, 1) := by decide +kernel
theorem dX_isBlock_49 : decode bX_isBlock 49 = .ok (.iconst 1, 1) := by decide +kernel
theorem dX_isBlock_50 : decode bX_isBlock 50 = .ok (.bipush 100, 2) := by decide +kernel
theorem dX_isBlock_52 : decode bX_isBlock 52 = .ok (.invokestatic 121, 3) := by decide +kernel
theorem dX_isBlock_55 : decode bX_isBlock 55 = .ok (.ireturn, 1) := by decide +kernel
theorem dX_isBlock_56 : decode bX_isBlock 56 = .ok (.iload_n 1, 1) := by decide +kernel
theorem dX_isBlock_57 : decode bX_isBlock 57 = .ok (.iconst 1, 1) := by decide +kernel
theorem dX_isBlock_58 : decode bX_isBlock 58 = .ok (.bipush 100, 2) := by decide +kernel
theorem dX_isBlock_60 : decode bX_isBlock 60 = .ok (.invokestatic 121, 3) := by decide +kernel
theorem dX_isBlock_63 : decode bX_isBlock 63 = .ok (.ifCond .eq 14, 3) := by decide +kernel
theorem dX_isBlock_66 : decode bX_isBlock 66 = .ok (.iload_n 2, 1) := by decide +kernel
theorem dX_isBlock_67 : decode bX_isBlock 67 = .ok (.invokestatic 137, 3) := by decide +kernel
theorem dX_isBlock_70 : decode bX_isBlock 70 = .ok (.ifCond .eq 7, 3) := by decide +kernel
theorem dX_isBlock_73 : decode bX_isBlock 73 = .ok (.iconst 1, 1) := by decide +kernel
theorem dX_isBlock_74 : decode bX_isBlock 74 = .ok (.goto 4, 3) := by decide +kernel
theorem dX_isBlock_77 : decode bX_isBlock 77 = .ok (.iconst 0, 1) := by decide +kernel
theorem dX_isBlock_78 : decode bX_isBlock 78 = .ok (.ireturn, 1) := by decide +kernel
theorem dX_isBlock_79 : decode bX_isBlock 79 = .ok (.iconst 1, 1) := by decide +kernel
theorem dX_isBlock_80 : decode bX_isBlock 80 = .ok (.ireturn, 1) := by decide +kernel
theorem dX_isBlock_81 : decode bX_isBlock 81 = .ok (.iload_n 1, 1) := by decide +kernel
theorem dX_isBlock_82 : decode bX_isBlock 82 = .ok (.invokestatic 128, 3) := by decide +kernel
theorem dX_isBlock_85 : decode bX_isBlock 85 = .ok (.ifCond .eq 14, 3) := by decide +kernel
theorem dX_isBlock_88 : decode bX_isBlock 88 = .ok (.iload_n 2, 1) := by decide +kernel
theorem dX_isBlock_89 : decode bX_isBlock 89 = .ok (.invokestatic 128, 3) := by decide +kernel
theorem dX_isBlock_92 : decode bX_isBlock 92 = .ok (.ifCond .eq 7, 3) := by decide +kernel
theorem dX_isBlock_95 : decode bX_isBlock 95 = .ok (.iconst 1, 1) := by decide +kernel
theorem dX_isBlock_96 : decode bX_isBlock 96 = .ok (.goto 4, 3) := by decide +kernel
theorem dX_isBlock_99 : decode bX_isBlock 99 = .ok (.iconst 0, 1) := by decide +kernel
theorem dX_isBlock_100 : decode bX_isBlock 100 = .ok (.ireturn, 1) := by decide +kernel
theorem dX_isBlock_101 : decode bX_isBlock 101 = .ok (.iconst 0, 1) := by decide +kernel
theorem dX_isBlock_102 : decode bX_isBlock 102 = .ok (.ireturn, 1) := by decide +kernel
theorem dX_isStep_0 : decode bX_isStep 0 = .ok (.iload_n 1, 1) := by decide +kernel
theorem dX_isStep_1 : decode bX_isStep 1 = .ok (.tableswitch 106 0 13 #[71, 71, 71, 71, 71, 71, 76, 76, 78, 86, 92, 92, 92, 101], 71) := by decide +kernel
theorem dX_isStep_72 : decode bX_isStep 72 = .ok (.iload_n 2, 1) := by decide +kernel
theorem dX_isStep_73 : decode bX_isStep 73 = .ok (.invokestatic 137, 3) := by decide +kernel
theorem dX_isStep_76 : decode bX_isStep 76 = .ok (.ireturn, 1) := by decide +kernel
theorem dX_isStep_77 : decode bX_isStep 77 = .ok (.iconst 1, 1) := by decide +kernel
theorem dX_isStep_78 : decode bX_isStep 78 = .ok (.ireturn, 1) := by decide +kernel
theorem dX_isStep_79 : decode bX_isStep 79 = .ok (.iload_n 2, 1) := by decide +kernel
theorem dX_isStep_80 : decode bX_isStep 80 = .ok (.iconst 0, 1) := by decide +kernel
theorem dX_isStep_81 : decode bX_isStep 81 = .ok (.bipush 63, 2) := by decide +kernel
theorem dX_isStep_83 : decode bX_isStep 83 = .ok (.invokestatic 121, 3) := by decide +kernel
theorem dX_isStep_86 : decode bX_isStep 86 = .ok (.ireturn, 1) := by decide +kernel
theorem dX_isStep_87 : decode bX_isStep 87 = .ok (.aload_n 0, 1) := by decide +kernel
theorem dX_isStep_88 : decode bX_isStep 88 = .ok (.iload_n 2, 1) := by decide +kernel
theorem dX_isStep_89 : decode bX_isStep 89 = .ok (.invokevirtual 61, 3) := by decide +kernel
theorem dX_isStep_92 : decode bX_isStep 92 = .ok (.ireturn, 1) := by decide +kernel
theorem dX_isStep_93 : decode bX_isStep 93 = .ok (.iload_n 2, 1) := by decide +kernel
theorem dX_isStep_94 : decode bX_isStep 94 = .ok (.bipush 8, 2) := by decide +kernel
theorem dX_isStep_96 : decode bX_isStep 96 = .ok (.bipush 31, 2) := by decide +kernel
theorem dX_isStep_98 : decode bX_isStep 98 = .ok (.invokestatic 121, 3) := by decide +kernel
theorem dX_isStep_101 : decode bX_isStep 101 = .ok (.ireturn, 1) := by decide +kernel
theorem dX_isStep_102 : decode bX_isStep 102 = .ok (.iload_n 2, 1) := by decide +kernel
theorem dX_isStep_103 : decode bX_isStep 103 = .ok (.invokestatic 92, 3) := by decide +kernel
theorem dX_isStep_106 : decode bX_isStep 106 = .ok (.ireturn, 1) := by decide +kernel
theorem dX_isStep_107 : decode bX_isStep 107 = .ok (.iconst 0, 1) := by decide +kernel
theorem dX_isStep_108 : decode bX_isStep 108 = .ok (.ireturn, 1) := by decide +kernel
theorem dX_isInRange_0 : decode bX_isInRange 0 = .ok (.dload_n 0, 1) := by decide +kernel
theorem dX_isInRange_1 : decode bX_isInRange 1 = .ok (.ldc2_w 171, 3) := by decide +kernel
theorem dX_isInRange_4 : decode bX_isInRange 4 = .ok (.dcmp .l, 1) := by decide +kernel
theorem dX_isInRange_5 : decode bX_isInRange 5 = .ok (.ifCond .lt 15, 3) := by decide +kernel
theorem dX_isInRange_8 : decode bX_isInRange 8 = .ok (.dload_n 0, 1) := by decide +kernel
theorem dX_isInRange_9 : decode bX_isInRange 9 = .ok (.ldc2_w 173, 3) := by decide +kernel
theorem dX_isInRange_12 : decode bX_isInRange 12 = .ok (.dcmp .g, 1) := by decide +kernel
theorem dX_isInRange_13 : decode bX_isInRange 13 = .ok (.ifCond .gt 7, 3) := by decide +kernel
theorem dX_isInRange_16 : decode bX_isInRange 16 = .ok (.iconst 1, 1) := by decide +kernel
theorem dX_isInRange_17 : decode bX_isInRange 17 = .ok (.goto 4, 3) := by decide +kernel
theorem dX_isInRange_20 : decode bX_isInRange 20 = .ok (.iconst 0, 1) := by decide +kernel
theorem dX_isInRange_21 : decode bX_isInRange 21 = .ok (.ireturn, 1) := by decide +kernel
theorem dX_isWholeEighths_0 : decode bX_isWholeEighths 0 = .ok (.dload_n 0, 1) := by decide +kernel
theorem dX_isWholeEighths_1 : decode bX_isWholeEighths 1 = .ok (.invokestatic 131, 3) := by decide +kernel
theorem dX_isWholeEighths_4 : decode bX_isWholeEighths 4 = .ok (.ifCond .eq 19, 3) := by decide +kernel
theorem dX_isWholeEighths_7 : decode bX_isWholeEighths 7 = .ok (.dload_n 0, 1) := by decide +kernel
theorem dX_isWholeEighths_8 : decode bX_isWholeEighths 8 = .ok (.invokestatic 85, 3) := by decide +kernel
theorem dX_isWholeEighths_11 : decode bX_isWholeEighths 11 = .ok (.invokestatic 81, 3) := by decide +kernel
theorem dX_isWholeEighths_14 : decode bX_isWholeEighths 14 = .ok (.dload_n 0, 1) := by decide +kernel
theorem dX_isWholeEighths_15 : decode bX_isWholeEighths 15 = .ok (.dcmp .l, 1) := by decide +kernel
theorem dX_isWholeEighths_16 : decode bX_isWholeEighths 16 = .ok (.ifCond .ne 7, 3) := by decide +kernel
theorem dX_isWholeEighths_19 : decode bX_isWholeEighths 19 = .ok (.iconst 1, 1) := by decide +kernel
theorem dX_isWholeEighths_20 : decode bX_isWholeEighths 20 = .ok (.goto 4, 3) := by decide +kernel
theorem dX_isWholeEighths_23 : decode bX_isWholeEighths 23 = .ok (.iconst 0, 1) := by decide +kernel
theorem dX_isWholeEighths_24 : decode bX_isWholeEighths 24 = .ok (.ireturn, 1) := by decide +kernel
theorem dX_eighthsAtMost_0 : decode bX_eighthsAtMost 0 = .ok (.dload_n 0, 1) := by decide +kernel
theorem dX_eighthsAtMost_1 : decode bX_eighthsAtMost 1 = .ok (.ldc2_w 175, 3) := by decide +kernel
theorem dX_eighthsAtMost_4 : decode bX_eighthsAtMost 4 = .ok (.dmul, 1) := by decide +kernel
theorem dX_eighthsAtMost_5 : decode bX_eighthsAtMost 5 = .ok (.dstore_n 2, 1) := by decide +kernel
theorem dX_eighthsAtMost_6 : decode bX_eighthsAtMost 6 = .ok (.dload_n 2, 1) := by decide +kernel
theorem dX_eighthsAtMost_7 : decode bX_eighthsAtMost 7 = .ok (.d2i, 1) := by decide +kernel
theorem dX_eighthsAtMost_8 : decode bX_eighthsAtMost 8 = .ok (.istore 4, 2) := by decide +kernel
theorem dX_eighthsAtMost_10 : decode bX_eighthsAtMost 10 = .ok (.iload 4, 2) := by decide +kernel
theorem dX_eighthsAtMost_12 : decode bX_eighthsAtMost 12 = .ok (.i2d, 1) := by decide +kernel
theorem dX_eighthsAtMost_13 : decode bX_eighthsAtMost 13 = .ok (.dload_n 2, 1) := by decide +kernel
theorem dX_eighthsAtMost_14 : decode bX_eighthsAtMost 14 = .ok (.dcmp .l, 1) := by decide +kernel
theorem dX_eighthsAtMost_15 : decode bX_eighthsAtMost 15 = .ok (.ifCond .le 10, 3) := by decide +kernel
theorem dX_eighthsAtMost_18 : decode bX_eighthsAtMost 18 = .ok (.iload 4, 2) := by decide +kernel
theorem dX_eighthsAtMost_20 : decode bX_eighthsAtMost 20 = .ok (.iconst 1, 1) := by decide +kernel
theorem dX_eighthsAtMost_21 : decode bX_eighthsAtMost 21 = .ok (.isub, 1) := by decide +kernel
theorem dX_eighthsAtMost_22 : decode bX_eighthsAtMost 22 = .ok (.goto 5, 3) := by decide +kernel
theorem dX_eighthsAtMost_25 : decode bX_eighthsAtMost 25 = .ok (.iload 4, 2) := by decide +kernel
theorem dX_eighthsAtMost_27 : decode bX_eighthsAtMost 27 = .ok (.ireturn, 1) := by decide +kernel
theorem dX_numberOf_0 : decode bX_numberOf 0 = .ok (.iload_n 0, 1) := by decide +kernel
theorem dX_numberOf_1 : decode bX_numberOf 1 = .ok (.i2d, 1) := by decide +kernel
theorem dX_numberOf_2 : decode bX_numberOf 2 = .ok (.ldc2_w 175, 3) := by decide +kernel
theorem dX_numberOf_5 : decode bX_numberOf 5 = .ok (.ddiv, 1) := by decide +kernel
theorem dX_numberOf_6 : decode bX_numberOf 6 = .ok (.dreturn, 1) := by decide +kernel
theorem dX_scanOnce_0 : decode bX_scanOnce 0 = .ok (.aload_n 0, 1) := by decide +kernel
theorem dX_scanOnce_1 : decode bX_scanOnce 1 = .ok (.getfield 12, 3) := by decide +kernel
theorem dX_scanOnce_4 : decode bX_scanOnce 4 = .ok (.invokevirtual 177, 3) := by decide +kernel
theorem dX_scanOnce_7 : decode bX_scanOnce 7 = .ok (.aload_n 0, 1) := by decide +kernel
theorem dX_scanOnce_8 : decode bX_scanOnce 8 = .ok (.invokevirtual 180, 3) := by decide +kernel
theorem dX_scanOnce_11 : decode bX_scanOnce 11 = .ok (.istore_n 1, 1) := by decide +kernel
theorem dX_scanOnce_12 : decode bX_scanOnce 12 = .ok (.iload_n 1, 1) := by decide +kernel
theorem dX_scanOnce_13 : decode bX_scanOnce 13 = .ok (.ifCond .ge 28, 3) := by decide +kernel
theorem dX_scanOnce_16 : decode bX_scanOnce 16 = .ok (.aload_n 0, 1) := by decide +kernel
theorem dX_scanOnce_17 : decode bX_scanOnce 17 = .ok (.iconst 1, 1) := by decide +kernel
theorem dX_scanOnce_18 : decode bX_scanOnce 18 = .ok (.putfield 42, 3) := by decide +kernel
theorem dX_scanOnce_21 : decode bX_scanOnce 21 = .ok (.aload_n 0, 1) := by decide +kernel
theorem dX_scanOnce_22 : decode bX_scanOnce 22 = .ok (.dup, 1) := by decide +kernel
theorem dX_scanOnce_23 : decode bX_scanOnce 23 = .ok (.getfield 39, 3) := by decide +kernel
theorem dX_scanOnce_26 : decode bX_scanOnce 26 = .ok (.iconst 1, 1) := by decide +kernel
theorem dX_scanOnce_27 : decode bX_scanOnce 27 = .ok (.iadd, 1) := by decide +kernel
theorem dX_scanOnce_28 : decode bX_scanOnce 28 = .ok (.putfield 39, 3) := by decide +kernel
theorem dX_scanOnce_31 : decode bX_scanOnce 31 = .ok (.aload_n 0, 1) := by decide +kernel
theorem dX_scanOnce_32 : decode bX_scanOnce 32 = .ok (.getfield 12, 3) := by decide +kernel
theorem dX_scanOnce_35 : decode bX_scanOnce 35 = .ok (.invokevirtual 183, 3) := by decide +kernel
theorem dX_scanOnce_38 : decode bX_scanOnce 38 = .ok (.goto 20, 3) := by decide +kernel
theorem dX_scanOnce_41 : decode bX_scanOnce 41 = .ok (.aload_n 0, 1) := by decide +kernel
theorem dX_scanOnce_42 : decode bX_scanOnce 42 = .ok (.dup, 1) := by decide +kernel
theorem dX_scanOnce_43 : decode bX_scanOnce 43 = .ok (.getfield 36, 3) := by decide +kernel
theorem dX_scanOnce_46 : decode bX_scanOnce 46 = .ok (.iconst 1, 1) := by decide +kernel
theorem dX_scanOnce_47 : decode bX_scanOnce 47 = .ok (.iadd, 1) := by decide +kernel
theorem dX_scanOnce_48 : decode bX_scanOnce 48 = .ok (.putfield 36, 3) := by decide +kernel
theorem dX_scanOnce_51 : decode bX_scanOnce 51 = .ok (.aload_n 0, 1) := by decide +kernel
theorem dX_scanOnce_52 : decode bX_scanOnce 52 = .ok (.getfield 12, 3) := by decide +kernel
theorem dX_scanOnce_55 : decode bX_scanOnce 55 = .ok (.invokevirtual 186, 3) := by decide +kernel
theorem dX_scanOnce_58 : decode bX_scanOnce 58 = .ok (.iload_n 1, 1) := by decide +kernel
theorem dX_scanOnce_59 : decode bX_scanOnce 59 = .ok (.ireturn, 1) := by decide +kernel
theorem dX_runProgram_0 : decode bX_runProgram 0 = .ok (.iconst 0, 1) := by decide +kernel
theorem dX_runProgram_1 : decode bX_runProgram 1 = .ok (.istore_n 1, 1) := by decide +kernel
theorem dX_runProgram_2 : decode bX_runProgram 2 = .ok (.iconst 0, 1) := by decide +kernel
theorem dX_runProgram_3 : decode bX_runProgram 3 = .ok (.istore_n 2, 1) := by decide +kernel
theorem dX_runProgram_4 : decode bX_runProgram 4 = .ok (.iload_n 1, 1) := by decide +kernel
theorem dX_runProgram_5 : decode bX_runProgram 5 = .ok (.bipush 12, 2) := by decide +kernel
theorem dX_runProgram_7 : decode bX_runProgram 7 = .ok (.if_icmp .ge 24, 3) := by decide +kernel
theorem dX_runProgram_10 : decode bX_runProgram 10 = .ok (.iload_n 2, 1) := by decide +kernel
theorem dX_runProgram_11 : decode bX_runProgram 11 = .ok (.bipush 30, 2) := by decide +kernel
theorem dX_runProgram_13 : decode bX_runProgram 13 = .ok (.if_icmp .ge 18, 3) := by decide +kernel
theorem dX_runProgram_16 : decode bX_runProgram 16 = .ok (.iinc 2 1, 3) := by decide +kernel
theorem dX_runProgram_19 : decode bX_runProgram 19 = .ok (.aload_n 0, 1) := by decide +kernel
theorem dX_runProgram_20 : decode bX_runProgram 20 = .ok (.iload_n 1, 1) := by decide +kernel
theorem dX_runProgram_21 : decode bX_runProgram 21 = .ok (.invokevirtual 189, 3) := by decide +kernel
theorem dX_runProgram_24 : decode bX_runProgram 24 = .ok (.istore_n 1, 1) := by decide +kernel
theorem dX_runProgram_25 : decode bX_runProgram 25 = .ok (.iload_n 1, 1) := by decide +kernel
theorem dX_runProgram_26 : decode bX_runProgram 26 = .ok (.ifCond .ge (-22), 3) := by decide +kernel
theorem dX_runProgram_29 : decode bX_runProgram 29 = .ok (.iload_n 1, 1) := by decide +kernel
theorem dX_runProgram_30 : decode bX_runProgram 30 = .ok (.ireturn, 1) := by decide +kernel
theorem dX_runProgram_31 : decode bX_runProgram 31 = .ok (.iload_n 1, 1) := by decide +kernel
theorem dX_runProgram_32 : decode bX_runProgram 32 = .ok (.bipush 12, 2) := by decide +kernel
theorem dX_runProgram_34 : decode bX_runProgram 34 = .ok (.if_icmp .ge 7, 3) := by decide +kernel
theorem dX_runProgram_37 : decode bX_runProgram 37 = .ok (.iconst (-1), 1) := by decide +kernel
theorem dX_runProgram_38 : decode bX_runProgram 38 = .ok (.goto 4, 3) := by decide +kernel
theorem dX_runProgram_41 : decode bX_runProgram 41 = .ok (.iload_n 2, 1) := by decide +kernel
theorem dX_runProgram_42 : decode bX_runProgram 42 = .ok (.ireturn, 1) := by decide +kernel
theorem dX_runRung_0 : decode bX_runRung 0 = .ok (.iconst 0, 1) := by decide +kernel
theorem dX_runRung_1 : decode bX_runRung 1 = .ok (.istore_n 2, 1) := by decide +kernel
theorem dX_runRung_2 : decode bX_runRung 2 = .ok (.aload_n 0, 1) := by decide +kernel
theorem dX_runRung_3 : decode bX_runRung 3 = .ok (.getfield 29, 3) := by decide +kernel
theorem dX_runRung_6 : decode bX_runRung 6 = .ok (.getfield 192, 3) := by decide +kernel
theorem dX_runRung_9 : decode bX_runRung 9 = .ok (.iload_n 1, 1) := by decide +kernel
theorem dX_runRung_10 : decode bX_runRung 10 = .ok (.iaload, 1) := by decide +kernel
theorem dX_runRung_11 : decode bX_runRung 11 = .ok (.istore_n 3, 1) := by decide +kernel
theorem dX_runRung_12 : decode bX_runRung 12 = .ok (.iconst 0, 1) := by decide +kernel
theorem dX_runRung_13 : decode bX_runRung 13 = .ok (.istore 4, 2) := by decide +kernel
theorem dX_runRung_15 : decode bX_runRung 15 = .ok (.iload 4, 2) := by decide +kernel
theorem dX_runRung_17 : decode bX_runRung 17 = .ok (.iload_n 3, 1) := by decide +kernel
theorem dX_runRung_18 : decode bX_runRung 18 = .ok (.if_icmp .ge 146, 3) := by decide +kernel
theorem dX_runRung_21 : decode bX_runRung 21 = .ok (.aload_n 0, 1) := by decide +kernel
theorem dX_runRung_22 : decode bX_runRung 22 = .ok (.getfield 29, 3) := by decide +kernel
theorem dX_runRung_25 : decode bX_runRung 25 = .ok (.getfield 195, 3) := by decide +kernel
theorem dX_runRung_28 : decode bX_runRung 28 = .ok (.iload_n 1, 1) := by decide +kernel
theorem dX_runRung_29 : decode bX_runRung 29 = .ok (.bipush 10, 2) := by decide +kernel
theorem dX_runRung_31 : decode bX_runRung 31 = .ok (.imul, 1) := by decide +kernel
theorem dX_runRung_32 : decode bX_runRung 32 = .ok (.iload 4, 2) := by decide +kernel
theorem dX_runRung_34 : decode bX_runRung 34 = .ok (.iadd, 1) := by decide +kernel
theorem dX_runRung_35 : decode bX_runRung 35 = .ok (.iaload, 1) := by decide +kernel
theorem dX_runRung_36 : decode bX_runRung 36 = .ok (.istore 5, 2) := by decide +kernel
theorem dX_runRung_38 : decode bX_runRung 38 = .ok (.aload_n 0, 1) := by decide +kernel
theorem dX_runRung_39 : decode bX_runRung 39 = .ok (.getfield 29, 3) := by decide +kernel
theorem dX_runRung_42 : decode bX_runRung 42 = .ok (.getfield 198, 3) := by decide +kernel
theorem dX_runRung_45 : decode bX_runRung 45 = .ok (.iload_n 1, 1) := by decide +kernel
theorem dX_runRung_46 : decode bX_runRung 46 = .ok (.bipush 10, 2) := by decide +kernel
theorem dX_runRung_48 : decode bX_runRung 48 = .ok (.imul, 1) := by decide +kernel
theorem dX_runRung_49 : decode bX_runRung 49 = .ok (.iload 4, 2) := by decide +kernel
theorem dX_runRung_51 : decode bX_runRung 51 = .ok (.iadd, 1) := by decide +kernel
theorem dX_runRung_52 : decode bX_runRung 52 = .ok (.iaload, 1) := by decide +kernel
theorem dX_runRung_53 : decode bX_runRung 53 = .ok (.istore 6, 2) := by decide +kernel
theorem dX_runRung_55 : decode bX_runRung 55 = .ok (.iload_n 2, 1) := by decide +kernel
theorem dX_runRung_56 : decode bX_runRung 56 = .ok (.iconst 1, 1) := by decide +kernel
theorem dX_runRung_57 : decode bX_runRung 57 = .ok (.iand, 1) := by decide +kernel
theorem dX_runRung_58 : decode bX_runRung 58 = .ok (.istore 7, 2) := by decide +kernel
theorem dX_runRung_60 : decode bX_runRung 60 = .ok (.iload 5, 2) := by decide +kernel
theorem dX_runRung_62 : decode bX_runRung 62 = .ok (.bipush 13, 2) := by decide +kernel
theorem dX_runRung_64 : decode bX_runRung 64 = .ok (.if_icmp .ne 12, 3) := by decide +kernel
theorem dX_runRung_67 : decode bX_runRung 67 = .ok (.iload 7, 2) := by decide +kernel
theorem dX_runRung_69 : decode bX_runRung 69 = .ok (.iconst 1, 1) := by decide +kernel
theorem dX_runRung_70 : decode bX_runRung 70 = .ok (.if_icmp .ne 88, 3) := by decide +kernel
theorem dX_runRung_73 : decode bX_runRung 73 = .ok (.iload 6, 2) := by decide +kernel
theorem dX_runRung_75 : decode bX_runRung 75 = .ok (.ireturn, 1) := by decide +kernel
theorem dX_runRung_76 : decode bX_runRung 76 = .ok (.iload 5, 2) := by decide +kernel
theorem dX_runRung_78 : decode bX_runRung 78 = .ok (.bipush 9, 2) := by decide +kernel
theorem dX_runRung_80 : decode bX_runRung 80 = .ok (.if_icmp .ne 45, 3) := by decide +kernel
theorem dX_runRung_83 : decode bX_runRung 83 = .ok (.aload_n 0, 1) := by decide +kernel
theorem dX_runRung_84 : decode bX_runRung 84 = .ok (.getfield 18, 3) := by decide +kernel
theorem dX_runRung_87 : decode bX_runRung 87 = .ok (.iload 6, 2) := by decide +kernel
theorem dX_runRung_89 : decode bX_runRung 89 = .ok (.aaload, 1) := by decide +kernel
theorem dX_runRung_90 : decode bX_runRung 90 = .ok (.iload 7, 2) := by decide +kernel
theorem dX_runRung_92 : decode bX_runRung 92 = .ok (.invokevirtual 201, 3) := by decide +kernel
theorem dX_runRung_95 : decode bX_runRung 95 = .ok (.ifCond .eq 6, 3) := by decide +kernel
theorem dX_runRung_98 : decode bX_runRung 98 = .ok (.bipush (-2), 2) := by decide +kernel
theorem dX_runRung_100 : decode bX_runRung 100 = .ok (.ireturn, 1) := by decide +kernel
theorem dX_runRung_101 : decode bX_runRung 101 = .ok (.iload_n 2, 1) := by decide +kernel
theorem dX_runRung_102 : decode bX_runRung 102 = .ok (.aload_n 0, 1) := by decide +kernel
theorem dX_runRung_103 : decode bX_runRung 103 = .ok (.getfield 18, 3) := by decide +kernel
theorem dX_runRung_106 : decode bX_runRung 106 = .ok (.iload 6, 2) := by decide +kernel
theorem dX_runRung_108 : decode bX_runRung 108 = .ok (.aaload, 1) := by decide +kernel
theorem dX_runRung_109 : decode bX_runRung 109 = .ok (.iload 7, 2) := by decide +kernel
theorem dX_runRung_111 : decode bX_runRung 111 = .ok (.aload_n 0, 1) := by decide +kernel
theorem dX_runRung_112 : decode bX_runRung 112 = .ok (.getfield 12, 3) := by decide +kernel
theorem dX_runRung_115 : decode bX_runRung 115 = .ok (.invokevirtual 204, 3) := by decide +kernel
theorem dX_runRung_118 : decode bX_runRung 118 = .ok (.invokestatic 208, 3) := by decide +kernel
theorem dX_runRung_121 : decode bX_runRung 121 = .ok (.istore_n 2, 1) := by decide +kernel
theorem dX_runRung_122 : decode bX_runRung 122 = .ok (.goto 36, 3) := by decide +kernel
theorem dX_runRung_125 : decode bX_runRung 125 = .ok (.iload 5, 2) := by decide +kernel
theorem dX_runRung_127 : decode bX_runRung 127 = .ok (.bipush 10, 2) := by decide +kernel
theorem dX_runRung_129 : decode bX_runRung 129 = .ok (.if_icmp .lt 19, 3) := by decide +kernel
theorem dX_runRung_132 : decode bX_runRung 132 = .ok (.aload_n 0, 1) := by decide +kernel
theorem dX_runRung_133 : decode bX_runRung 133 = .ok (.getfield 12, 3) := by decide +kernel
theorem dX_runRung_136 : decode bX_runRung 136 = .ok (.iload 5, 2) := by decide +kernel
theorem dX_runRung_138 : decode bX_runRung 138 = .ok (.iload 6, 2) := by decide +kernel
theorem dX_runRung_140 : decode bX_runRung 140 = .ok (.iload 7, 2) := by decide +kernel
theorem dX_runRung_142 : decode bX_runRung 142 = .ok (.invokevirtual 212, 3) := by decide +kernel
theorem dX_runRung_145 : decode bX_runRung 145 = .ok (.goto 13, 3) := by decide +kernel
theorem dX_runRung_148 : decode bX_runRung 148 = .ok (.aload_n 0, 1) := by decide +kernel
theorem dX_runRung_149 : decode bX_runRung 149 = .ok (.iload_n 2, 1) := by decide +kernel
theorem dX_runRung_150 : decode bX_runRung 150 = .ok (.iload 5, 2) := by decide +kernel
theorem dX_runRung_152 : decode bX_runRung 152 = .ok (.iload 6, 2) := by decide +kernel
theorem dX_runRung_154 : decode bX_runRung 154 = .ok (.invokevirtual 215, 3) := by decide +kernel
theorem dX_runRung_157 : decode bX_runRung 157 = .ok (.istore_n 2, 1) := by decide +kernel
theorem dX_runRung_158 : decode bX_runRung 158 = .ok (.iinc 4 1, 3) := by decide +kernel
theorem dX_runRung_161 : decode bX_runRung 161 = .ok (.goto (-146), 3) := by decide +kernel
theorem dX_runRung_164 : decode bX_runRung 164 = .ok (.iload_n 1, 1) := by decide +kernel
theorem dX_runRung_165 : decode bX_runRung 165 = .ok (.iconst 1, 1) := by decide +kernel
theorem dX_runRung_166 : decode bX_runRung 166 = .ok (.iadd, 1) := by decide +kernel
theorem dX_runRung_167 : decode bX_runRung 167 = .ok (.ireturn, 1) := by decide +kernel
theorem dX_stackAfter_0 : decode bX_stackAfter 0 = .ok (.iload_n 2, 1) := by decide +kernel
theorem dX_stackAfter_1 : decode bX_stackAfter 1 = .ok (.tableswitch 203 0 8 #[51, 64, 79, 94, 111, 128, 147, 161, 175], 51) := by decide +kernel
theorem dX_stackAfter_52 : decode bX_stackAfter 52 = .ok (.iload_n 1, 1) := by decide +kernel
theorem dX_stackAfter_53 : decode bX_stackAfter 53 = .ok (.aload_n 0, 1) := by decide +kernel
theorem dX_stackAfter_54 : decode bX_stackAfter 54 = .ok (.getfield 12, 3) := by decide +kernel
theorem dX_stackAfter_57 : decode bX_stackAfter 57 = .ok (.iload_n 3, 1) := by decide +kernel
theorem dX_stackAfter_58 : decode bX_stackAfter 58 = .ok (.invokevirtual 156, 3) := by decide +kernel
theorem dX_stackAfter_61 : decode bX_stackAfter 61 = .ok (.invokestatic 218, 3) := by decide +kernel
theorem dX_stackAfter_64 : decode bX_stackAfter 64 = .ok (.ireturn, 1) := by decide +kernel
theorem dX_stackAfter_65 : decode bX_stackAfter 65 = .ok (.iload_n 1, 1) := by decide +kernel
theorem dX_stackAfter_66 : decode bX_stackAfter 66 = .ok (.iconst 1, 1) := by decide +kernel
theorem dX_stackAfter_67 : decode bX_stackAfter 67 = .ok (.aload_n 0, 1) := by decide +kernel
theorem dX_stackAfter_68 : decode bX_stackAfter 68 = .ok (.getfield 12, 3) := by decide +kernel
theorem dX_stackAfter_71 : decode bX_stackAfter 71 = .ok (.iload_n 3, 1) := by decide +kernel
theorem dX_stackAfter_72 : decode bX_stackAfter 72 = .ok (.invokevirtual 156, 3) := by decide +kernel
theorem dX_stackAfter_75 : decode bX_stackAfter 75 = .ok (.isub, 1) := by decide +kernel
theorem dX_stackAfter_76 : decode bX_stackAfter 76 = .ok (.invokestatic 218, 3) := by decide +kernel
theorem dX_stackAfter_79 : decode bX_stackAfter 79 = .ok (.ireturn, 1) := by decide +kernel
theorem dX_stackAfter_80 : decode bX_stackAfter 80 = .ok (.iload_n 1, 1) := by decide +kernel
theorem dX_stackAfter_81 : decode bX_stackAfter 81 = .ok (.iload_n 1, 1) := by decide +kernel
theorem dX_stackAfter_82 : decode bX_stackAfter 82 = .ok (.aload_n 0, 1) := by decide +kernel
theorem dX_stackAfter_83 : decode bX_stackAfter 83 = .ok (.getfield 12, 3) := by decide +kernel
theorem dX_stackAfter_86 : decode bX_stackAfter 86 = .ok (.iload_n 3, 1) := by decide +kernel
theorem dX_stackAfter_87 : decode bX_stackAfter 87 = .ok (.invokevirtual 156, 3) := by decide +kernel
theorem dX_stackAfter_90 : decode bX_stackAfter 90 = .ok (.iand, 1) := by decide +kernel
theorem dX_stackAfter_91 : decode bX_stackAfter 91 = .ok (.invokestatic 208, 3) := by decide +kernel
theorem dX_stackAfter_94 : decode bX_stackAfter 94 = .ok (.ireturn, 1) := by decide +kernel
theorem dX_stackAfter_95 : decode bX_stackAfter 95 = .ok (.iload_n 1, 1) := by decide +kernel
theorem dX_stackAfter_96 : decode bX_stackAfter 96 = .ok (.iload_n 1, 1) := by decide +kernel
theorem dX_stackAfter_97 : decode bX_stackAfter 97 = .ok (.iconst 1, 1) := by decide +kernel
theorem dX_stackAfter_98 : decode bX_stackAfter 98 = .ok (.aload_n 0, 1) := by decide +kernel
theorem dX_stackAfter_99 : decode bX_stackAfter 99 = .ok (.getfield 12, 3) := by decide +kernel
theorem dX_stackAfter_102 : decode bX_stackAfter 102 = .ok (.iload_n 3, 1) := by decide +kernel
theorem dX_stackAfter_103 : decode bX_stackAfter 103 = .ok (.invokevirtual 156, 3) := by decide +kernel
theorem dX_stackAfter_106 : decode bX_stackAfter 106 = .ok (.isub, 1) := by decide +kernel
theorem dX_stackAfter_107 : decode bX_stackAfter 107 = .ok (.iand, 1) := by decide +kernel
theorem dX_stackAfter_108 : decode bX_stackAfter 108 = .ok (.invokestatic 208, 3) := by decide +kernel
theorem dX_stackAfter_111 : decode bX_stackAfter 111 = .ok (.ireturn, 1) := by decide +kernel
theorem dX_stackAfter_112 : decode bX_stackAfter 112 = .ok (.iload_n 1, 1) := by decide +kernel
theorem dX_stackAfter_113 : decode bX_stackAfter 113 = .ok (.iload_n 1, 1) := by decide +kernel
theorem dX_stackAfter_114 : decode bX_stackAfter 114 = .ok (.iconst 1, 1) := by decide +kernel
theorem dX_stackAfter_115 : decode bX_stackAfter 115 = .ok (.iand, 1) := by decide +kernel
theorem dX_stackAfter_116 : decode bX_stackAfter 116 = .ok (.aload_n 0, 1) := by decide +kernel
theorem dX_stackAfter_117 : decode bX_stackAfter 117 = .ok (.getfield 12, 3) := by decide +kernel
theorem dX_stackAfter_120 : decode bX_stackAfter 120 = .ok (.iload_n 3, 1) := by decide +kernel
theorem dX_stackAfter_121 : decode bX_stackAfter 121 = .ok (.invokevirtual 156, 3) := by decide +kernel
theorem dX_stackAfter_124 : decode bX_stackAfter 124 = .ok (.ior, 1) := by decide +kernel
theorem dX_stackAfter_125 : decode bX_stackAfter 125 = .ok (.invokestatic 208, 3) := by decide +kernel
theorem dX_stackAfter_128 : decode bX_stackAfter 128 = .ok (.ireturn, 1) := by decide +kernel
theorem dX_stackAfter_129 : decode bX_stackAfter 129 = .ok (.iload_n 1, 1) := by decide +kernel
theorem dX_stackAfter_130 : decode bX_stackAfter 130 = .ok (.iload_n 1, 1) := by decide +kernel
theorem dX_stackAfter_131 : decode bX_stackAfter 131 = .ok (.iconst 1, 1) := by decide +kernel
theorem dX_stackAfter_132 : decode bX_stackAfter 132 = .ok (.iand, 1) := by decide +kernel
theorem dX_stackAfter_133 : decode bX_stackAfter 133 = .ok (.iconst 1, 1) := by decide +kernel
theorem dX_stackAfter_134 : decode bX_stackAfter 134 = .ok (.aload_n 0, 1) := by decide +kernel
theorem dX_stackAfter_135 : decode bX_stackAfter 135 = .ok (.getfield 12, 3) := by decide +kernel
theorem dX_stackAfter_138 : decode bX_stackAfter 138 = .ok (.iload_n 3, 1) := by decide +kernel
theorem dX_stackAfter_139 : decode bX_stackAfter 139 = .ok (.invokevirtual 156, 3) := by decide +kernel
theorem dX_stackAfter_142 : decode bX_stackAfter 142 = .ok (.isub, 1) := by decide +kernel
theorem dX_stackAfter_143 : decode bX_stackAfter 143 = .ok (.ior, 1) := by decide +kernel
theorem dX_stackAfter_144 : decode bX_stackAfter 144 = .ok (.invokestatic 208, 3) := by decide +kernel
theorem dX_stackAfter_147 : decode bX_stackAfter 147 = .ok (.ireturn, 1) := by decide +kernel
theorem dX_stackAfter_148 : decode bX_stackAfter 148 = .ok (.iload_n 1, 1) := by decide +kernel
theorem dX_stackAfter_149 : decode bX_stackAfter 149 = .ok (.iconst 1, 1) := by decide +kernel
theorem dX_stackAfter_150 : decode bX_stackAfter 150 = .ok (.ishr, 1) := by decide +kernel
theorem dX_stackAfter_151 : decode bX_stackAfter 151 = .ok (.iload_n 1, 1) := by decide +kernel
theorem dX_stackAfter_152 : decode bX_stackAfter 152 = .ok (.iconst 1, 1) := by decide +kernel
theorem dX_stackAfter_153 : decode bX_stackAfter 153 = .ok (.ishr, 1) := by decide +kernel
theorem dX_stackAfter_154 : decode bX_stackAfter 154 = .ok (.iload_n 1, 1) := by decide +kernel
theorem dX_stackAfter_155 : decode bX_stackAfter 155 = .ok (.iand, 1) := by decide +kernel
theorem dX_stackAfter_156 : decode bX_stackAfter 156 = .ok (.iconst 1, 1) := by decide +kernel
theorem dX_stackAfter_157 : decode bX_stackAfter 157 = .ok (.iand, 1) := by decide +kernel
theorem dX_stackAfter_158 : decode bX_stackAfter 158 = .ok (.invokestatic 208, 3) := by decide +kernel
theorem dX_stackAfter_161 : decode bX_stackAfter 161 = .ok (.ireturn, 1) := by decide +kernel
theorem dX_stackAfter_162 : decode bX_stackAfter 162 = .ok (.iload_n 1, 1) := by decide +kernel
theorem dX_stackAfter_163 : decode bX_stackAfter 163 = .ok (.iconst 1, 1) := by decide +kernel
theorem dX_stackAfter_164 : decode bX_stackAfter 164 = .ok (.ishr, 1) := by decide +kernel
theorem dX_stackAfter_165 : decode bX_stackAfter 165 = .ok (.iload_n 1, 1) := by decide +kernel
theorem dX_stackAfter_166 : decode bX_stackAfter 166 = .ok (.iconst 1, 1) := by decide +kernel
theorem dX_stackAfter_167 : decode bX_stackAfter 167 = .ok (.ishr, 1) := by decide +kernel
theorem dX_stackAfter_168 : decode bX_stackAfter 168 = .ok (.iload_n 1, 1) := by decide +kernel
theorem dX_stackAfter_169 : decode bX_stackAfter 169 = .ok (.ior, 1) := by decide +kernel
theorem dX_stackAfter_170 : decode bX_stackAfter 170 = .ok (.iconst 1, 1) := by decide +kernel
theorem dX_stackAfter_171 : decode bX_stackAfter 171 = .ok (.iand, 1) := by decide +kernel
theorem dX_stackAfter_172 : decode bX_stackAfter 172 = .ok (.invokestatic 208, 3) := by decide +kernel
theorem dX_stackAfter_175 : decode bX_stackAfter 175 = .ok (.ireturn, 1) := by decide +kernel
theorem dX_stackAfter_176 : decode bX_stackAfter 176 = .ok (.iload_n 1, 1) := by decide +kernel
theorem dX_stackAfter_177 : decode bX_stackAfter 177 = .ok (.aload_n 0, 1) := by decide +kernel
theorem dX_stackAfter_178 : decode bX_stackAfter 178 = .ok (.getfield 12, 3) := by decide +kernel
theorem dX_stackAfter_181 : decode bX_stackAfter 181 = .ok (.iload_n 3, 1) := by decide +kernel
theorem dX_stackAfter_182 : decode bX_stackAfter 182 = .ok (.bipush 8, 2) := by decide +kernel
theorem dX_stackAfter_184 : decode bX_stackAfter 184 = .ok (.idiv, 1) := by decide +kernel
theorem dX_stackAfter_185 : decode bX_stackAfter 185 = .ok (.iload_n 3, 1) := by decide +kernel
theorem dX_stackAfter_186 : decode bX_stackAfter 186 = .ok (.bipush 8, 2) := by decide +kernel
theorem dX_stackAfter_188 : decode bX_stackAfter 188 = .ok (.irem, 1) := by decide +kernel
theorem dX_stackAfter_189 : decode bX_stackAfter 189 = .ok (.invokevirtual 221, 3) := by decide +kernel
theorem dX_stackAfter_192 : decode bX_stackAfter 192 = .ok (.ifCond .eq 7, 3) := by decide +kernel
theorem dX_stackAfter_195 : decode bX_stackAfter 195 = .ok (.iconst 1, 1) := by decide +kernel
theorem dX_stackAfter_196 : decode bX_stackAfter 196 = .ok (.goto 4, 3) := by decide +kernel
theorem dX_stackAfter_199 : decode bX_stackAfter 199 = .ok (.iconst 0, 1) := by decide +kernel
theorem dX_stackAfter_200 : decode bX_stackAfter 200 = .ok (.invokestatic 218, 3) := by decide +kernel
theorem dX_stackAfter_203 : decode bX_stackAfter 203 = .ok (.ireturn, 1) := by decide +kernel
theorem dX_stackAfter_204 : decode bX_stackAfter 204 = .ok (.iload_n 1, 1) := by decide +kernel
theorem dX_stackAfter_205 : decode bX_stackAfter 205 = .ok (.ireturn, 1) := by decide +kernel
theorem dX_withPushed_0 : decode bX_withPushed 0 = .ok (.iload_n 0, 1) := by decide +kernel
theorem dX_withPushed_1 : decode bX_withPushed 1 = .ok (.iconst 1, 1) := by decide +kernel
theorem dX_withPushed_2 : decode bX_withPushed 2 = .ok (.ishl, 1) := by decide +kernel
theorem dX_withPushed_3 : decode bX_withPushed 3 = .ok (.iload_n 1, 1) := by decide +kernel
theorem dX_withPushed_4 : decode bX_withPushed 4 = .ok (.ior, 1) := by decide +kernel
theorem dX_withPushed_5 : decode bX_withPushed 5 = .ok (.ireturn, 1) := by decide +kernel
theorem dX_withTop_0 : decode bX_withTop 0 = .ok (.iload_n 0, 1) := by decide +kernel
theorem dX_withTop_1 : decode bX_withTop 1 = .ok (.bipush (-2), 2) := by decide +kernel
theorem dX_withTop_3 : decode bX_withTop 3 = .ok (.iand, 1) := by decide +kernel
theorem dX_withTop_4 : decode bX_withTop 4 = .ok (.iload_n 1, 1) := by decide +kernel
theorem dX_withTop_5 : decode bX_withTop 5 = .ok (.ior, 1) := by decide +kernel
theorem dX_withTop_6 : decode bX_withTop 6 = .ok (.ireturn, 1) := by decide +kernel
