/-! decode rows of LadderScanLaw -/
theorem dLw_block_0 : decode bLw_block 0 = .ok (.aload 4, 2) := by decide +kernel
theorem dLw_block_2 : decode bLw_block 2 = .ok (.iconst 0, 1) := by decide +kernel
theorem dLw_block_3 : decode bLw_block 3 = .ok (.aload_n 0, 1) := by decide +kernel
theorem dLw_block_4 : decode bLw_block 4 = .ok (.iload_n 1, 1) := by decide +kernel
theorem dLw_block_5 : decode bLw_block 5 = .ok (.iload_n 2, 1) := by decide +kernel
theorem dLw_block_6 : decode bLw_block 6 = .ok (.iload_n 3, 1) := by decide +kernel
theorem dLw_block_7 : decode bLw_block 7 = .ok (.invokevirtual 7, 3) := by decide +kernel
theorem dLw_block_10 : decode bLw_block 10 = .ok (.i2l, 1) := by decide +kernel
theorem dLw_block_11 : decode bLw_block 11 = .ok (.lastore, 1) := by decide +kernel
theorem dLw_block_12 : decode bLw_block 12 = .ok (.goto 11, 3) := by decide +kernel
theorem dLw_block_15 : decode bLw_block 15 = .ok (.astore 5, 2) := by decide +kernel
theorem dLw_block_17 : decode bLw_block 17 = .ok (.iconst 1, 1) := by decide +kernel
theorem dLw_block_18 : decode bLw_block 18 = .ok (.ireturn, 1) := by decide +kernel
theorem dLw_block_19 : decode bLw_block 19 = .ok (.astore 5, 2) := by decide +kernel
theorem dLw_block_21 : decode bLw_block 21 = .ok (.iconst 2, 1) := by decide +kernel
theorem dLw_block_22 : decode bLw_block 22 = .ok (.ireturn, 1) := by decide +kernel
theorem dLw_block_23 : decode bLw_block 23 = .ok (.iconst 0, 1) := by decide +kernel
theorem dLw_block_24 : decode bLw_block 24 = .ok (.ireturn, 1) := by decide +kernel
theorem dLw_tune_0 : decode bLw_tune 0 = .ok (.aload 6, 2) := by decide +kernel
theorem dLw_tune_2 : decode bLw_tune 2 = .ok (.iconst 0, 1) := by decide +kernel
theorem dLw_tune_3 : decode bLw_tune 3 = .ok (.aload_n 0, 1) := by decide +kernel
theorem dLw_tune_4 : decode bLw_tune 4 = .ok (.iload_n 1, 1) := by decide +kernel
theorem dLw_tune_5 : decode bLw_tune 5 = .ok (.dload_n 2, 1) := by decide +kernel
theorem dLw_tune_6 : decode bLw_tune 6 = .ok (.dload 4, 2) := by decide +kernel
theorem dLw_tune_8 : decode bLw_tune 8 = .ok (.invokevirtual 17, 3) := by decide +kernel
theorem dLw_tune_11 : decode bLw_tune 11 = .ok (.dastore, 1) := by decide +kernel
theorem dLw_tune_12 : decode bLw_tune 12 = .ok (.goto 15, 3) := by decide +kernel
theorem dLw_tune_15 : decode bLw_tune 15 = .ok (.astore 7, 2) := by decide +kernel
theorem dLw_tune_17 : decode bLw_tune 17 = .ok (.iconst 1, 1) := by decide +kernel
theorem dLw_tune_18 : decode bLw_tune 18 = .ok (.ireturn, 1) := by decide +kernel
theorem dLw_tune_19 : decode bLw_tune 19 = .ok (.astore 7, 2) := by decide +kernel
theorem dLw_tune_21 : decode bLw_tune 21 = .ok (.iconst 2, 1) := by decide +kernel
theorem dLw_tune_22 : decode bLw_tune 22 = .ok (.ireturn, 1) := by decide +kernel
theorem dLw_tune_23 : decode bLw_tune 23 = .ok (.astore 7, 2) := by decide +kernel
theorem dLw_tune_25 : decode bLw_tune 25 = .ok (.iconst 3, 1) := by decide +kernel
theorem dLw_tune_26 : decode bLw_tune 26 = .ok (.ireturn, 1) := by decide +kernel
theorem dLw_tune_27 : decode bLw_tune 27 = .ok (.iconst 0, 1) := by decide +kernel
theorem dLw_tune_28 : decode bLw_tune 28 = .ok (.ireturn, 1) := by decide +kernel
theorem dLw_step_0 : decode bLw_step 0 = .ok (.aload 4, 2) := by decide +kernel
theorem dLw_step_2 : decode bLw_step 2 = .ok (.iconst 0, 1) := by decide +kernel
theorem dLw_step_3 : decode bLw_step 3 = .ok (.aload_n 0, 1) := by decide +kernel
theorem dLw_step_4 : decode bLw_step 4 = .ok (.iload_n 1, 1) := by decide +kernel
theorem dLw_step_5 : decode bLw_step 5 = .ok (.iload_n 2, 1) := by decide +kernel
theorem dLw_step_6 : decode bLw_step 6 = .ok (.iload_n 3, 1) := by decide +kernel
theorem dLw_step_7 : decode bLw_step 7 = .ok (.invokevirtual 25, 3) := by decide +kernel
theorem dLw_step_10 : decode bLw_step 10 = .ok (.i2l, 1) := by decide +kernel
theorem dLw_step_11 : decode bLw_step 11 = .ok (.lastore, 1) := by decide +kernel
theorem dLw_step_12 : decode bLw_step 12 = .ok (.goto 15, 3) := by decide +kernel
theorem dLw_step_15 : decode bLw_step 15 = .ok (.astore 5, 2) := by decide +kernel
theorem dLw_step_17 : decode bLw_step 17 = .ok (.iconst 1, 1) := by decide +kernel
theorem dLw_step_18 : decode bLw_step 18 = .ok (.ireturn, 1) := by decide +kernel
theorem dLw_step_19 : decode bLw_step 19 = .ok (.astore 5, 2) := by decide +kernel
theorem dLw_step_21 : decode bLw_step 21 = .ok (.iconst 2, 1) := by decide +kernel
theorem dLw_step_22 : decode bLw_step 22 = .ok (.ireturn, 1) := by decide +kernel
theorem dLw_step_23 : decode bLw_step 23 = .ok (.astore 5, 2) := by decide +kernel
theorem dLw_step_25 : decode bLw_step 25 = .ok (.iconst 3, 1) := by decide +kernel
theorem dLw_step_26 : decode bLw_step 26 = .ok (.ireturn, 1) := by decide +kernel
theorem dLw_step_27 : decode bLw_step 27 = .ok (.iconst 0, 1) := by decide +kernel
theorem dLw_step_28 : decode bLw_step 28 = .ok (.ireturn, 1) := by decide +kernel
theorem dLw_erase_0 : decode bLw_erase 0 = .ok (.aload_n 2, 1) := by decide +kernel
theorem dLw_erase_1 : decode bLw_erase 1 = .ok (.iconst 0, 1) := by decide +kernel
theorem dLw_erase_2 : decode bLw_erase 2 = .ok (.aload_n 0, 1) := by decide +kernel
theorem dLw_erase_3 : decode bLw_erase 3 = .ok (.iload_n 1, 1) := by decide +kernel
theorem dLw_erase_4 : decode bLw_erase 4 = .ok (.invokevirtual 28, 3) := by decide +kernel
theorem dLw_erase_7 : decode bLw_erase 7 = .ok (.i2l, 1) := by decide +kernel
theorem dLw_erase_8 : decode bLw_erase 8 = .ok (.lastore, 1) := by decide +kernel
theorem dLw_erase_9 : decode bLw_erase 9 = .ok (.goto 6, 3) := by decide +kernel
theorem dLw_erase_12 : decode bLw_erase 12 = .ok (.astore_n 3, 1) := by decide +kernel
theorem dLw_erase_13 : decode bLw_erase 13 = .ok (.iconst 1, 1) := by decide +kernel
theorem dLw_erase_14 : decode bLw_erase 14 = .ok (.ireturn, 1) := by decide +kernel
theorem dLw_erase_15 : decode bLw_erase 15 = .ok (.iconst 0, 1) := by decide +kernel
theorem dLw_erase_16 : decode bLw_erase 16 = .ok (.ireturn, 1) := by decide +kernel
theorem dLw_wire_0 : decode bLw_wire 0 = .ok (.aload_n 3, 1) := by decide +kernel
theorem dLw_wire_1 : decode bLw_wire 1 = .ok (.iconst 0, 1) := by decide +kernel
theorem dLw_wire_2 : decode bLw_wire 2 = .ok (.aload_n 0, 1) := by decide +kernel
theorem dLw_wire_3 : decode bLw_wire 3 = .ok (.iload_n 1, 1) := by decide +kernel
theorem dLw_wire_4 : decode bLw_wire 4 = .ok (.iload_n 2, 1) := by decide +kernel
theorem dLw_wire_5 : decode bLw_wire 5 = .ok (.invokevirtual 32, 3) := by decide +kernel
theorem dLw_wire_8 : decode bLw_wire 8 = .ok (.i2l, 1) := by decide +kernel
theorem dLw_wire_9 : decode bLw_wire 9 = .ok (.lastore, 1) := by decide +kernel
theorem dLw_wire_10 : decode bLw_wire 10 = .ok (.goto 7, 3) := by decide +kernel
theorem dLw_wire_13 : decode bLw_wire 13 = .ok (.astore 4, 2) := by decide +kernel
theorem dLw_wire_15 : decode bLw_wire 15 = .ok (.iconst 1, 1) := by decide +kernel
theorem dLw_wire_16 : decode bLw_wire 16 = .ok (.ireturn, 1) := by decide +kernel
theorem dLw_wire_17 : decode bLw_wire 17 = .ok (.iconst 0, 1) := by decide +kernel
theorem dLw_wire_18 : decode bLw_wire 18 = .ok (.ireturn, 1) := by decide +kernel
theorem dLw_put_0 : decode bLw_put 0 = .ok (.aload 4, 2) := by decide +kernel
theorem dLw_put_2 : decode bLw_put 2 = .ok (.iconst 0, 1) := by decide +kernel
theorem dLw_put_3 : decode bLw_put 3 = .ok (.aload_n 0, 1) := by decide +kernel
theorem dLw_put_4 : decode bLw_put 4 = .ok (.iload_n 1, 1) := by decide +kernel
theorem dLw_put_5 : decode bLw_put 5 = .ok (.dload_n 2, 1) := by decide +kernel
theorem dLw_put_6 : decode bLw_put 6 = .ok (.invokevirtual 36, 3) := by decide +kernel
theorem dLw_put_9 : decode bLw_put 9 = .ok (.dastore, 1) := by decide +kernel
theorem dLw_put_10 : decode bLw_put 10 = .ok (.goto 7, 3) := by decide +kernel
theorem dLw_put_13 : decode bLw_put 13 = .ok (.astore 5, 2) := by decide +kernel
theorem dLw_put_15 : decode bLw_put 15 = .ok (.iconst 1, 1) := by decide +kernel
theorem dLw_put_16 : decode bLw_put 16 = .ok (.ireturn, 1) := by decide +kernel
theorem dLw_put_17 : decode bLw_put 17 = .ok (.iconst 0, 1) := by decide +kernel
theorem dLw_put_18 : decode bLw_put 18 = .ok (.ireturn, 1) := by decide +kernel
theorem dLw_force_0 : decode bLw_force 0 = .ok (.aload_n 3, 1) := by decide +kernel
theorem dLw_force_1 : decode bLw_force 1 = .ok (.iconst 0, 1) := by decide +kernel
theorem dLw_force_2 : decode bLw_force 2 = .ok (.aload_n 0, 1) := by decide +kernel
theorem dLw_force_3 : decode bLw_force 3 = .ok (.iload_n 1, 1) := by decide +kernel
theorem dLw_force_4 : decode bLw_force 4 = .ok (.iload_n 2, 1) := by decide +kernel
theorem dLw_force_5 : decode bLw_force 5 = .ok (.invokevirtual 40, 3) := by decide +kernel
theorem dLw_force_8 : decode bLw_force 8 = .ok (.i2l, 1) := by decide +kernel
theorem dLw_force_9 : decode bLw_force 9 = .ok (.lastore, 1) := by decide +kernel
theorem dLw_force_10 : decode bLw_force 10 = .ok (.goto 7, 3) := by decide +kernel
theorem dLw_force_13 : decode bLw_force 13 = .ok (.astore 4, 2) := by decide +kernel
theorem dLw_force_15 : decode bLw_force 15 = .ok (.iconst 1, 1) := by decide +kernel
theorem dLw_force_16 : decode bLw_force 16 = .ok (.ireturn, 1) := by decide +kernel
theorem dLw_force_17 : decode bLw_force 17 = .ok (.iconst 0, 1) := by decide +kernel
theorem dLw_force_18 : decode bLw_force 18 = .ok (.ireturn, 1) := by decide +kernel
theorem dLw_scan_0 : decode bLw_scan 0 = .ok (.aload_n 2, 1) := by decide +kernel
theorem dLw_scan_1 : decode bLw_scan 1 = .ok (.iconst 0, 1) := by decide +kernel
theorem dLw_scan_2 : decode bLw_scan 2 = .ok (.aload_n 0, 1) := by decide +kernel
theorem dLw_scan_3 : decode bLw_scan 3 = .ok (.iload_n 1, 1) := by decide +kernel
theorem dLw_scan_4 : decode bLw_scan 4 = .ok (.invokevirtual 43, 3) := by decide +kernel
theorem dLw_scan_7 : decode bLw_scan 7 = .ok (.i2l, 1) := by decide +kernel
theorem dLw_scan_8 : decode bLw_scan 8 = .ok (.lastore, 1) := by decide +kernel
theorem dLw_scan_9 : decode bLw_scan 9 = .ok (.goto 12, 3) := by decide +kernel
theorem dLw_scan_12 : decode bLw_scan 12 = .ok (.astore_n 3, 1) := by decide +kernel
theorem dLw_scan_13 : decode bLw_scan 13 = .ok (.iconst 1, 1) := by decide +kernel
theorem dLw_scan_14 : decode bLw_scan 14 = .ok (.ireturn, 1) := by decide +kernel
theorem dLw_scan_15 : decode bLw_scan 15 = .ok (.astore_n 3, 1) := by decide +kernel
theorem dLw_scan_16 : decode bLw_scan 16 = .ok (.iconst 2, 1) := by decide +kernel
theorem dLw_scan_17 : decode bLw_scan 17 = .ok (.ireturn, 1) := by decide +kernel
theorem dLw_scan_18 : decode bLw_scan 18 = .ok (.astore_n 3, 1) := by decide +kernel
theorem dLw_scan_19 : decode bLw_scan 19 = .ok (.iconst 3, 1) := by decide +kernel
theorem dLw_scan_20 : decode bLw_scan 20 = .ok (.ireturn, 1) := by decide +kernel
theorem dLw_scan_21 : decode bLw_scan 21 = .ok (.iconst 0, 1) := by decide +kernel
theorem dLw_scan_22 : decode bLw_scan 22 = .ok (.ireturn, 1) := by decide +kernel
theorem dLw_bit_0 : decode bLw_bit 0 = .ok (.aload_n 2, 1) := by decide +kernel
theorem dLw_bit_1 : decode bLw_bit 1 = .ok (.iconst 0, 1) := by decide +kernel
theorem dLw_bit_2 : decode bLw_bit 2 = .ok (.aload_n 0, 1) := by decide +kernel
theorem dLw_bit_3 : decode bLw_bit 3 = .ok (.iload_n 1, 1) := by decide +kernel
theorem dLw_bit_4 : decode bLw_bit 4 = .ok (.invokevirtual 48, 3) := by decide +kernel
theorem dLw_bit_7 : decode bLw_bit 7 = .ok (.i2l, 1) := by decide +kernel
theorem dLw_bit_8 : decode bLw_bit 8 = .ok (.lastore, 1) := by decide +kernel
theorem dLw_bit_9 : decode bLw_bit 9 = .ok (.goto 6, 3) := by decide +kernel
theorem dLw_bit_12 : decode bLw_bit 12 = .ok (.astore_n 3, 1) := by decide +kernel
theorem dLw_bit_13 : decode bLw_bit 13 = .ok (.iconst 1, 1) := by decide +kernel
theorem dLw_bit_14 : decode bLw_bit 14 = .ok (.ireturn, 1) := by decide +kernel
theorem dLw_bit_15 : decode bLw_bit 15 = .ok (.iconst 0, 1) := by decide +kernel
theorem dLw_bit_16 : decode bLw_bit 16 = .ok (.ireturn, 1) := by decide +kernel
theorem dLw_out_0 : decode bLw_out 0 = .ok (.aload_n 2, 1) := by decide +kernel
theorem dLw_out_1 : decode bLw_out 1 = .ok (.iconst 0, 1) := by decide +kernel
theorem dLw_out_2 : decode bLw_out 2 = .ok (.aload_n 0, 1) := by decide +kernel
theorem dLw_out_3 : decode bLw_out 3 = .ok (.iload_n 1, 1) := by decide +kernel
theorem dLw_out_4 : decode bLw_out 4 = .ok (.invokevirtual 51, 3) := by decide +kernel
theorem dLw_out_7 : decode bLw_out 7 = .ok (.i2l, 1) := by decide +kernel
theorem dLw_out_8 : decode bLw_out 8 = .ok (.lastore, 1) := by decide +kernel
theorem dLw_out_9 : decode bLw_out 9 = .ok (.goto 6, 3) := by decide +kernel
theorem dLw_out_12 : decode bLw_out 12 = .ok (.astore_n 3, 1) := by decide +kernel
theorem dLw_out_13 : decode bLw_out 13 = .ok (.iconst 1, 1) := by decide +kernel
theorem dLw_out_14 : decode bLw_out 14 = .ok (.ireturn, 1) := by decide +kernel
theorem dLw_out_15 : decode bLw_out 15 = .ok (.iconst 0, 1) := by decide +kernel
theorem dLw_out_16 : decode bLw_out 16 = .ok (.ireturn, 1) := by decide +kernel
theorem dLw_register_0 : decode bLw_register 0 = .ok (.aload_n 2, 1) := by decide +kernel
theorem dLw_register_1 : decode bLw_register 1 = .ok (.iconst 0, 1) := by decide +kernel
theorem dLw_register_2 : decode bLw_register 2 = .ok (.aload_n 0, 1) := by decide +kernel
theorem dLw_register_3 : decode bLw_register 3 = .ok (.iload_n 1, 1) := by decide +kernel
theorem dLw_register_4 : decode bLw_register 4 = .ok (.invokevirtual 54, 3) := by decide +kernel
theorem dLw_register_7 : decode bLw_register 7 = .ok (.dastore, 1) := by decide +kernel
theorem dLw_register_8 : decode bLw_register 8 = .ok (.goto 6, 3) := by decide +kernel
theorem dLw_register_11 : decode bLw_register 11 = .ok (.astore_n 3, 1) := by decide +kernel
theorem dLw_register_12 : decode bLw_register 12 = .ok (.iconst 1, 1) := by decide +kernel
theorem dLw_register_13 : decode bLw_register 13 = .ok (.ireturn, 1) := by decide +kernel
theorem dLw_register_14 : decode bLw_register 14 = .ok (.iconst 0, 1) := by decide +kernel
theorem dLw_register_15 : decode bLw_register 15 = .ok (.ireturn, 1) := by decide +kernel
theorem dLw_state_0 : decode bLw_state 0 = .ok (.aload_n 3, 1) := by decide +kernel
theorem dLw_state_1 : decode bLw_state 1 = .ok (.iconst 0, 1) := by decide +kernel
theorem dLw_state_2 : decode bLw_state 2 = .ok (.aload_n 0, 1) := by decide +kernel
theorem dLw_state_3 : decode bLw_state 3 = .ok (.iload_n 1, 1) := by decide +kernel
theorem dLw_state_4 : decode bLw_state 4 = .ok (.iload_n 2, 1) := by decide +kernel
theorem dLw_state_5 : decode bLw_state 5 = .ok (.invokevirtual 58, 3) := by decide +kernel
theorem dLw_state_8 : decode bLw_state 8 = .ok (.i2l, 1) := by decide +kernel
theorem dLw_state_9 : decode bLw_state 9 = .ok (.lastore, 1) := by decide +kernel
theorem dLw_state_10 : decode bLw_state 10 = .ok (.goto 11, 3) := by decide +kernel
theorem dLw_state_13 : decode bLw_state 13 = .ok (.astore 4, 2) := by decide +kernel
theorem dLw_state_15 : decode bLw_state 15 = .ok (.iconst 1, 1) := by decide +kernel
theorem dLw_state_16 : decode bLw_state 16 = .ok (.ireturn, 1) := by decide +kernel
theorem dLw_state_17 : decode bLw_state 17 = .ok (.astore 4, 2) := by decide +kernel
theorem dLw_state_19 : decode bLw_state 19 = .ok (.iconst 2, 1) := by decide +kernel
theorem dLw_state_20 : decode bLw_state 20 = .ok (.ireturn, 1) := by decide +kernel
theorem dLw_state_21 : decode bLw_state 21 = .ok (.iconst 0, 1) := by decide +kernel
theorem dLw_state_22 : decode bLw_state 22 = .ok (.ireturn, 1) := by decide +kernel
theorem dLw_count_0 : decode bLw_count 0 = .ok (.aload_n 2, 1) := by decide +kernel
theorem dLw_count_1 : decode bLw_count 1 = .ok (.iconst 0, 1) := by decide +kernel
theorem dLw_count_2 : decode bLw_count 2 = .ok (.aload_n 0, 1) := by decide +kernel
theorem dLw_count_3 : decode bLw_count 3 = .ok (.iload_n 1, 1) := by decide +kernel
theorem dLw_count_4 : decode bLw_count 4 = .ok (.invokevirtual 61, 3) := by decide +kernel
theorem dLw_count_7 : decode bLw_count 7 = .ok (.i2l, 1) := by decide +kernel
theorem dLw_count_8 : decode bLw_count 8 = .ok (.lastore, 1) := by decide +kernel
theorem dLw_count_9 : decode bLw_count 9 = .ok (.goto 6, 3) := by decide +kernel
theorem dLw_count_12 : decode bLw_count 12 = .ok (.astore_n 3, 1) := by decide +kernel
theorem dLw_count_13 : decode bLw_count 13 = .ok (.iconst 1, 1) := by decide +kernel
theorem dLw_count_14 : decode bLw_count 14 = .ok (.ireturn, 1) := by decide +kernel
theorem dLw_count_15 : decode bLw_count 15 = .ok (.iconst 0, 1) := by decide +kernel
theorem dLw_count_16 : decode bLw_count 16 = .ok (.ireturn, 1) := by decide +kernel
theorem dLw_law_0 : decode code 0 = .ok (.new 8, 3) := by decide +kernel
theorem dLw_law_3 : decode code 3 = .ok (.dup, 1) := by decide +kernel
theorem dLw_law_4 : decode code 4 = .ok (.invokespecial 64, 3) := by decide +kernel
theorem dLw_law_7 : decode code 7 = .ok (.astore_n 1, 1) := by decide +kernel
theorem dLw_law_8 : decode code 8 = .ok (.new 65, 3) := by decide +kernel
theorem dLw_law_11 : decode code 11 = .ok (.dup, 1) := by decide +kernel
theorem dLw_law_12 : decode code 12 = .ok (.invokespecial 67, 3) := by decide +kernel
theorem dLw_law_15 : decode code 15 = .ok (.astore_n 2, 1) := by decide +kernel
theorem dLw_law_16 : decode code 16 = .ok (.iconst 1, 1) := by decide +kernel
theorem dLw_law_17 : decode code 17 = .ok (.newarray .long, 2) := by decide +kernel
theorem dLw_law_19 : decode code 19 = .ok (.astore_n 3, 1) := by decide +kernel
theorem dLw_law_20 : decode code 20 = .ok (.iconst 1, 1) := by decide +kernel
theorem dLw_law_21 : decode code 21 = .ok (.newarray .double, 2) := by decide +kernel
theorem dLw_law_23 : decode code 23 = .ok (.astore 4, 2) := by decide +kernel
theorem dLw_law_25 : decode code 25 = .ok (.iconst 0, 1) := by decide +kernel
theorem dLw_law_26 : decode code 26 = .ok (.istore 5, 2) := by decide +kernel
theorem dLw_law_28 : decode code 28 = .ok (.iload 5, 2) := by decide +kernel
theorem dLw_law_30 : decode code 30 = .ok (.aload_n 0, 1) := by decide +kernel
theorem dLw_law_31 : decode code 31 = .ok (.arraylength, 1) := by decide +kernel
theorem dLw_law_32 : decode code 32 = .ok (.iconst 4, 1) := by decide +kernel
theorem dLw_law_33 : decode code 33 = .ok (.isub, 1) := by decide +kernel
theorem dLw_law_34 : decode code 34 = .ok (.if_icmp .gt 1076, 3) := by decide +kernel
theorem dLw_law_37 : decode code 37 = .ok (.aload_n 0, 1) := by decide +kernel
theorem dLw_law_38 : decode code 38 = .ok (.iload 5, 2) := by decide +kernel
theorem dLw_law_40 : decode code 40 = .ok (.iaload, 1) := by decide +kernel
theorem dLw_law_41 : decode code 41 = .ok (.bipush 15, 2) := by decide +kernel
theorem dLw_law_43 : decode code 43 = .ok (.iand, 1) := by decide +kernel
theorem dLw_law_44 : decode code 44 = .ok (.tableswitch 1060 0 15 #[80, 160, 281, 361, 417, 430, 498, 597, 665, 721, 734, 747, 803, 859, 936, 1004], 80) := by decide +kernel
theorem dLw_law_124 : decode code 124 = .ok (.aload_n 1, 1) := by decide +kernel
theorem dLw_law_125 : decode code 125 = .ok (.aload_n 0, 1) := by decide +kernel
theorem dLw_law_126 : decode code 126 = .ok (.iload 5, 2) := by decide +kernel
theorem dLw_law_128 : decode code 128 = .ok (.iconst 1, 1) := by decide +kernel
theorem dLw_law_129 : decode code 129 = .ok (.iadd, 1) := by decide +kernel
theorem dLw_law_130 : decode code 130 = .ok (.iaload, 1) := by decide +kernel
theorem dLw_law_131 : decode code 131 = .ok (.aload_n 0, 1) := by decide +kernel
theorem dLw_law_132 : decode code 132 = .ok (.iload 5, 2) := by decide +kernel
theorem dLw_law_134 : decode code 134 = .ok (.iconst 2, 1) := by decide +kernel
theorem dLw_law_135 : decode code 135 = .ok (.iadd, 1) := by decide +kernel
theorem dLw_law_136 : decode code 136 = .ok (.iaload, 1) := by decide +kernel
theorem dLw_law_137 : decode code 137 = .ok (.aload_n 0, 1) := by decide +kernel
theorem dLw_law_138 : decode code 138 = .ok (.iload 5, 2) := by decide +kernel
theorem dLw_law_140 : decode code 140 = .ok (.iconst 3, 1) := by decide +kernel
theorem dLw_law_141 : decode code 141 = .ok (.iadd, 1) := by decide +kernel
theorem dLw_law_142 : decode code 142 = .ok (.iaload, 1) := by decide +kernel
theorem dLw_law_143 : decode code 143 = .ok (.aload_n 3, 1) := by decide +kernel
theorem dLw_law_144 : decode code 144 = .ok (.invokestatic 68, 3) := by decide +kernel
theorem dLw_law_147 : decode code 147 = .ok (.istore 6, 2) := by decide +kernel
theorem dLw_law_149 : decode code 149 = .ok (.aload_n 2, 1) := by decide +kernel
theorem dLw_law_150 : decode code 150 = .ok (.aload_n 0, 1) := by decide +kernel
theorem dLw_law_151 : decode code 151 = .ok (.iload 5, 2) := by decide +kernel
theorem dLw_law_153 : decode code 153 = .ok (.iconst 1, 1) := by decide +kernel
theorem dLw_law_154 : decode code 154 = .ok (.iadd, 1) := by decide +kernel
theorem dLw_law_155 : decode code 155 = .ok (.iaload, 1) := by decide +kernel
theorem dLw_law_156 : decode code 156 = .ok (.aload_n 0, 1) := by decide +kernel
theorem dLw_law_157 : decode code 157 = .ok (.iload 5, 2) := by decide +kernel
theorem dLw_law_159 : decode code 159 = .ok (.iconst 2, 1) := by decide +kernel
theorem dLw_law_160 : decode code 160 = .ok (.iadd, 1) := by decide +kernel
theorem dLw_law_161 : decode code 161 = .ok (.iaload, 1) := by decide +kernel
theorem dLw_law_162 : decode code 162 = .ok (.aload_n 0, 1) := by decide +kernel
theorem dLw_law_163 : decode code 163 = .ok (.iload 5, 2) := by decide +kernel
theorem dLw_law_165 : decode code 165 = .ok (.iconst 3, 1) := by decide +kernel
theorem dLw_law_166 : decode code 166 = .ok (.iadd, 1) := by decide +kernel
theorem dLw_law_167 : decode code 167 = .ok (.iaload, 1) := by decide +kernel
theorem dLw_law_168 : decode code 168 = .ok (.invokevirtual 73, 3) := by decide +kernel
theorem dLw_law_171 : decode code 171 = .ok (.istore 7, 2) := by decide +kernel
theorem dLw_law_173 : decode code 173 = .ok (.aload_n 2, 1) := by decide +kernel
theorem dLw_law_174 : decode code 174 = .ok (.invokevirtual 74, 3) := by decide +kernel
theorem dLw_law_177 : decode code 177 = .ok (.iload 6, 2) := by decide +kernel
theorem dLw_law_179 : decode code 179 = .ok (.if_icmp .eq 5, 3) := by decide +kernel
theorem dLw_law_182 : decode code 182 = .ok (.iconst 0, 1) := by decide +kernel
theorem dLw_law_183 : decode code 183 = .ok (.ireturn, 1) := by decide +kernel
theorem dLw_law_184 : decode code 184 = .ok (.iload 6, 2) := by decide +kernel
theorem dLw_law_186 : decode code 186 = .ok (.ifCond .ne 15, 3) := by decide +kernel
theorem dLw_law_189 : decode code 189 = .ok (.aload_n 3, 1) := by decide +kernel
theorem dLw_law_190 : decode code 190 = .ok (.iconst 0, 1) := by decide +kernel
theorem dLw_law_191 : decode code 191 = .ok (.laload, 1) := by decide +kernel
theorem dLw_law_192 : decode code 192 = .ok (.iload 7, 2) := by decide +kernel
theorem dLw_law_194 : decode code 194 = .ok (.i2l, 1) := by decide +kernel
theorem dLw_law_195 : decode code 195 = .ok (.lcmp, 1) := by decide +kernel
theorem dLw_law_196 : decode code 196 = .ok (.ifCond .eq 5, 3) := by decide +kernel
theorem dLw_law_199 : decode code 199 = .ok (.iconst 0, 1) := by decide +kernel
theorem dLw_law_200 : decode code 200 = .ok (.ireturn, 1) := by decide +kernel
theorem dLw_law_201 : decode code 201 = .ok (.goto 903, 3) := by decide +kernel
theorem dLw_law_204 : decode code 204 = .ok (.aload_n 1, 1) := by decide +kernel
theorem dLw_law_205 : decode code 205 = .ok (.aload_n 0, 1) := by decide +kernel
theorem dLw_law_206 : decode code 206 = .ok (.iload 5, 2) := by decide +kernel
theorem dLw_law_208 : decode code 208 = .ok (.iconst 1, 1) := by decide +kernel
theorem dLw_law_209 : decode code 209 = .ok (.iadd, 1) := by decide +kernel
theorem dLw_law_210 : decode code 210 = .ok (.iaload, 1) := by decide +kernel
theorem dLw_law_211 : decode code 211 = .ok (.aload_n 0, 1) := by decide +kernel
theorem dLw_law_212 : decode code 212 = .ok (.iload 5, 2) := by decide +kernel
theorem dLw_law_214 : decode code 214 = .ok (.iconst 2, 1) := by decide +kernel
theorem dLw_law_215 : decode code 215 = .ok (.iadd, 1) := by decide +kernel
theorem dLw_law_216 : decode code 216 = .ok (.iaload, 1) := by decide +kernel
theorem dLw_law_217 : decode code 217 = .ok (.i2d, 1) := by decide +kernel
theorem dLw_law_218 : decode code 218 = .ok (.ldc2_w 78, 3) := by decide +kernel
theorem dLw_law_221 : decode code 221 = .ok (.dmul, 1) := by decide +kernel
theorem dLw_law_222 : decode code 222 = .ok (.aload_n 0, 1) := by decide +kernel
theorem dLw_law_223 : decode code 223 = .ok (.iload 5, 2) := by decide +kernel
theorem dLw_law_225 : decode code 225 = .ok (.iconst 3, 1) := by decide +kernel
theorem dLw_law_226 : decode code 226 = .ok (.iadd, 1) := by decide +kernel
theorem dLw_law_227 : decode code 227 = .ok (.iaload, 1) := by decide +kernel
theorem dLw_law_228 : decode code 228 = .ok (.i2d, 1) := by decide +kernel
theorem dLw_law_229 : decode code 229 = .ok (.ldc2_w 78, 3) := by decide +kernel
theorem dLw_law_232 : decode code 232 = .ok (.dmul, 1) := by decide +kernel
theorem dLw_law_233 : decode code 233 = .ok (.aload 4, 2) := by decide +kernel
theorem dLw_law_235 : decode code 235 = .ok (.invokestatic 80, 3) := by decide +kernel
theorem dLw_law_238 : decode code 238 = .ok (.istore 6, 2) := by decide +kernel
theorem dLw_law_240 : decode code 240 = .ok (.aload_n 2, 1) := by decide +kernel
theorem dLw_law_241 : decode code 241 = .ok (.aload_n 0, 1) := by decide +kernel
theorem dLw_law_242 : decode code 242 = .ok (.iload 5, 2) := by decide +kernel
theorem dLw_law_244 : decode code 244 = .ok (.iconst 1, 1) := by decide +kernel
theorem dLw_law_245 : decode code 245 = .ok (.iadd, 1) := by decide +kernel
theorem dLw_law_246 : decode code 246 = .ok (.iaload, 1) := by decide +kernel
theorem dLw_law_247 : decode code 247 = .ok (.aload_n 0, 1) := by decide +kernel
theorem dLw_law_248 : decode code 248 = .ok (.iload 5, 2) := by decide +kernel
theorem dLw_law_250 : decode code 250 = .ok (.iconst 2, 1) := by decide +kernel
theorem dLw_law_251 : decode code 251 = .ok (.iadd, 1) := by decide +kernel
theorem dLw_law_252 : decode code 252 = .ok (.iaload, 1) := by decide +kernel
theorem dLw_law_253 : decode code 253 = .ok (.i2d, 1) := by decide +kernel
theorem dLw_law_254 : decode code 254 = .ok (.ldc2_w 78, 3) := by decide +kernel
theorem dLw_law_257 : decode code 257 = .ok (.dmul, 1) := by decide +kernel
theorem dLw_law_258 : decode code 258 = .ok (.aload_n 0, 1) := by decide +kernel
theorem dLw_law_259 : decode code 259 = .ok (.iload 5, 2) := by decide +kernel
theorem dLw_law_261 : decode code 261 = .ok (.iconst 3, 1) := by decide +kernel
theorem dLw_law_262 : decode code 262 = .ok (.iadd, 1) := by decide +kernel
theorem dLw_law_263 : decode code 263 = .ok (.iaload, 1) := by decide +kernel
theorem dLw_law_264 : decode code 264 = .ok (.i2d, 1) := by decide +kernel
theorem dLw_law_265 : decode code 265 = .ok (.ldc2_w 78, 3) := by decide +kernel
theorem dLw_law_268 : decode code 268 = .ok (.dmul, 1) := by decide +kernel
theorem dLw_law_269 : decode code 269 = .ok (.invokevirtual 83, 3) := by decide +kernel
theorem dLw_law_272 : decode code 272 = .ok (.dstore 7, 2) := by decide +kernel
theorem dLw_law_274 : decode code 274 = .ok (.aload_n 2, 1) := by decide +kernel
theorem dLw_law_275 : decode code 275 = .ok (.invokevirtual 74, 3) := by decide +kernel
theorem dLw_law_278 : decode code 278 = .ok (.iload 6, 2) := by decide +kernel
theorem dLw_law_280 : decode code 280 = .ok (.if_icmp .eq 5, 3) := by decide +kernel
theorem dLw_law_283 : decode code 283 = .ok (.iconst 0, 1) := by decide +kernel
theorem dLw_law_284 : decode code 284 = .ok (.ireturn, 1) := by decide +kernel
theorem dLw_law_285 : decode code 285 = .ok (.iload 6, 2) := by decide +kernel
theorem dLw_law_287 : decode code 287 = .ok (.ifCond .ne 35, 3) := by decide +kernel
theorem dLw_law_290 : decode code 290 = .ok (.aload 4, 2) := by decide +kernel
theorem dLw_law_292 : decode code 292 = .ok (.iconst 0, 1) := by decide +kernel
theorem dLw_law_293 : decode code 293 = .ok (.daload, 1) := by decide +kernel
theorem dLw_law_294 : decode code 294 = .ok (.dload 7, 2) := by decide +kernel
theorem dLw_law_296 : decode code 296 = .ok (.dcmp .l, 1) := by decide +kernel
theorem dLw_law_297 : decode code 297 = .ok (.ifCond .eq 25, 3) := by decide +kernel
theorem dLw_law_300 : decode code 300 = .ok (.aload 4, 2) := by decide +kernel
theorem dLw_law_302 : decode code 302 = .ok (.iconst 0, 1) := by decide +kernel
theorem dLw_law_303 : decode code 303 = .ok (.daload, 1) := by decide +kernel
theorem dLw_law_304 : decode code 304 = .ok (.aload 4, 2) := by decide +kernel
theorem dLw_law_306 : decode code 306 = .ok (.iconst 0, 1) := by decide +kernel
theorem dLw_law_307 : decode code 307 = .ok (.daload, 1) := by decide +kernel
theorem dLw_law_308 : decode code 308 = .ok (.dcmp .l, 1) := by decide +kernel
theorem dLw_law_309 : decode code 309 = .ok (.ifCond .eq 11, 3) := by decide +kernel
theorem dLw_law_312 : decode code 312 = .ok (.dload 7, 2) := by decide +kernel
theorem dLw_law_314 : decode code 314 = .ok (.dload 7, 2) := by decide +kernel
theorem dLw_law_316 : decode code 316 = .ok (.dcmp .l, 1) := by decide +kernel
theorem dLw_law_317 : decode code 317 = .ok (.ifCond .ne 5, 3) := by decide +kernel
theorem dLw_law_320 : decode code 320 = .ok (.iconst 0, 1) := by decide +kernel
theorem dLw_law_321 : decode code 321 = .ok (.ireturn, 1) := by decide +kernel
theorem dLw_law_322 : decode code 322 = .ok (.goto 782, 3) := by decide +kernel
theorem dLw_law_325 : decode code 325 = .ok (.aload_n 1, 1) := by decide +kernel
theorem dLw_law_326 : decode code 326 = .ok (.aload_n 0, 1) := by decide +kernel
theorem dLw_law_327 : decode code 327 = .ok (.iload 5, 2) := by decide +kernel
theorem dLw_law_329 : decode code 329 = .ok (.iconst 1, 1) := by decide +kernel
theorem dLw_law_330 : decode code 330 = .ok (.iadd, 1) := by decide +kernel
theorem dLw_law_331 : decode code 331 = .ok (.iaload, 1) := by decide +kernel
theorem dLw_law_332 : decode code 332 = .ok (.aload_n 0, 1) := by decide +kernel
theorem dLw_law_333 : decode code 333 = .ok (.iload 5, 2) := by decide +kernel
theorem dLw_law_335 : decode code 335 = .ok (.iconst 2, 1) := by decide +kernel
theorem dLw_law_336 : decode code 336 = .ok (.iadd, 1) := by decide +kernel
theorem dLw_law_337 : decode code 337 = .ok (.iaload, 1) := by decide +kernel
theorem dLw_law_338 : decode code 338 = .ok (.aload_n 0, 1) := by decide +kernel
theorem dLw_law_339 : decode code 339 = .ok (.iload 5, 2) := by decide +kernel
theorem dLw_law_341 : decode code 341 = .ok (.iconst 3, 1) := by decide +kernel
theorem dLw_law_342 : decode code 342 = .ok (.iadd, 1) := by decide +kernel
theorem dLw_law_343 : decode code 343 = .ok (.iaload, 1) := by decide +kernel
theorem dLw_law_344 : decode code 344 = .ok (.aload_n 3, 1) := by decide +kernel
theorem dLw_law_345 : decode code 345 = .ok (.invokestatic 84, 3) := by decide +kernel
theorem dLw_law_348 : decode code 348 = .ok (.istore 6, 2) := by decide +kernel
theorem dLw_law_350 : decode code 350 = .ok (.aload_n 2, 1) := by decide +kernel
theorem dLw_law_351 : decode code 351 = .ok (.aload_n 0, 1) := by decide +kernel
theorem dLw_law_352 : decode code 352 = .ok (.iload 5, 2) := by decide +kernel
theorem dLw_law_354 : decode code 354 = .ok (.iconst 1, 1) := by decide +kernel
theorem dLw_law_355 : decode code 355 = .ok (.iadd, 1) := by decide +kernel
theorem dLw_law_356 : decode code 356 = .ok (.iaload, 1) := by decide +kernel
theorem dLw_law_357 : decode code 357 = .ok (.aload_n 0, 1) := by decide +kernel
theorem dLw_law_358 : decode code 358 = .ok (.iload 5, 2) := by decide +kernel
theorem dLw_law_360 : decode code 360 = .ok (.iconst 2, 1) := by decide +kernel
theorem dLw_law_361 : decode code 361 = .ok (.iadd, 1) := by decide +kernel
theorem dLw_law_362 : decode code 362 = .ok (.iaload, 1) := by decide +kernel
theorem dLw_law_363 : decode code 363 = .ok (.aload_n 0, 1) := by decide +kernel
theorem dLw_law_364 : decode code 364 = .ok (.iload 5, 2) := by decide +kernel
theorem dLw_law_366 : decode code 366 = .ok (.iconst 3, 1) := by decide +kernel
theorem dLw_law_367 : decode code 367 = .ok (.iadd, 1) := by decide +kernel
theorem dLw_law_368 : decode code 368 = .ok (.iaload, 1) := by decide +kernel
theorem dLw_law_369 : decode code 369 = .ok (.invokevirtual 86, 3) := by decide +kernel
theorem dLw_law_372 : decode code 372 = .ok (.istore 7, 2) := by decide +kernel
theorem dLw_law_374 : decode code 374 = .ok (.aload_n 2, 1) := by decide +kernel
theorem dLw_law_375 : decode code 375 = .ok (.invokevirtual 74, 3) := by decide +kernel
theorem dLw_law_378 : decode code 378 = .ok (.iload 6, 2) := by decide +kernel
theorem dLw_law_380 : decode code 380 = .ok (.if_icmp .eq 5, 3) := by decide +kernel
theorem dLw_law_383 : decode code 383 = .ok (.iconst 0, 1) := by decide +kernel
theorem dLw_law_384 : decode code 384 = .ok (.ireturn, 1) := by decide +kernel
theorem dLw_law_385 : decode code 385 = .ok (.iload 6, 2) := by decide +kernel
theorem dLw_law_387 : decode code 387 = .ok (.ifCond .ne 15, 3) := by decide +kernel
theorem dLw_law_390 : decode code 390 = .ok (.aload_n 3, 1) := by decide +kernel
theorem dLw_law_391 : decode code 391 = .ok (.iconst 0, 1) := by decide +kernel
theorem dLw_law_392 : decode code 392 = .ok (.laload, 1) := by decide +kernel
theorem dLw_law_393 : decode code 393 = .ok (.iload 7, 2) := by decide +kernel
theorem dLw_law_395 : decode code 395 = .ok (.i2l, 1) := by decide +kernel
theorem dLw_law_396 : decode code 396 = .ok (.lcmp, 1) := by decide +kernel
theorem dLw_law_397 : decode code 397 = .ok (.ifCond .eq 5, 3) := by decide +kernel
theorem dLw_law_400 : decode code 400 = .ok (.iconst 0, 1) := by decide +kernel
theorem dLw_law_401 : decode code 401 = .ok (.ireturn, 1) := by decide +kernel
theorem dLw_law_402 : decode code 402 = .ok (.goto 702, 3) := by decide +kernel
theorem dLw_law_405 : decode code 405 = .ok (.aload_n 1, 1) := by decide +kernel
theorem dLw_law_406 : decode code 406 = .ok (.aload_n 0, 1) := by decide +kernel
theorem dLw_law_407 : decode code 407 = .ok (.iload 5, 2) := by decide +kernel
theorem dLw_law_409 : decode code 409 = .ok (.iconst 1, 1) := by decide +kernel
theorem dLw_law_410 : decode code 410 = .ok (.iadd, 1) := by decide +kernel
theorem dLw_law_411 : decode code 411 = .ok (.iaload, 1) := by decide +kernel
theorem dLw_law_412 : decode code 412 = .ok (.aload_n 3, 1) := by decide +kernel
theorem dLw_law_413 : decode code 413 = .ok (.invokestatic 87, 3) := by decide +kernel
theorem dLw_law_416 : decode code 416 = .ok (.istore 6, 2) := by decide +kernel
theorem dLw_law_418 : decode code 418 = .ok (.aload_n 2, 1) := by decide +kernel
theorem dLw_law_419 : decode code 419 = .ok (.aload_n 0, 1) := by decide +kernel
theorem dLw_law_420 : decode code 420 = .ok (.iload 5, 2) := by decide +kernel
theorem dLw_law_422 : decode code 422 = .ok (.iconst 1, 1) := by decide +kernel
theorem dLw_law_423 : decode code 423 = .ok (.iadd, 1) := by decide +kernel
theorem dLw_law_424 : decode code 424 = .ok (.iaload, 1) := by decide +kernel
theorem dLw_law_425 : decode code 425 = .ok (.invokevirtual 90, 3) := by decide +kernel
theorem dLw_law_428 : decode code 428 = .ok (.istore 7, 2) := by decide +kernel
theorem dLw_law_430 : decode code 430 = .ok (.aload_n 2, 1) := by decide +kernel
theorem dLw_law_431 : decode code 431 = .ok (.invokevirtual 74, 3) := by decide +kernel
theorem dLw_law_434 : decode code 434 = .ok (.iload 6, 2) := by decide +kernel
theorem dLw_law_436 : decode code 436 = .ok (.if_icmp .eq 5, 3) := by decide +kernel
theorem dLw_law_439 : decode code 439 = .ok (.iconst 0, 1) := by decide +kernel
theorem dLw_law_440 : decode code 440 = .ok (.ireturn, 1) := by decide +kernel
theorem dLw_law_441 : decode code 441 = .ok (.iload 6, 2) := by decide +kernel
theorem dLw_law_443 : decode code 443 = .ok (.ifCond .ne 15, 3) := by decide +kernel
theorem dLw_law_446 : decode code 446 = .ok (.aload_n 3, 1) := by decide +kernel
theorem dLw_law_447 : decode code 447 = .ok (.iconst 0, 1) := by decide +kernel
theorem dLw_law_448 : decode code 448 = .ok (.laload, 1) := by decide +kernel
theorem dLw_law_449 : decode code 449 = .ok (.iload 7, 2) := by decide +kernel
theorem dLw_law_451 : decode code 451 = .ok (.i2l, 1) := by decide +kernel
theorem dLw_law_452 : decode code 452 = .ok (.lcmp, 1) := by decide +kernel
theorem dLw_law_453 : decode code 453 = .ok (.ifCond .eq 5, 3) := by decide +kernel
theorem dLw_law_456 : decode code 456 = .ok (.iconst 0, 1) := by decide +kernel
theorem dLw_law_457 : decode code 457 = .ok (.ireturn, 1) := by decide +kernel
theorem dLw_law_458 : decode code 458 = .ok (.goto 646, 3) := by decide +kernel
theorem dLw_law_461 : decode code 461 = .ok (.aload_n 1, 1) := by decide +kernel
theorem dLw_law_462 : decode code 462 = .ok (.invokevirtual 91, 3) := by decide +kernel
theorem dLw_law_465 : decode code 465 = .ok (.aload_n 2, 1) := by decide +kernel
theorem dLw_law_466 : decode code 466 = .ok (.invokevirtual 94, 3) := by decide +kernel
theorem dLw_law_469 : decode code 469 = .ok (.if_icmp .eq 635, 3) := by decide +kernel
theorem dLw_law_472 : decode code 472 = .ok (.iconst 0, 1) := by decide +kernel
theorem dLw_law_473 : decode code 473 = .ok (.ireturn, 1) := by decide +kernel
theorem dLw_law_474 : decode code 474 = .ok (.aload_n 1, 1) := by decide +kernel
theorem dLw_law_475 : decode code 475 = .ok (.aload_n 0, 1) := by decide +kernel
theorem dLw_law_476 : decode code 476 = .ok (.iload 5, 2) := by decide +kernel
theorem dLw_law_478 : decode code 478 = .ok (.iconst 1, 1) := by decide +kernel
theorem dLw_law_479 : decode code 479 = .ok (.iadd, 1) := by decide +kernel
theorem dLw_law_480 : decode code 480 = .ok (.iaload, 1) := by decide +kernel
theorem dLw_law_481 : decode code 481 = .ok (.aload_n 0, 1) := by decide +kernel
theorem dLw_law_482 : decode code 482 = .ok (.iload 5, 2) := by decide +kernel
theorem dLw_law_484 : decode code 484 = .ok (.iconst 2, 1) := by decide +kernel
theorem dLw_law_485 : decode code 485 = .ok (.iadd, 1) := by decide +kernel
theorem dLw_law_486 : decode code 486 = .ok (.iaload, 1) := by decide +kernel
theorem dLw_law_487 : decode code 487 = .ok (.aload_n 3, 1) := by decide +kernel
theorem dLw_law_488 : decode code 488 = .ok (.invokestatic 95, 3) := by decide +kernel
theorem dLw_law_491 : decode code 491 = .ok (.istore 6, 2) := by decide +kernel
theorem dLw_law_493 : decode code 493 = .ok (.aload_n 2, 1) := by decide +kernel
theorem dLw_law_494 : decode code 494 = .ok (.aload_n 0, 1) := by decide +kernel
theorem dLw_law_495 : decode code 495 = .ok (.iload 5, 2) := by decide +kernel
theorem dLw_law_497 : decode code 497 = .ok (.iconst 1, 1) := by decide +kernel
theorem dLw_law_498 : decode code 498 = .ok (.iadd, 1) := by decide +kernel
theorem dLw_law_499 : decode code 499 = .ok (.iaload, 1) := by decide +kernel
theorem dLw_law_500 : decode code 500 = .ok (.aload_n 0, 1) := by decide +kernel
theorem dLw_law_501 : decode code 501 = .ok (.iload 5, 2) := by decide +kernel
theorem dLw_law_503 : decode code 503 = .ok (.iconst 2, 1) := by decide +kernel
theorem dLw_law_504 : decode code 504 = .ok (.iadd, 1) := by decide +kernel
theorem dLw_law_505 : decode code 505 = .ok (.iaload, 1) := by decide +kernel
theorem dLw_law_506 : decode code 506 = .ok (.invokevirtual 98, 3) := by decide +kernel
theorem dLw_law_509 : decode code 509 = .ok (.istore 7, 2) := by decide +kernel
theorem dLw_law_511 : decode code 511 = .ok (.aload_n 2, 1) := by decide +kernel
theorem dLw_law_512 : decode code 512 = .ok (.invokevirtual 74, 3) := by decide +kernel
theorem dLw_law_515 : decode code 515 = .ok (.iload 6, 2) := by decide +kernel
theorem dLw_law_517 : decode code 517 = .ok (.if_icmp .eq 5, 3) := by decide +kernel
theorem dLw_law_520 : decode code 520 = .ok (.iconst 0, 1) := by decide +kernel
theorem dLw_law_521 : decode code 521 = .ok (.ireturn, 1) := by decide +kernel
theorem dLw_law_522 : decode code 522 = .ok (.iload 6, 2) := by decide +kernel
theorem dLw_law_524 : decode code 524 = .ok (.ifCond .ne 15, 3) := by decide +kernel
theorem dLw_law_527 : decode code 527 = .ok (.aload_n 3, 1) := by decide +kernel
theorem dLw_law_528 : decode code 528 = .ok (.iconst 0, 1) := by decide +kernel
theorem dLw_law_529 : decode code 529 = .ok (.laload, 1) := by decide +kernel
theorem dLw_law_530 : decode code 530 = .ok (.iload 7, 2) := by decide +kernel
theorem dLw_law_532 : decode code 532 = .ok (.i2l, 1) := by decide +kernel
theorem dLw_law_533 : decode code 533 = .ok (.lcmp, 1) := by decide +kernel
theorem dLw_law_534 : decode code 534 = .ok (.ifCond .eq 5, 3) := by decide +kernel
theorem dLw_law_537 : decode code 537 = .ok (.iconst 0, 1) := by decide +kernel
theorem dLw_law_538 : decode code 538 = .ok (.ireturn, 1) := by decide +kernel
theorem dLw_law_539 : decode code 539 = .ok (.goto 565, 3) := by decide +kernel
theorem dLw_law_542 : decode code 542 = .ok (.aload_n 1, 1) := by decide +kernel
theorem dLw_law_543 : decode code 543 = .ok (.aload_n 0, 1) := by decide +kernel
theorem dLw_law_544 : decode code 544 = .ok (.iload 5, 2) := by decide +kernel
theorem dLw_law_546 : decode code 546 = .ok (.iconst 1, 1) := by decide +kernel
theorem dLw_law_547 : decode code 547 = .ok (.iadd, 1) := by decide +kernel
theorem dLw_law_548 : decode code 548 = .ok (.iaload, 1) := by decide +kernel
theorem dLw_law_549 : decode code 549 = .ok (.aload_n 0, 1) := by decide +kernel
theorem dLw_law_550 : decode code 550 = .ok (.iload 5, 2) := by decide +kernel
theorem dLw_law_552 : decode code 552 = .ok (.iconst 2, 1) := by decide +kernel
theorem dLw_law_553 : decode code 553 = .ok (.iadd, 1) := by decide +kernel
theorem dLw_law_554 : decode code 554 = .ok (.iaload, 1) := by decide +kernel
theorem dLw_law_555 : decode code 555 = .ok (.i2d, 1) := by decide +kernel
theorem dLw_law_556 : decode code 556 = .ok (.ldc2_w 78, 3) := by decide +kernel
theorem dLw_law_559 : decode code 559 = .ok (.dmul, 1) := by decide +kernel
theorem dLw_law_560 : decode code 560 = .ok (.aload 4, 2) := by decide +kernel
theorem dLw_law_562 : decode code 562 = .ok (.invokestatic 99, 3) := by decide +kernel
theorem dLw_law_565 : decode code 565 = .ok (.istore 6, 2) := by decide +kernel
theorem dLw_law_567 : decode code 567 = .ok (.aload_n 2, 1) := by decide +kernel
theorem dLw_law_568 : decode code 568 = .ok (.aload_n 0, 1) := by decide +kernel
theorem dLw_law_569 : decode code 569 = .ok (.iload 5, 2) := by decide +kernel
theorem dLw_law_571 : decode code 571 = .ok (.iconst 1, 1) := by decide +kernel
theorem dLw_law_572 : decode code 572 = .ok (.iadd, 1) := by decide +kernel
theorem dLw_law_573 : decode code 573 = .ok (.iaload, 1) := by decide +kernel
theorem dLw_law_574 : decode code 574 = .ok (.aload_n 0, 1) := by decide +kernel
theorem dLw_law_575 : decode code 575 = .ok (.iload 5, 2) := by decide +kernel
theorem dLw_law_577 : decode code 577 = .ok (.iconst 2, 1) := by decide +kernel
theorem dLw_law_578 : decode code 578 = .ok (.iadd, 1) := by decide +kernel
theorem dLw_law_579 : decode code 579 = .ok (.iaload, 1) := by decide +kernel
theorem dLw_law_580 : decode code 580 = .ok (.i2d, 1) := by decide +kernel
theorem dLw_law_581 : decode code 581 = .ok (.ldc2_w 78, 3) := by decide +kernel
theorem dLw_law_584 : decode code 584 = .ok (.dmul, 1) := by decide +kernel
theorem dLw_law_585 : decode code 585 = .ok (.invokevirtual 102, 3) := by decide +kernel
theorem dLw_law_588 : decode code 588 = .ok (.dstore 7, 2) := by decide +kernel
theorem dLw_law_590 : decode code 590 = .ok (.aload_n 2, 1) := by decide +kernel
theorem dLw_law_591 : decode code 591 = .ok (.invokevirtual 74, 3) := by decide +kernel
theorem dLw_law_594 : decode code 594 = .ok (.iload 6, 2) := by decide +kernel
theorem dLw_law_596 : decode code 596 = .ok (.if_icmp .eq 5, 3) := by decide +kernel
theorem dLw_law_599 : decode code 599 = .ok (.iconst 0, 1) := by decide +kernel
theorem dLw_law_600 : decode code 600 = .ok (.ireturn, 1) := by decide +kernel
theorem dLw_law_601 : decode code 601 = .ok (.iload 6, 2) := by decide +kernel
theorem dLw_law_603 : decode code 603 = .ok (.ifCond .ne 35, 3) := by decide +kernel
theorem dLw_law_606 : decode code 606 = .ok (.aload 4, 2) := by decide +kernel
theorem dLw_law_608 : decode code 608 = .ok (.iconst 0, 1) := by decide +kernel
theorem dLw_law_609 : decode code 609 = .ok (.daload, 1) := by decide +kernel
theorem dLw_law_610 : decode code 610 = .ok (.dload 7, 2) := by decide +kernel
theorem dLw_law_612 : decode code 612 = .ok (.dcmp .l, 1) := by decide +kernel
theorem dLw_law_613 : decode code 613 = .ok (.ifCond .eq 25, 3) := by decide +kernel
theorem dLw_law_616 : decode code 616 = .ok (.aload 4, 2) := by decide +kernel
theorem dLw_law_618 : decode code 618 = .ok (.iconst 0, 1) := by decide +kernel
theorem dLw_law_619 : decode code 619 = .ok (.daload, 1) := by decide +kernel
theorem dLw_law_620 : decode code 620 = .ok (.aload 4, 2) := by decide +kernel
theorem dLw_law_622 : decode code 622 = .ok (.iconst 0, 1) := by decide +kernel
theorem dLw_law_623 : decode code 623 = .ok (.daload, 1) := by decide +kernel
theorem dLw_law_624 : decode code 624 = .ok (.dcmp .l, 1) := by decide +kernel
theorem dLw_law_625 : decode code 625 = .ok (.ifCond .eq 11, 3) := by decide +kernel
theorem dLw_law_628 : decode code 628 = .ok (.dload 7, 2) := by decide +kernel
theorem dLw_law_630 : decode code 630 = .ok (.dload 7, 2) := by decide +kernel
theorem dLw_law_632 : decode code 632 = .ok (.dcmp .l, 1) := by decide +kernel
theorem dLw_law_633 : decode code 633 = .ok (.ifCond .ne 5, 3) := by decide +kernel
theorem dLw_law_636 : decode code 636 = .ok (.iconst 0, 1) := by decide +kernel
theorem dLw_law_637 : decode code 637 = .ok (.ireturn, 1) := by decide +kernel
theorem dLw_law_638 : decode code 638 = .ok (.goto 466, 3) := by decide +kernel
theorem dLw_law_641 : decode code 641 = .ok (.aload_n 1, 1) := by decide +kernel
theorem dLw_law_642 : decode code 642 = .ok (.aload_n 0, 1) := by decide +kernel
theorem dLw_law_643 : decode code 643 = .ok (.iload 5, 2) := by decide +kernel
theorem dLw_law_645 : decode code 645 = .ok (.iconst 1, 1) := by decide +kernel
theorem dLw_law_646 : decode code 646 = .ok (.iadd, 1) := by decide +kernel
theorem dLw_law_647 : decode code 647 = .ok (.iaload, 1) := by decide +kernel
theorem dLw_law_648 : decode code 648 = .ok (.aload_n 0, 1) := by decide +kernel
theorem dLw_law_649 : decode code 649 = .ok (.iload 5, 2) := by decide +kernel
theorem dLw_law_651 : decode code 651 = .ok (.iconst 2, 1) := by decide +kernel
theorem dLw_law_652 : decode code 652 = .ok (.iadd, 1) := by decide +kernel
theorem dLw_law_653 : decode code 653 = .ok (.iaload, 1) := by decide +kernel
theorem dLw_law_654 : decode code 654 = .ok (.aload_n 3, 1) := by decide +kernel
theorem dLw_law_655 : decode code 655 = .ok (.invokestatic 103, 3) := by decide +kernel
theorem dLw_law_658 : decode code 658 = .ok (.istore 6, 2) := by decide +kernel
theorem dLw_law_660 : decode code 660 = .ok (.aload_n 2, 1) := by decide +kernel
theorem dLw_law_661 : decode code 661 = .ok (.aload_n 0, 1) := by decide +kernel
theorem dLw_law_662 : decode code 662 = .ok (.iload 5, 2) := by decide +kernel
theorem dLw_law_664 : decode code 664 = .ok (.iconst 1, 1) := by decide +kernel
theorem dLw_law_665 : decode code 665 = .ok (.iadd, 1) := by decide +kernel
theorem dLw_law_666 : decode code 666 = .ok (.iaload, 1) := by decide +kernel
theorem dLw_law_667 : decode code 667 = .ok (.aload_n 0, 1) := by decide +kernel
theorem dLw_law_668 : decode code 668 = .ok (.iload 5, 2) := by decide +kernel
theorem dLw_law_670 : decode code 670 = .ok (.iconst 2, 1) := by decide +kernel
theorem dLw_law_671 : decode code 671 = .ok (.iadd, 1) := by decide +kernel
theorem dLw_law_672 : decode code 672 = .ok (.iaload, 1) := by decide +kernel
theorem dLw_law_673 : decode code 673 = .ok (.invokevirtual 105, 3) := by decide +kernel
theorem dLw_law_676 : decode code 676 = .ok (.istore 7, 2) := by decide +kernel
theorem dLw_law_678 : decode code 678 = .ok (.aload_n 2, 1) := by decide +kernel
theorem dLw_law_679 : decode code 679 = .ok (.invokevirtual 74, 3) := by decide +kernel
theorem dLw_law_682 : decode code 682 = .ok (.iload 6, 2) := by decide +kernel
theorem dLw_law_684 : decode code 684 = .ok (.if_icmp .eq 5, 3) := by decide +kernel
theorem dLw_law_687 : decode code 687 = .ok (.iconst 0, 1) := by decide +kernel
theorem dLw_law_688 : decode code 688 = .ok (.ireturn, 1) := by decide +kernel
theorem dLw_law_689 : decode code 689 = .ok (.iload 6, 2) := by decide +kernel
theorem dLw_law_691 : decode code 691 = .ok (.ifCond .ne 15, 3) := by decide +kernel
theorem dLw_law_694 : decode code 694 = .ok (.aload_n 3, 1) := by decide +kernel
theorem dLw_law_695 : decode code 695 = .ok (.iconst 0, 1) := by decide +kernel
theorem dLw_law_696 : decode code 696 = .ok (.laload, 1) := by decide +kernel
theorem dLw_law_697 : decode code 697 = .ok (.iload 7, 2) := by decide +kernel
theorem dLw_law_699 : decode code 699 = .ok (.i2l, 1) := by decide +kernel
theorem dLw_law_700 : decode code 700 = .ok (.lcmp, 1) := by decide +kernel
theorem dLw_law_701 : decode code 701 = .ok (.ifCond .eq 5, 3) := by decide +kernel
theorem dLw_law_704 : decode code 704 = .ok (.iconst 0, 1) := by decide +kernel
theorem dLw_law_705 : decode code 705 = .ok (.ireturn, 1) := by decide +kernel
theorem dLw_law_706 : decode code 706 = .ok (.goto 398, 3) := by decide +kernel
theorem dLw_law_709 : decode code 709 = .ok (.aload_n 1, 1) := by decide +kernel
theorem dLw_law_710 : decode code 710 = .ok (.aload_n 0, 1) := by decide +kernel
theorem dLw_law_711 : decode code 711 = .ok (.iload 5, 2) := by decide +kernel
theorem dLw_law_713 : decode code 713 = .ok (.iconst 1, 1) := by decide +kernel
theorem dLw_law_714 : decode code 714 = .ok (.iadd, 1) := by decide +kernel
theorem dLw_law_715 : decode code 715 = .ok (.iaload, 1) := by decide +kernel
theorem dLw_law_716 : decode code 716 = .ok (.aload_n 3, 1) := by decide +kernel
theorem dLw_law_717 : decode code 717 = .ok (.invokestatic 106, 3) := by decide +kernel
theorem dLw_law_720 : decode code 720 = .ok (.istore 6, 2) := by decide +kernel
theorem dLw_law_722 : decode code 722 = .ok (.aload_n 2, 1) := by decide +kernel
theorem dLw_law_723 : decode code 723 = .ok (.aload_n 0, 1) := by decide +kernel
theorem dLw_law_724 : decode code 724 = .ok (.iload 5, 2) := by decide +kernel
theorem dLw_law_726 : decode code 726 = .ok (.iconst 1, 1) := by decide +kernel
theorem dLw_law_727 : decode code 727 = .ok (.iadd, 1) := by decide +kernel
theorem dLw_law_728 : decode code 728 = .ok (.iaload, 1) := by decide +kernel
theorem dLw_law_729 : decode code 729 = .ok (.invokevirtual 108, 3) := by decide +kernel
theorem dLw_law_732 : decode code 732 = .ok (.istore 7, 2) := by decide +kernel
theorem dLw_law_734 : decode code 734 = .ok (.aload_n 2, 1) := by decide +kernel
theorem dLw_law_735 : decode code 735 = .ok (.invokevirtual 74, 3) := by decide +kernel
theorem dLw_law_738 : decode code 738 = .ok (.iload 6, 2) := by decide +kernel
theorem dLw_law_740 : decode code 740 = .ok (.if_icmp .eq 5, 3) := by decide +kernel
theorem dLw_law_743 : decode code 743 = .ok (.iconst 0, 1) := by decide +kernel
theorem dLw_law_744 : decode code 744 = .ok (.ireturn, 1) := by decide +kernel
theorem dLw_law_745 : decode code 745 = .ok (.iload 6, 2) := by decide +kernel
theorem dLw_law_747 : decode code 747 = .ok (.ifCond .ne 15, 3) := by decide +kernel
theorem dLw_law_750 : decode code 750 = .ok (.aload_n 3, 1) := by decide +kernel
theorem dLw_law_751 : decode code 751 = .ok (.iconst 0, 1) := by decide +kernel
theorem dLw_law_752 : decode code 752 = .ok (.laload, 1) := by decide +kernel
theorem dLw_law_753 : decode code 753 = .ok (.iload 7, 2) := by decide +kernel
theorem dLw_law_755 : decode code 755 = .ok (.i2l, 1) := by decide +kernel
theorem dLw_law_756 : decode code 756 = .ok (.lcmp, 1) := by decide +kernel
theorem dLw_law_757 : decode code 757 = .ok (.ifCond .eq 5, 3) := by decide +kernel
theorem dLw_law_760 : decode code 760 = .ok (.iconst 0, 1) := by decide +kernel
theorem dLw_law_761 : decode code 761 = .ok (.ireturn, 1) := by decide +kernel
theorem dLw_law_762 : decode code 762 = .ok (.goto 342, 3) := by decide +kernel
theorem dLw_law_765 : decode code 765 = .ok (.aload_n 1, 1) := by decide +kernel
theorem dLw_law_766 : decode code 766 = .ok (.invokevirtual 109, 3) := by decide +kernel
theorem dLw_law_769 : decode code 769 = .ok (.aload_n 2, 1) := by decide +kernel
theorem dLw_law_770 : decode code 770 = .ok (.invokevirtual 112, 3) := by decide +kernel
theorem dLw_law_773 : decode code 773 = .ok (.if_icmp .eq 331, 3) := by decide +kernel
theorem dLw_law_776 : decode code 776 = .ok (.iconst 0, 1) := by decide +kernel
theorem dLw_law_777 : decode code 777 = .ok (.ireturn, 1) := by decide +kernel
theorem dLw_law_778 : decode code 778 = .ok (.aload_n 1, 1) := by decide +kernel
theorem dLw_law_779 : decode code 779 = .ok (.invokevirtual 113, 3) := by decide +kernel
theorem dLw_law_782 : decode code 782 = .ok (.aload_n 2, 1) := by decide +kernel
theorem dLw_law_783 : decode code 783 = .ok (.invokevirtual 116, 3) := by decide +kernel
theorem dLw_law_786 : decode code 786 = .ok (.if_icmp .eq 318, 3) := by decide +kernel
theorem dLw_law_789 : decode code 789 = .ok (.iconst 0, 1) := by decide +kernel
theorem dLw_law_790 : decode code 790 = .ok (.ireturn, 1) := by decide +kernel
theorem dLw_law_791 : decode code 791 = .ok (.aload_n 1, 1) := by decide +kernel
theorem dLw_law_792 : decode code 792 = .ok (.aload_n 0, 1) := by decide +kernel
theorem dLw_law_793 : decode code 793 = .ok (.iload 5, 2) := by decide +kernel
theorem dLw_law_795 : decode code 795 = .ok (.iconst 1, 1) := by decide +kernel
theorem dLw_law_796 : decode code 796 = .ok (.iadd, 1) := by decide +kernel
theorem dLw_law_797 : decode code 797 = .ok (.iaload, 1) := by decide +kernel
theorem dLw_law_798 : decode code 798 = .ok (.aload_n 3, 1) := by decide +kernel
theorem dLw_law_799 : decode code 799 = .ok (.invokestatic 117, 3) := by decide +kernel
theorem dLw_law_802 : decode code 802 = .ok (.istore 6, 2) := by decide +kernel
theorem dLw_law_804 : decode code 804 = .ok (.aload_n 2, 1) := by decide +kernel
theorem dLw_law_805 : decode code 805 = .ok (.aload_n 0, 1) := by decide +kernel
theorem dLw_law_806 : decode code 806 = .ok (.iload 5, 2) := by decide +kernel
theorem dLw_law_808 : decode code 808 = .ok (.iconst 1, 1) := by decide +kernel
theorem dLw_law_809 : decode code 809 = .ok (.iadd, 1) := by decide +kernel
theorem dLw_law_810 : decode code 810 = .ok (.iaload, 1) := by decide +kernel
theorem dLw_law_811 : decode code 811 = .ok (.invokevirtual 119, 3) := by decide +kernel
theorem dLw_law_814 : decode code 814 = .ok (.istore 7, 2) := by decide +kernel
theorem dLw_law_816 : decode code 816 = .ok (.aload_n 2, 1) := by decide +kernel
theorem dLw_law_817 : decode code 817 = .ok (.invokevirtual 74, 3) := by decide +kernel
theorem dLw_law_820 : decode code 820 = .ok (.iload 6, 2) := by decide +kernel
theorem dLw_law_822 : decode code 822 = .ok (.if_icmp .eq 5, 3) := by decide +kernel
theorem dLw_law_825 : decode code 825 = .ok (.iconst 0, 1) := by decide +kernel
theorem dLw_law_826 : decode code 826 = .ok (.ireturn, 1) := by decide +kernel
theorem dLw_law_827 : decode code 827 = .ok (.iload 6, 2) := by decide +kernel
theorem dLw_law_829 : decode code 829 = .ok (.ifCond .ne 15, 3) := by decide +kernel
theorem dLw_law_832 : decode code 832 = .ok (.aload_n 3, 1) := by decide +kernel
theorem dLw_law_833 : decode code 833 = .ok (.iconst 0, 1) := by decide +kernel
theorem dLw_law_834 : decode code 834 = .ok (.laload, 1) := by decide +kernel
theorem dLw_law_835 : decode code 835 = .ok (.iload 7, 2) := by decide +kernel
theorem dLw_law_837 : decode code 837 = .ok (.i2l, 1) := by decide +kernel
theorem dLw_law_838 : decode code 838 = .ok (.lcmp, 1) := by decide +kernel
theorem dLw_law_839 : decode code 839 = .ok (.ifCond .eq 5, 3) := by decide +kernel
theorem dLw_law_842 : decode code 842 = .ok (.iconst 0, 1) := by decide +kernel
theorem dLw_law_843 : decode code 843 = .ok (.ireturn, 1) := by decide +kernel
theorem dLw_law_844 : decode code 844 = .ok (.goto 260, 3) := by decide +kernel
theorem dLw_law_847 : decode code 847 = .ok (.aload_n 1, 1) := by decide +kernel
theorem dLw_law_848 : decode code 848 = .ok (.aload_n 0, 1) := by decide +kernel
theorem dLw_law_849 : decode code 849 = .ok (.iload 5, 2) := by decide +kernel
theorem dLw_law_851 : decode code 851 = .ok (.iconst 1, 1) := by decide +kernel
theorem dLw_law_852 : decode code 852 = .ok (.iadd, 1) := by decide +kernel
theorem dLw_law_853 : decode code 853 = .ok (.iaload, 1) := by decide +kernel
theorem dLw_law_854 : decode code 854 = .ok (.aload_n 3, 1) := by decide +kernel
theorem dLw_law_855 : decode code 855 = .ok (.invokestatic 120, 3) := by decide +kernel
theorem dLw_law_858 : decode code 858 = .ok (.istore 6, 2) := by decide +kernel
theorem dLw_law_860 : decode code 860 = .ok (.aload_n 2, 1) := by decide +kernel
theorem dLw_law_861 : decode code 861 = .ok (.aload_n 0, 1) := by decide +kernel
theorem dLw_law_862 : decode code 862 = .ok (.iload 5, 2) := by decide +kernel
theorem dLw_law_864 : decode code 864 = .ok (.iconst 1, 1) := by decide +kernel
theorem dLw_law_865 : decode code 865 = .ok (.iadd, 1) := by decide +kernel
theorem dLw_law_866 : decode code 866 = .ok (.iaload, 1) := by decide +kernel
theorem dLw_law_867 : decode code 867 = .ok (.invokevirtual 122, 3) := by decide +kernel
theorem dLw_law_870 : decode code 870 = .ok (.istore 7, 2) := by decide +kernel
theorem dLw_law_872 : decode code 872 = .ok (.aload_n 2, 1) := by decide +kernel
theorem dLw_law_873 : decode code 873 = .ok (.invokevirtual 74, 3) := by decide +kernel
theorem dLw_law_876 : decode code 876 = .ok (.iload 6, 2) := by decide +kernel
theorem dLw_law_878 : decode code 878 = .ok (.if_icmp .eq 5, 3) := by decide +kernel
theorem dLw_law_881 : decode code 881 = .ok (.iconst 0, 1) := by decide +kernel
theorem dLw_law_882 : decode code 882 = .ok (.ireturn, 1) := by decide +kernel
theorem dLw_law_883 : decode code 883 = .ok (.iload 6, 2) := by decide +kernel
theorem dLw_law_885 : decode code 885 = .ok (.ifCond .ne 15, 3) := by decide +kernel
theorem dLw_law_888 : decode code 888 = .ok (.aload_n 3, 1) := by decide +kernel
theorem dLw_law_889 : decode code 889 = .ok (.iconst 0, 1) := by decide +kernel
theorem dLw_law_890 : decode code 890 = .ok (.laload, 1) := by decide +kernel
theorem dLw_law_891 : decode code 891 = .ok (.iload 7, 2) := by decide +kernel
theorem dLw_law_893 : decode code 893 = .ok (.i2l, 1) := by decide +kernel
theorem dLw_law_894 : decode code 894 = .ok (.lcmp, 1) := by decide +kernel
theorem dLw_law_895 : decode code 895 = .ok (.ifCond .eq 5, 3) := by decide +kernel
theorem dLw_law_898 : decode code 898 = .ok (.iconst 0, 1) := by decide +kernel
theorem dLw_law_899 : decode code 899 = .ok (.ireturn, 1) := by decide +kernel
theorem dLw_law_900 : decode code 900 = .ok (.goto 204, 3) := by decide +kernel
theorem dLw_law_903 : decode code 903 = .ok (.aload_n 1, 1) := by decide +kernel
theorem dLw_law_904 : decode code 904 = .ok (.aload_n 0, 1) := by decide +kernel
theorem dLw_law_905 : decode code 905 = .ok (.iload 5, 2) := by decide +kernel
theorem dLw_law_907 : decode code 907 = .ok (.iconst 1, 1) := by decide +kernel
theorem dLw_law_908 : decode code 908 = .ok (.iadd, 1) := by decide +kernel
theorem dLw_law_909 : decode code 909 = .ok (.iaload, 1) := by decide +kernel
theorem dLw_law_910 : decode code 910 = .ok (.aload 4, 2) := by decide +kernel
theorem dLw_law_912 : decode code 912 = .ok (.invokestatic 123, 3) := by decide +kernel
theorem dLw_law_915 : decode code 915 = .ok (.istore 6, 2) := by decide +kernel
theorem dLw_law_917 : decode code 917 = .ok (.aload_n 2, 1) := by decide +kernel
theorem dLw_law_918 : decode code 918 = .ok (.aload_n 0, 1) := by decide +kernel
theorem dLw_law_919 : decode code 919 = .ok (.iload 5, 2) := by decide +kernel
theorem dLw_law_921 : decode code 921 = .ok (.iconst 1, 1) := by decide +kernel
theorem dLw_law_922 : decode code 922 = .ok (.iadd, 1) := by decide +kernel
theorem dLw_law_923 : decode code 923 = .ok (.iaload, 1) := by decide +kernel
theorem dLw_law_924 : decode code 924 = .ok (.invokevirtual 126, 3) := by decide +kernel
theorem dLw_law_927 : decode code 927 = .ok (.dstore 7, 2) := by decide +kernel
theorem dLw_law_929 : decode code 929 = .ok (.aload_n 2, 1) := by decide +kernel
theorem dLw_law_930 : decode code 930 = .ok (.invokevirtual 74, 3) := by decide +kernel
theorem dLw_law_933 : decode code 933 = .ok (.iload 6, 2) := by decide +kernel
theorem dLw_law_935 : decode code 935 = .ok (.if_icmp .eq 5, 3) := by decide +kernel
theorem dLw_law_938 : decode code 938 = .ok (.iconst 0, 1) := by decide +kernel
theorem dLw_law_939 : decode code 939 = .ok (.ireturn, 1) := by decide +kernel
theorem dLw_law_940 : decode code 940 = .ok (.iload 6, 2) := by decide +kernel
theorem dLw_law_942 : decode code 942 = .ok (.ifCond .ne 35, 3) := by decide +kernel
theorem dLw_law_945 : decode code 945 = .ok (.aload 4, 2) := by decide +kernel
theorem dLw_law_947 : decode code 947 = .ok (.iconst 0, 1) := by decide +kernel
theorem dLw_law_948 : decode code 948 = .ok (.daload, 1) := by decide +kernel
theorem dLw_law_949 : decode code 949 = .ok (.dload 7, 2) := by decide +kernel
theorem dLw_law_951 : decode code 951 = .ok (.dcmp .l, 1) := by decide +kernel
theorem dLw_law_952 : decode code 952 = .ok (.ifCond .eq 25, 3) := by decide +kernel
theorem dLw_law_955 : decode code 955 = .ok (.aload 4, 2) := by decide +kernel
theorem dLw_law_957 : decode code 957 = .ok (.iconst 0, 1) := by decide +kernel
theorem dLw_law_958 : decode code 958 = .ok (.daload, 1) := by decide +kernel
theorem dLw_law_959 : decode code 959 = .ok (.aload 4, 2) := by decide +kernel
theorem dLw_law_961 : decode code 961 = .ok (.iconst 0, 1) := by decide +kernel
theorem dLw_law_962 : decode code 962 = .ok (.daload, 1) := by decide +kernel
theorem dLw_law_963 : decode code 963 = .ok (.dcmp .l, 1) := by decide +kernel
theorem dLw_law_964 : decode code 964 = .ok (.ifCond .eq 11, 3) := by decide +kernel
theorem dLw_law_967 : decode code 967 = .ok (.dload 7, 2) := by decide +kernel
theorem dLw_law_969 : decode code 969 = .ok (.dload 7, 2) := by decide +kernel
theorem dLw_law_971 : decode code 971 = .ok (.dcmp .l, 1) := by decide +kernel
theorem dLw_law_972 : decode code 972 = .ok (.ifCond .ne 5, 3) := by decide +kernel
theorem dLw_law_975 : decode code 975 = .ok (.iconst 0, 1) := by decide +kernel
theorem dLw_law_976 : decode code 976 = .ok (.ireturn, 1) := by decide +kernel
theorem dLw_law_977 : decode code 977 = .ok (.goto 127, 3) := by decide +kernel
theorem dLw_law_980 : decode code 980 = .ok (.aload_n 1, 1) := by decide +kernel
theorem dLw_law_981 : decode code 981 = .ok (.aload_n 0, 1) := by decide +kernel
theorem dLw_law_982 : decode code 982 = .ok (.iload 5, 2) := by decide +kernel
theorem dLw_law_984 : decode code 984 = .ok (.iconst 1, 1) := by decide +kernel
theorem dLw_law_985 : decode code 985 = .ok (.iadd, 1) := by decide +kernel
theorem dLw_law_986 : decode code 986 = .ok (.iaload, 1) := by decide +kernel
theorem dLw_law_987 : decode code 987 = .ok (.aload_n 0, 1) := by decide +kernel
theorem dLw_law_988 : decode code 988 = .ok (.iload 5, 2) := by decide +kernel
theorem dLw_law_990 : decode code 990 = .ok (.iconst 2, 1) := by decide +kernel
theorem dLw_law_991 : decode code 991 = .ok (.iadd, 1) := by decide +kernel
theorem dLw_law_992 : decode code 992 = .ok (.iaload, 1) := by decide +kernel
theorem dLw_law_993 : decode code 993 = .ok (.aload_n 3, 1) := by decide +kernel
theorem dLw_law_994 : decode code 994 = .ok (.invokestatic 127, 3) := by decide +kernel
theorem dLw_law_997 : decode code 997 = .ok (.istore 6, 2) := by decide +kernel
theorem dLw_law_999 : decode code 999 = .ok (.aload_n 2, 1) := by decide +kernel
theorem dLw_law_1000 : decode code 1000 = .ok (.aload_n 0, 1) := by decide +kernel
theorem dLw_law_1001 : decode code 1001 = .ok (.iload 5, 2) := by decide +kernel
theorem dLw_law_1003 : decode code 1003 = .ok (.iconst 1, 1) := by decide +kernel
theorem dLw_law_1004 : decode code 1004 = .ok (.iadd, 1) := by decide +kernel
theorem dLw_law_1005 : decode code 1005 = .ok (.iaload, 1) := by decide +kernel
theorem dLw_law_1006 : decode code 1006 = .ok (.aload_n 0, 1) := by decide +kernel
theorem dLw_law_1007 : decode code 1007 = .ok (.iload 5, 2) := by decide +kernel
theorem dLw_law_1009 : decode code 1009 = .ok (.iconst 2, 1) := by decide +kernel
theorem dLw_law_1010 : decode code 1010 = .ok (.iadd, 1) := by decide +kernel
theorem dLw_law_1011 : decode code 1011 = .ok (.iaload, 1) := by decide +kernel
theorem dLw_law_1012 : decode code 1012 = .ok (.invokevirtual 129, 3) := by decide +kernel
theorem dLw_law_1015 : decode code 1015 = .ok (.istore 7, 2) := by decide +kernel
theorem dLw_law_1017 : decode code 1017 = .ok (.aload_n 2, 1) := by decide +kernel
theorem dLw_law_1018 : decode code 1018 = .ok (.invokevirtual 74, 3) := by decide +kernel
theorem dLw_law_1021 : decode code 1021 = .ok (.iload 6, 2) := by decide +kernel
theorem dLw_law_1023 : decode code 1023 = .ok (.if_icmp .eq 5, 3) := by decide +kernel
theorem dLw_law_1026 : decode code 1026 = .ok (.iconst 0, 1) := by decide +kernel
theorem dLw_law_1027 : decode code 1027 = .ok (.ireturn, 1) := by decide +kernel
theorem dLw_law_1028 : decode code 1028 = .ok (.iload 6, 2) := by decide +kernel
theorem dLw_law_1030 : decode code 1030 = .ok (.ifCond .ne 15, 3) := by decide +kernel
theorem dLw_law_1033 : decode code 1033 = .ok (.aload_n 3, 1) := by decide +kernel
theorem dLw_law_1034 : decode code 1034 = .ok (.iconst 0, 1) := by decide +kernel
theorem dLw_law_1035 : decode code 1035 = .ok (.laload, 1) := by decide +kernel
theorem dLw_law_1036 : decode code 1036 = .ok (.iload 7, 2) := by decide +kernel
theorem dLw_law_1038 : decode code 1038 = .ok (.i2l, 1) := by decide +kernel
theorem dLw_law_1039 : decode code 1039 = .ok (.lcmp, 1) := by decide +kernel
theorem dLw_law_1040 : decode code 1040 = .ok (.ifCond .eq 5, 3) := by decide +kernel
theorem dLw_law_1043 : decode code 1043 = .ok (.iconst 0, 1) := by decide +kernel
theorem dLw_law_1044 : decode code 1044 = .ok (.ireturn, 1) := by decide +kernel
theorem dLw_law_1045 : decode code 1045 = .ok (.goto 59, 3) := by decide +kernel
theorem dLw_law_1048 : decode code 1048 = .ok (.aload_n 1, 1) := by decide +kernel
theorem dLw_law_1049 : decode code 1049 = .ok (.aload_n 0, 1) := by decide +kernel
theorem dLw_law_1050 : decode code 1050 = .ok (.iload 5, 2) := by decide +kernel
theorem dLw_law_1052 : decode code 1052 = .ok (.iconst 1, 1) := by decide +kernel
theorem dLw_law_1053 : decode code 1053 = .ok (.iadd, 1) := by decide +kernel
theorem dLw_law_1054 : decode code 1054 = .ok (.iaload, 1) := by decide +kernel
theorem dLw_law_1055 : decode code 1055 = .ok (.aload_n 3, 1) := by decide +kernel
theorem dLw_law_1056 : decode code 1056 = .ok (.invokestatic 130, 3) := by decide +kernel
theorem dLw_law_1059 : decode code 1059 = .ok (.istore 6, 2) := by decide +kernel
theorem dLw_law_1061 : decode code 1061 = .ok (.aload_n 2, 1) := by decide +kernel
theorem dLw_law_1062 : decode code 1062 = .ok (.aload_n 0, 1) := by decide +kernel
theorem dLw_law_1063 : decode code 1063 = .ok (.iload 5, 2) := by decide +kernel
theorem dLw_law_1065 : decode code 1065 = .ok (.iconst 1, 1) := by decide +kernel
theorem dLw_law_1066 : decode code 1066 = .ok (.iadd, 1) := by decide +kernel
theorem dLw_law_1067 : decode code 1067 = .ok (.iaload, 1) := by decide +kernel
theorem dLw_law_1068 : decode code 1068 = .ok (.invokevirtual 132, 3) := by decide +kernel
theorem dLw_law_1071 : decode code 1071 = .ok (.istore 7, 2) := by decide +kernel
theorem dLw_law_1073 : decode code 1073 = .ok (.aload_n 2, 1) := by decide +kernel
theorem dLw_law_1074 : decode code 1074 = .ok (.invokevirtual 74, 3) := by decide +kernel
theorem dLw_law_1077 : decode code 1077 = .ok (.iload 6, 2) := by decide +kernel
theorem dLw_law_1079 : decode code 1079 = .ok (.if_icmp .eq 5, 3) := by decide +kernel
theorem dLw_law_1082 : decode code 1082 = .ok (.iconst 0, 1) := by decide +kernel
theorem dLw_law_1083 : decode code 1083 = .ok (.ireturn, 1) := by decide +kernel
theorem dLw_law_1084 : decode code 1084 = .ok (.iload 6, 2) := by decide +kernel
theorem dLw_law_1086 : decode code 1086 = .ok (.ifCond .ne 15, 3) := by decide +kernel
theorem dLw_law_1089 : decode code 1089 = .ok (.aload_n 3, 1) := by decide +kernel
theorem dLw_law_1090 : decode code 1090 = .ok (.iconst 0, 1) := by decide +kernel
theorem dLw_law_1091 : decode code 1091 = .ok (.laload, 1) := by decide +kernel
theorem dLw_law_1092 : decode code 1092 = .ok (.iload 7, 2) := by decide +kernel
theorem dLw_law_1094 : decode code 1094 = .ok (.i2l, 1) := by decide +kernel
theorem dLw_law_1095 : decode code 1095 = .ok (.lcmp, 1) := by decide +kernel
theorem dLw_law_1096 : decode code 1096 = .ok (.ifCond .eq 5, 3) := by decide +kernel
theorem dLw_law_1099 : decode code 1099 = .ok (.iconst 0, 1) := by decide +kernel
theorem dLw_law_1100 : decode code 1100 = .ok (.ireturn, 1) := by decide +kernel
theorem dLw_law_1101 : decode code 1101 = .ok (.goto 3, 3) := by decide +kernel
theorem dLw_law_1104 : decode code 1104 = .ok (.iinc 5 4, 3) := by decide +kernel
theorem dLw_law_1107 : decode code 1107 = .ok (.goto (-1079), 3) := by decide +kernel
theorem dLw_law_1110 : decode code 1110 = .ok (.iconst 1, 1) := by decide +kernel
theorem dLw_law_1111 : decode code 1111 = .ok (.ireturn, 1) := by decide +kernel
