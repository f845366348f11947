/-! decode rows of LadderScan$Ladder -/
theorem dLa_init_0 : decode bLa_init 0 = .ok (.aload_n 0, 1) := by decide +kernel
theorem dLa_init_1 : decode bLa_init 1 = .ok (.invokespecial 3, 3) := by decide +kernel
theorem dLa_init_4 : decode bLa_init 4 = .ok (.aload_n 0, 1) := by decide +kernel
theorem dLa_init_5 : decode bLa_init 5 = .ok (.bipush 120, 2) := by decide +kernel
theorem dLa_init_7 : decode bLa_init 7 = .ok (.newarray .int, 2) := by decide +kernel
theorem dLa_init_9 : decode bLa_init 9 = .ok (.putfield 9, 3) := by decide +kernel
theorem dLa_init_12 : decode bLa_init 12 = .ok (.aload_n 0, 1) := by decide +kernel
theorem dLa_init_13 : decode bLa_init 13 = .ok (.bipush 120, 2) := by decide +kernel
theorem dLa_init_15 : decode bLa_init 15 = .ok (.newarray .int, 2) := by decide +kernel
theorem dLa_init_17 : decode bLa_init 17 = .ok (.putfield 15, 3) := by decide +kernel
theorem dLa_init_20 : decode bLa_init 20 = .ok (.aload_n 0, 1) := by decide +kernel
theorem dLa_init_21 : decode bLa_init 21 = .ok (.bipush 12, 2) := by decide +kernel
theorem dLa_init_23 : decode bLa_init 23 = .ok (.newarray .int, 2) := by decide +kernel
theorem dLa_init_25 : decode bLa_init 25 = .ok (.putfield 18, 3) := by decide +kernel
theorem dLa_init_28 : decode bLa_init 28 = .ok (.aload_n 0, 1) := by decide +kernel
theorem dLa_init_29 : decode bLa_init 29 = .ok (.bipush 12, 2) := by decide +kernel
theorem dLa_init_31 : decode bLa_init 31 = .ok (.newarray .int, 2) := by decide +kernel
theorem dLa_init_33 : decode bLa_init 33 = .ok (.putfield 21, 3) := by decide +kernel
theorem dLa_init_36 : decode bLa_init 36 = .ok (.return_, 1) := by decide +kernel
theorem dLa_isFull_0 : decode bLa_isFull 0 = .ok (.aload_n 0, 1) := by decide +kernel
theorem dLa_isFull_1 : decode bLa_isFull 1 = .ok (.getfield 18, 3) := by decide +kernel
theorem dLa_isFull_4 : decode bLa_isFull 4 = .ok (.iload_n 1, 1) := by decide +kernel
theorem dLa_isFull_5 : decode bLa_isFull 5 = .ok (.iaload, 1) := by decide +kernel
theorem dLa_isFull_6 : decode bLa_isFull 6 = .ok (.bipush 10, 2) := by decide +kernel
theorem dLa_isFull_8 : decode bLa_isFull 8 = .ok (.if_icmp .lt 7, 3) := by decide +kernel
theorem dLa_isFull_11 : decode bLa_isFull 11 = .ok (.iconst 1, 1) := by decide +kernel
theorem dLa_isFull_12 : decode bLa_isFull 12 = .ok (.goto 4, 3) := by decide +kernel
theorem dLa_isFull_15 : decode bLa_isFull 15 = .ok (.iconst 0, 1) := by decide +kernel
theorem dLa_isFull_16 : decode bLa_isFull 16 = .ok (.ireturn, 1) := by decide +kernel
theorem dLa_stackAllows_0 : decode bLa_stackAllows 0 = .ok (.aload_n 0, 1) := by decide +kernel
theorem dLa_stackAllows_1 : decode bLa_stackAllows 1 = .ok (.getfield 21, 3) := by decide +kernel
theorem dLa_stackAllows_4 : decode bLa_stackAllows 4 = .ok (.iload_n 1, 1) := by decide +kernel
theorem dLa_stackAllows_5 : decode bLa_stackAllows 5 = .ok (.iaload, 1) := by decide +kernel
theorem dLa_stackAllows_6 : decode bLa_stackAllows 6 = .ok (.iload_n 2, 1) := by decide +kernel
theorem dLa_stackAllows_7 : decode bLa_stackAllows 7 = .ok (.invokestatic 24, 3) := by decide +kernel
theorem dLa_stackAllows_10 : decode bLa_stackAllows 10 = .ok (.if_icmp .lt 22, 3) := by decide +kernel
theorem dLa_stackAllows_13 : decode bLa_stackAllows 13 = .ok (.aload_n 0, 1) := by decide +kernel
theorem dLa_stackAllows_14 : decode bLa_stackAllows 14 = .ok (.getfield 21, 3) := by decide +kernel
theorem dLa_stackAllows_17 : decode bLa_stackAllows 17 = .ok (.iload_n 1, 1) := by decide +kernel
theorem dLa_stackAllows_18 : decode bLa_stackAllows 18 = .ok (.iaload, 1) := by decide +kernel
theorem dLa_stackAllows_19 : decode bLa_stackAllows 19 = .ok (.iload_n 2, 1) := by decide +kernel
theorem dLa_stackAllows_20 : decode bLa_stackAllows 20 = .ok (.invokestatic 28, 3) := by decide +kernel
theorem dLa_stackAllows_23 : decode bLa_stackAllows 23 = .ok (.iadd, 1) := by decide +kernel
theorem dLa_stackAllows_24 : decode bLa_stackAllows 24 = .ok (.iconst 4, 1) := by decide +kernel
theorem dLa_stackAllows_25 : decode bLa_stackAllows 25 = .ok (.if_icmp .gt 7, 3) := by decide +kernel
theorem dLa_stackAllows_28 : decode bLa_stackAllows 28 = .ok (.iconst 1, 1) := by decide +kernel
theorem dLa_stackAllows_29 : decode bLa_stackAllows 29 = .ok (.goto 4, 3) := by decide +kernel
theorem dLa_stackAllows_32 : decode bLa_stackAllows 32 = .ok (.iconst 0, 1) := by decide +kernel
theorem dLa_stackAllows_33 : decode bLa_stackAllows 33 = .ok (.ireturn, 1) := by decide +kernel
theorem dLa_add_0 : decode bLa_add 0 = .ok (.iload_n 1, 1) := by decide +kernel
theorem dLa_add_1 : decode bLa_add 1 = .ok (.bipush 10, 2) := by decide +kernel
theorem dLa_add_3 : decode bLa_add 3 = .ok (.imul, 1) := by decide +kernel
theorem dLa_add_4 : decode bLa_add 4 = .ok (.aload_n 0, 1) := by decide +kernel
theorem dLa_add_5 : decode bLa_add 5 = .ok (.getfield 18, 3) := by decide +kernel
theorem dLa_add_8 : decode bLa_add 8 = .ok (.iload_n 1, 1) := by decide +kernel
theorem dLa_add_9 : decode bLa_add 9 = .ok (.iaload, 1) := by decide +kernel
theorem dLa_add_10 : decode bLa_add 10 = .ok (.iadd, 1) := by decide +kernel
theorem dLa_add_11 : decode bLa_add 11 = .ok (.istore 4, 2) := by decide +kernel
theorem dLa_add_13 : decode bLa_add 13 = .ok (.aload_n 0, 1) := by decide +kernel
theorem dLa_add_14 : decode bLa_add 14 = .ok (.getfield 9, 3) := by decide +kernel
theorem dLa_add_17 : decode bLa_add 17 = .ok (.iload 4, 2) := by decide +kernel
theorem dLa_add_19 : decode bLa_add 19 = .ok (.iload_n 2, 1) := by decide +kernel
theorem dLa_add_20 : decode bLa_add 20 = .ok (.iastore, 1) := by decide +kernel
theorem dLa_add_21 : decode bLa_add 21 = .ok (.aload_n 0, 1) := by decide +kernel
theorem dLa_add_22 : decode bLa_add 22 = .ok (.getfield 15, 3) := by decide +kernel
theorem dLa_add_25 : decode bLa_add 25 = .ok (.iload 4, 2) := by decide +kernel
theorem dLa_add_27 : decode bLa_add 27 = .ok (.iload_n 3, 1) := by decide +kernel
theorem dLa_add_28 : decode bLa_add 28 = .ok (.iastore, 1) := by decide +kernel
theorem dLa_add_29 : decode bLa_add 29 = .ok (.aload_n 0, 1) := by decide +kernel
theorem dLa_add_30 : decode bLa_add 30 = .ok (.getfield 18, 3) := by decide +kernel
theorem dLa_add_33 : decode bLa_add 33 = .ok (.iload_n 1, 1) := by decide +kernel
theorem dLa_add_34 : decode bLa_add 34 = .ok (.dup2, 1) := by decide +kernel
theorem dLa_add_35 : decode bLa_add 35 = .ok (.iaload, 1) := by decide +kernel
theorem dLa_add_36 : decode bLa_add 36 = .ok (.iconst 1, 1) := by decide +kernel
theorem dLa_add_37 : decode bLa_add 37 = .ok (.iadd, 1) := by decide +kernel
theorem dLa_add_38 : decode bLa_add 38 = .ok (.iastore, 1) := by decide +kernel
theorem dLa_add_39 : decode bLa_add 39 = .ok (.aload_n 0, 1) := by decide +kernel
theorem dLa_add_40 : decode bLa_add 40 = .ok (.getfield 21, 3) := by decide +kernel
theorem dLa_add_43 : decode bLa_add 43 = .ok (.iload_n 1, 1) := by decide +kernel
theorem dLa_add_44 : decode bLa_add 44 = .ok (.dup2, 1) := by decide +kernel
theorem dLa_add_45 : decode bLa_add 45 = .ok (.iaload, 1) := by decide +kernel
theorem dLa_add_46 : decode bLa_add 46 = .ok (.iload_n 2, 1) := by decide +kernel
theorem dLa_add_47 : decode bLa_add 47 = .ok (.invokestatic 28, 3) := by decide +kernel
theorem dLa_add_50 : decode bLa_add 50 = .ok (.iadd, 1) := by decide +kernel
theorem dLa_add_51 : decode bLa_add 51 = .ok (.iastore, 1) := by decide +kernel
theorem dLa_add_52 : decode bLa_add 52 = .ok (.aload_n 0, 1) := by decide +kernel
theorem dLa_add_53 : decode bLa_add 53 = .ok (.getfield 21, 3) := by decide +kernel
theorem dLa_add_56 : decode bLa_add 56 = .ok (.iload_n 1, 1) := by decide +kernel
theorem dLa_add_57 : decode bLa_add 57 = .ok (.iaload, 1) := by decide +kernel
theorem dLa_add_58 : decode bLa_add 58 = .ok (.ireturn, 1) := by decide +kernel
theorem dLa_empty_0 : decode bLa_empty 0 = .ok (.aload_n 0, 1) := by decide +kernel
theorem dLa_empty_1 : decode bLa_empty 1 = .ok (.getfield 18, 3) := by decide +kernel
theorem dLa_empty_4 : decode bLa_empty 4 = .ok (.iload_n 1, 1) := by decide +kernel
theorem dLa_empty_5 : decode bLa_empty 5 = .ok (.iaload, 1) := by decide +kernel
theorem dLa_empty_6 : decode bLa_empty 6 = .ok (.istore_n 2, 1) := by decide +kernel
theorem dLa_empty_7 : decode bLa_empty 7 = .ok (.aload_n 0, 1) := by decide +kernel
theorem dLa_empty_8 : decode bLa_empty 8 = .ok (.getfield 18, 3) := by decide +kernel
theorem dLa_empty_11 : decode bLa_empty 11 = .ok (.iload_n 1, 1) := by decide +kernel
theorem dLa_empty_12 : decode bLa_empty 12 = .ok (.iconst 0, 1) := by decide +kernel
theorem dLa_empty_13 : decode bLa_empty 13 = .ok (.iastore, 1) := by decide +kernel
theorem dLa_empty_14 : decode bLa_empty 14 = .ok (.aload_n 0, 1) := by decide +kernel
theorem dLa_empty_15 : decode bLa_empty 15 = .ok (.getfield 21, 3) := by decide +kernel
theorem dLa_empty_18 : decode bLa_empty 18 = .ok (.iload_n 1, 1) := by decide +kernel
theorem dLa_empty_19 : decode bLa_empty 19 = .ok (.iconst 0, 1) := by decide +kernel
theorem dLa_empty_20 : decode bLa_empty 20 = .ok (.iastore, 1) := by decide +kernel
theorem dLa_empty_21 : decode bLa_empty 21 = .ok (.iload_n 2, 1) := by decide +kernel
theorem dLa_empty_22 : decode bLa_empty 22 = .ok (.ireturn, 1) := by decide +kernel
theorem dLa_copyFrom_0 : decode bLa_copyFrom 0 = .ok (.aload_n 1, 1) := by decide +kernel
theorem dLa_copyFrom_1 : decode bLa_copyFrom 1 = .ok (.getfield 9, 3) := by decide +kernel
theorem dLa_copyFrom_4 : decode bLa_copyFrom 4 = .ok (.iconst 0, 1) := by decide +kernel
theorem dLa_copyFrom_5 : decode bLa_copyFrom 5 = .ok (.aload_n 0, 1) := by decide +kernel
theorem dLa_copyFrom_6 : decode bLa_copyFrom 6 = .ok (.getfield 9, 3) := by decide +kernel
theorem dLa_copyFrom_9 : decode bLa_copyFrom 9 = .ok (.iconst 0, 1) := by decide +kernel
theorem dLa_copyFrom_10 : decode bLa_copyFrom 10 = .ok (.bipush 120, 2) := by decide +kernel
theorem dLa_copyFrom_12 : decode bLa_copyFrom 12 = .ok (.invokestatic 31, 3) := by decide +kernel
theorem dLa_copyFrom_15 : decode bLa_copyFrom 15 = .ok (.aload_n 1, 1) := by decide +kernel
theorem dLa_copyFrom_16 : decode bLa_copyFrom 16 = .ok (.getfield 15, 3) := by decide +kernel
theorem dLa_copyFrom_19 : decode bLa_copyFrom 19 = .ok (.iconst 0, 1) := by decide +kernel
theorem dLa_copyFrom_20 : decode bLa_copyFrom 20 = .ok (.aload_n 0, 1) := by decide +kernel
theorem dLa_copyFrom_21 : decode bLa_copyFrom 21 = .ok (.getfield 15, 3) := by decide +kernel
theorem dLa_copyFrom_24 : decode bLa_copyFrom 24 = .ok (.iconst 0, 1) := by decide +kernel
theorem dLa_copyFrom_25 : decode bLa_copyFrom 25 = .ok (.bipush 120, 2) := by decide +kernel
theorem dLa_copyFrom_27 : decode bLa_copyFrom 27 = .ok (.invokestatic 31, 3) := by decide +kernel
theorem dLa_copyFrom_30 : decode bLa_copyFrom 30 = .ok (.aload_n 1, 1) := by decide +kernel
theorem dLa_copyFrom_31 : decode bLa_copyFrom 31 = .ok (.getfield 18, 3) := by decide +kernel
theorem dLa_copyFrom_34 : decode bLa_copyFrom 34 = .ok (.iconst 0, 1) := by decide +kernel
theorem dLa_copyFrom_35 : decode bLa_copyFrom 35 = .ok (.aload_n 0, 1) := by decide +kernel
theorem dLa_copyFrom_36 : decode bLa_copyFrom 36 = .ok (.getfield 18, 3) := by decide +kernel
theorem dLa_copyFrom_39 : decode bLa_copyFrom 39 = .ok (.iconst 0, 1) := by decide +kernel
theorem dLa_copyFrom_40 : decode bLa_copyFrom 40 = .ok (.bipush 12, 2) := by decide +kernel
theorem dLa_copyFrom_42 : decode bLa_copyFrom 42 = .ok (.invokestatic 31, 3) := by decide +kernel
theorem dLa_copyFrom_45 : decode bLa_copyFrom 45 = .ok (.return_, 1) := by decide +kernel
theorem dLa_size_0 : decode bLa_size 0 = .ok (.iconst 0, 1) := by decide +kernel
theorem dLa_size_1 : decode bLa_size 1 = .ok (.istore_n 1, 1) := by decide +kernel
theorem dLa_size_2 : decode bLa_size 2 = .ok (.iconst 0, 1) := by decide +kernel
theorem dLa_size_3 : decode bLa_size 3 = .ok (.istore_n 2, 1) := by decide +kernel
theorem dLa_size_4 : decode bLa_size 4 = .ok (.iload_n 2, 1) := by decide +kernel
theorem dLa_size_5 : decode bLa_size 5 = .ok (.bipush 12, 2) := by decide +kernel
theorem dLa_size_7 : decode bLa_size 7 = .ok (.if_icmp .ge 18, 3) := by decide +kernel
theorem dLa_size_10 : decode bLa_size 10 = .ok (.iload_n 1, 1) := by decide +kernel
theorem dLa_size_11 : decode bLa_size 11 = .ok (.aload_n 0, 1) := by decide +kernel
theorem dLa_size_12 : decode bLa_size 12 = .ok (.getfield 18, 3) := by decide +kernel
theorem dLa_size_15 : decode bLa_size 15 = .ok (.iload_n 2, 1) := by decide +kernel
theorem dLa_size_16 : decode bLa_size 16 = .ok (.iaload, 1) := by decide +kernel
theorem dLa_size_17 : decode bLa_size 17 = .ok (.iadd, 1) := by decide +kernel
theorem dLa_size_18 : decode bLa_size 18 = .ok (.istore_n 1, 1) := by decide +kernel
theorem dLa_size_19 : decode bLa_size 19 = .ok (.iinc 2 1, 3) := by decide +kernel
theorem dLa_size_22 : decode bLa_size 22 = .ok (.goto (-18), 3) := by decide +kernel
theorem dLa_size_25 : decode bLa_size 25 = .ok (.iload_n 1, 1) := by decide +kernel
theorem dLa_size_26 : decode bLa_size 26 = .ok (.ireturn, 1) := by decide +kernel
theorem dLa_pushes_0 : decode bLa_pushes 0 = .ok (.iload_n 0, 1) := by decide +kernel
theorem dLa_pushes_1 : decode bLa_pushes 1 = .ok (.ifCond .eq 14, 3) := by decide +kernel
theorem dLa_pushes_4 : decode bLa_pushes 4 = .ok (.iload_n 0, 1) := by decide +kernel
theorem dLa_pushes_5 : decode bLa_pushes 5 = .ok (.iconst 1, 1) := by decide +kernel
theorem dLa_pushes_6 : decode bLa_pushes 6 = .ok (.if_icmp .eq 9, 3) := by decide +kernel
theorem dLa_pushes_9 : decode bLa_pushes 9 = .ok (.iload_n 0, 1) := by decide +kernel
theorem dLa_pushes_10 : decode bLa_pushes 10 = .ok (.bipush 8, 2) := by decide +kernel
theorem dLa_pushes_12 : decode bLa_pushes 12 = .ok (.if_icmp .ne 7, 3) := by decide +kernel
theorem dLa_pushes_15 : decode bLa_pushes 15 = .ok (.iconst 1, 1) := by decide +kernel
theorem dLa_pushes_16 : decode bLa_pushes 16 = .ok (.goto 4, 3) := by decide +kernel
theorem dLa_pushes_19 : decode bLa_pushes 19 = .ok (.iconst 0, 1) := by decide +kernel
theorem dLa_pushes_20 : decode bLa_pushes 20 = .ok (.ireturn, 1) := by decide +kernel
theorem dLa_joins_0 : decode bLa_joins 0 = .ok (.iload_n 0, 1) := by decide +kernel
theorem dLa_joins_1 : decode bLa_joins 1 = .ok (.bipush 6, 2) := by decide +kernel
theorem dLa_joins_3 : decode bLa_joins 3 = .ok (.if_icmp .eq 9, 3) := by decide +kernel
theorem dLa_joins_6 : decode bLa_joins 6 = .ok (.iload_n 0, 1) := by decide +kernel
theorem dLa_joins_7 : decode bLa_joins 7 = .ok (.bipush 7, 2) := by decide +kernel
theorem dLa_joins_9 : decode bLa_joins 9 = .ok (.if_icmp .ne 7, 3) := by decide +kernel
theorem dLa_joins_12 : decode bLa_joins 12 = .ok (.iconst 1, 1) := by decide +kernel
theorem dLa_joins_13 : decode bLa_joins 13 = .ok (.goto 4, 3) := by decide +kernel
theorem dLa_joins_16 : decode bLa_joins 16 = .ok (.iconst 0, 1) := by decide +kernel
theorem dLa_joins_17 : decode bLa_joins 17 = .ok (.ireturn, 1) := by decide +kernel
theorem dLa_needed_0 : decode bLa_needed 0 = .ok (.iload_n 0, 1) := by decide +kernel
theorem dLa_needed_1 : decode bLa_needed 1 = .ok (.invokestatic 37, 3) := by decide +kernel
theorem dLa_needed_4 : decode bLa_needed 4 = .ok (.ifCond .eq 5, 3) := by decide +kernel
theorem dLa_needed_7 : decode bLa_needed 7 = .ok (.iconst 0, 1) := by decide +kernel
theorem dLa_needed_8 : decode bLa_needed 8 = .ok (.ireturn, 1) := by decide +kernel
theorem dLa_needed_9 : decode bLa_needed 9 = .ok (.iload_n 0, 1) := by decide +kernel
theorem dLa_needed_10 : decode bLa_needed 10 = .ok (.invokestatic 41, 3) := by decide +kernel
theorem dLa_needed_13 : decode bLa_needed 13 = .ok (.ifCond .eq 7, 3) := by decide +kernel
theorem dLa_needed_16 : decode bLa_needed 16 = .ok (.iconst 2, 1) := by decide +kernel
theorem dLa_needed_17 : decode bLa_needed 17 = .ok (.goto 4, 3) := by decide +kernel
theorem dLa_needed_20 : decode bLa_needed 20 = .ok (.iconst 1, 1) := by decide +kernel
theorem dLa_needed_21 : decode bLa_needed 21 = .ok (.ireturn, 1) := by decide +kernel
theorem dLa_growth_0 : decode bLa_growth 0 = .ok (.iload_n 0, 1) := by decide +kernel
theorem dLa_growth_1 : decode bLa_growth 1 = .ok (.invokestatic 37, 3) := by decide +kernel
theorem dLa_growth_4 : decode bLa_growth 4 = .ok (.ifCond .eq 5, 3) := by decide +kernel
theorem dLa_growth_7 : decode bLa_growth 7 = .ok (.iconst 1, 1) := by decide +kernel
theorem dLa_growth_8 : decode bLa_growth 8 = .ok (.ireturn, 1) := by decide +kernel
theorem dLa_growth_9 : decode bLa_growth 9 = .ok (.iload_n 0, 1) := by decide +kernel
theorem dLa_growth_10 : decode bLa_growth 10 = .ok (.invokestatic 41, 3) := by decide +kernel
theorem dLa_growth_13 : decode bLa_growth 13 = .ok (.ifCond .eq 7, 3) := by decide +kernel
theorem dLa_growth_16 : decode bLa_growth 16 = .ok (.iconst (-1), 1) := by decide +kernel
theorem dLa_growth_17 : decode bLa_growth 17 = .ok (.goto 4, 3) := by decide +kernel
theorem dLa_growth_20 : decode bLa_growth 20 = .ok (.iconst 0, 1) := by decide +kernel
theorem dLa_growth_21 : decode bLa_growth 21 = .ok (.ireturn, 1) := by decide +kernel
