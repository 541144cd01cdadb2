theorem d_RM_init_0 : decode b_RM_init 0 = .ok (.aload_n 0, 1) := by decide +kernel
theorem d_RM_init_1 : decode b_RM_init 1 = .ok (.invokespecial 3, 3) := by decide +kernel
theorem d_RM_init_4 : decode b_RM_init 4 = .ok (.aload_n 0, 1) := by decide +kernel
theorem d_RM_init_5 : decode b_RM_init 5 = .ok (.new 9, 3) := by decide +kernel
theorem d_RM_init_8 : decode b_RM_init 8 = .ok (.dup, 1) := by decide +kernel
theorem d_RM_init_9 : decode b_RM_init 9 = .ok (.iload_n 1, 1) := by decide +kernel
theorem d_RM_init_10 : decode b_RM_init 10 = .ok (.invokespecial 11, 3) := by decide +kernel
theorem d_RM_init_13 : decode b_RM_init 13 = .ok (.putfield 14, 3) := by decide +kernel
theorem d_RM_init_16 : decode b_RM_init 16 = .ok (.aload_n 0, 1) := by decide +kernel
theorem d_RM_init_17 : decode b_RM_init 17 = .ok (.new 18, 3) := by decide +kernel
theorem d_RM_init_20 : decode b_RM_init 20 = .ok (.dup, 1) := by decide +kernel
theorem d_RM_init_21 : decode b_RM_init 21 = .ok (.iload_n 1, 1) := by decide +kernel
theorem d_RM_init_22 : decode b_RM_init 22 = .ok (.invokespecial 20, 3) := by decide +kernel
theorem d_RM_init_25 : decode b_RM_init 25 = .ok (.putfield 21, 3) := by decide +kernel
theorem d_RM_init_28 : decode b_RM_init 28 = .ok (.aload_n 0, 1) := by decide +kernel
theorem d_RM_init_29 : decode b_RM_init 29 = .ok (.bipush 64, 2) := by decide +kernel
theorem d_RM_init_31 : decode b_RM_init 31 = .ok (.newarray .boolean, 2) := by decide +kernel
theorem d_RM_init_33 : decode b_RM_init 33 = .ok (.putfield 25, 3) := by decide +kernel
theorem d_RM_init_36 : decode b_RM_init 36 = .ok (.aload_n 0, 1) := by decide +kernel
theorem d_RM_init_37 : decode b_RM_init 37 = .ok (.bipush 32, 2) := by decide +kernel
theorem d_RM_init_39 : decode b_RM_init 39 = .ok (.newarray .boolean, 2) := by decide +kernel
theorem d_RM_init_41 : decode b_RM_init 41 = .ok (.putfield 29, 3) := by decide +kernel
theorem d_RM_init_44 : decode b_RM_init 44 = .ok (.return_, 1) := by decide +kernel
theorem d_RM_poke_0 : decode b_RM_poke 0 = .ok (.iload_n 1, 1) := by decide +kernel
theorem d_RM_poke_1 : decode b_RM_poke 1 = .ok (.bipush 64, 2) := by decide +kernel
theorem d_RM_poke_3 : decode b_RM_poke 3 = .ok (.invokestatic 32, 3) := by decide +kernel
theorem d_RM_poke_6 : decode b_RM_poke 6 = .ok (.ifCond .ne 13, 3) := by decide +kernel
theorem d_RM_poke_9 : decode b_RM_poke 9 = .ok (.new 36, 3) := by decide +kernel
theorem d_RM_poke_12 : decode b_RM_poke 12 = .ok (.dup, 1) := by decide +kernel
theorem d_RM_poke_13 : decode b_RM_poke 13 = .ok (.ldc 38, 2) := by decide +kernel
theorem d_RM_poke_15 : decode b_RM_poke 15 = .ok (.invokespecial 40, 3) := by decide +kernel
theorem d_RM_poke_18 : decode b_RM_poke 18 = .ok (.athrow, 1) := by decide +kernel
theorem d_RM_poke_19 : decode b_RM_poke 19 = .ok (.aload_n 0, 1) := by decide +kernel
theorem d_RM_poke_20 : decode b_RM_poke 20 = .ok (.getfield 43, 3) := by decide +kernel
theorem d_RM_poke_23 : decode b_RM_poke 23 = .ok (.ifCond .le 13, 3) := by decide +kernel
theorem d_RM_poke_26 : decode b_RM_poke 26 = .ok (.new 47, 3) := by decide +kernel
theorem d_RM_poke_29 : decode b_RM_poke 29 = .ok (.dup, 1) := by decide +kernel
theorem d_RM_poke_30 : decode b_RM_poke 30 = .ok (.ldc 49, 2) := by decide +kernel
theorem d_RM_poke_32 : decode b_RM_poke 32 = .ok (.invokespecial 51, 3) := by decide +kernel
theorem d_RM_poke_35 : decode b_RM_poke 35 = .ok (.athrow, 1) := by decide +kernel
theorem d_RM_poke_36 : decode b_RM_poke 36 = .ok (.aload_n 0, 1) := by decide +kernel
theorem d_RM_poke_37 : decode b_RM_poke 37 = .ok (.getfield 14, 3) := by decide +kernel
theorem d_RM_poke_40 : decode b_RM_poke 40 = .ok (.getfield 52, 3) := by decide +kernel
theorem d_RM_poke_43 : decode b_RM_poke 43 = .ok (.iload_n 1, 1) := by decide +kernel
theorem d_RM_poke_44 : decode b_RM_poke 44 = .ok (.iload_n 2, 1) := by decide +kernel
theorem d_RM_poke_45 : decode b_RM_poke 45 = .ok (.iastore, 1) := by decide +kernel
theorem d_RM_poke_46 : decode b_RM_poke 46 = .ok (.return_, 1) := by decide +kernel
theorem d_RM_input_0 : decode b_RM_input 0 = .ok (.aload_n 0, 1) := by decide +kernel
theorem d_RM_input_1 : decode b_RM_input 1 = .ok (.getfield 14, 3) := by decide +kernel
theorem d_RM_input_4 : decode b_RM_input 4 = .ok (.iload_n 1, 1) := by decide +kernel
theorem d_RM_input_5 : decode b_RM_input 5 = .ok (.invokevirtual 56, 3) := by decide +kernel
theorem d_RM_input_8 : decode b_RM_input 8 = .ok (.ireturn, 1) := by decide +kernel
theorem d_RM_step_0 : decode b_RM_step 0 = .ok (.aload_n 0, 1) := by decide +kernel
theorem d_RM_step_1 : decode b_RM_step 1 = .ok (.iconst 0, 1) := by decide +kernel
theorem d_RM_step_2 : decode b_RM_step 2 = .ok (.putfield 60, 3) := by decide +kernel
theorem d_RM_step_5 : decode b_RM_step 5 = .ok (.aload_n 0, 1) := by decide +kernel
theorem d_RM_step_6 : decode b_RM_step 6 = .ok (.invokevirtual 63, 3) := by decide +kernel
theorem d_RM_step_9 : decode b_RM_step 9 = .ok (.ireturn, 1) := by decide +kernel
theorem d_RM_forth_0 : decode b_RM_forth 0 = .ok (.iload_n 1, 1) := by decide +kernel
theorem d_RM_forth_1 : decode b_RM_forth 1 = .ok (.invokestatic 67, 3) := by decide +kernel
theorem d_RM_forth_4 : decode b_RM_forth 4 = .ok (.ifCond .ne 13, 3) := by decide +kernel
theorem d_RM_forth_7 : decode b_RM_forth 7 = .ok (.new 71, 3) := by decide +kernel
theorem d_RM_forth_10 : decode b_RM_forth 10 = .ok (.dup, 1) := by decide +kernel
theorem d_RM_forth_11 : decode b_RM_forth 11 = .ok (.ldc 73, 2) := by decide +kernel
theorem d_RM_forth_13 : decode b_RM_forth 13 = .ok (.invokespecial 75, 3) := by decide +kernel
theorem d_RM_forth_16 : decode b_RM_forth 16 = .ok (.athrow, 1) := by decide +kernel
theorem d_RM_forth_17 : decode b_RM_forth 17 = .ok (.aload_n 0, 1) := by decide +kernel
theorem d_RM_forth_18 : decode b_RM_forth 18 = .ok (.iconst 0, 1) := by decide +kernel
theorem d_RM_forth_19 : decode b_RM_forth 19 = .ok (.putfield 60, 3) := by decide +kernel
theorem d_RM_forth_22 : decode b_RM_forth 22 = .ok (.iconst 0, 1) := by decide +kernel
theorem d_RM_forth_23 : decode b_RM_forth 23 = .ok (.istore_n 2, 1) := by decide +kernel
theorem d_RM_forth_24 : decode b_RM_forth 24 = .ok (.iload_n 2, 1) := by decide +kernel
theorem d_RM_forth_25 : decode b_RM_forth 25 = .ok (.iload_n 1, 1) := by decide +kernel
theorem d_RM_forth_26 : decode b_RM_forth 26 = .ok (.if_icmp .ge 29, 3) := by decide +kernel
theorem d_RM_forth_29 : decode b_RM_forth 29 = .ok (.aload_n 0, 1) := by decide +kernel
theorem d_RM_forth_30 : decode b_RM_forth 30 = .ok (.invokevirtual 63, 3) := by decide +kernel
theorem d_RM_forth_33 : decode b_RM_forth 33 = .ok (.istore_n 3, 1) := by decide +kernel
theorem d_RM_forth_34 : decode b_RM_forth 34 = .ok (.iload_n 3, 1) := by decide +kernel
theorem d_RM_forth_35 : decode b_RM_forth 35 = .ok (.ifCond .ne 8, 3) := by decide +kernel
theorem d_RM_forth_38 : decode b_RM_forth 38 = .ok (.aload_n 0, 1) := by decide +kernel
theorem d_RM_forth_39 : decode b_RM_forth 39 = .ok (.invokevirtual 76, 3) := by decide +kernel
theorem d_RM_forth_42 : decode b_RM_forth 42 = .ok (.istore_n 3, 1) := by decide +kernel
theorem d_RM_forth_43 : decode b_RM_forth 43 = .ok (.iload_n 3, 1) := by decide +kernel
theorem d_RM_forth_44 : decode b_RM_forth 44 = .ok (.ifCond .eq 5, 3) := by decide +kernel
theorem d_RM_forth_47 : decode b_RM_forth 47 = .ok (.iload_n 3, 1) := by decide +kernel
theorem d_RM_forth_48 : decode b_RM_forth 48 = .ok (.ireturn, 1) := by decide +kernel
theorem d_RM_forth_49 : decode b_RM_forth 49 = .ok (.iinc 2 1, 3) := by decide +kernel
theorem d_RM_forth_52 : decode b_RM_forth 52 = .ok (.goto (-28), 3) := by decide +kernel
theorem d_RM_forth_55 : decode b_RM_forth 55 = .ok (.bipush 11, 2) := by decide +kernel
theorem d_RM_forth_57 : decode b_RM_forth 57 = .ok (.ireturn, 1) := by decide +kernel
theorem d_RM_back_0 : decode b_RM_back 0 = .ok (.iload_n 1, 1) := by decide +kernel
theorem d_RM_back_1 : decode b_RM_back 1 = .ok (.invokestatic 67, 3) := by decide +kernel
theorem d_RM_back_4 : decode b_RM_back 4 = .ok (.ifCond .ne 13, 3) := by decide +kernel
theorem d_RM_back_7 : decode b_RM_back 7 = .ok (.new 71, 3) := by decide +kernel
theorem d_RM_back_10 : decode b_RM_back 10 = .ok (.dup, 1) := by decide +kernel
theorem d_RM_back_11 : decode b_RM_back 11 = .ok (.ldc 73, 2) := by decide +kernel
theorem d_RM_back_13 : decode b_RM_back 13 = .ok (.invokespecial 75, 3) := by decide +kernel
theorem d_RM_back_16 : decode b_RM_back 16 = .ok (.athrow, 1) := by decide +kernel
theorem d_RM_back_17 : decode b_RM_back 17 = .ok (.aload_n 0, 1) := by decide +kernel
theorem d_RM_back_18 : decode b_RM_back 18 = .ok (.iconst 0, 1) := by decide +kernel
theorem d_RM_back_19 : decode b_RM_back 19 = .ok (.putfield 60, 3) := by decide +kernel
theorem d_RM_back_22 : decode b_RM_back 22 = .ok (.iconst 0, 1) := by decide +kernel
theorem d_RM_back_23 : decode b_RM_back 23 = .ok (.istore_n 2, 1) := by decide +kernel
theorem d_RM_back_24 : decode b_RM_back 24 = .ok (.iload_n 2, 1) := by decide +kernel
theorem d_RM_back_25 : decode b_RM_back 25 = .ok (.iload_n 1, 1) := by decide +kernel
theorem d_RM_back_26 : decode b_RM_back 26 = .ok (.if_icmp .ge 49, 3) := by decide +kernel
theorem d_RM_back_29 : decode b_RM_back 29 = .ok (.aload_n 0, 1) := by decide +kernel
theorem d_RM_back_30 : decode b_RM_back 30 = .ok (.getfield 14, 3) := by decide +kernel
theorem d_RM_back_33 : decode b_RM_back 33 = .ok (.getfield 79, 3) := by decide +kernel
theorem d_RM_back_36 : decode b_RM_back 36 = .ok (.getfield 83, 3) := by decide +kernel
theorem d_RM_back_39 : decode b_RM_back 39 = .ok (.ifCond .le 36, 3) := by decide +kernel
theorem d_RM_back_42 : decode b_RM_back 42 = .ok (.aload_n 0, 1) := by decide +kernel
theorem d_RM_back_43 : decode b_RM_back 43 = .ok (.aload_n 0, 1) := by decide +kernel
theorem d_RM_back_44 : decode b_RM_back 44 = .ok (.getfield 14, 3) := by decide +kernel
theorem d_RM_back_47 : decode b_RM_back 47 = .ok (.getfield 79, 3) := by decide +kernel
theorem d_RM_back_50 : decode b_RM_back 50 = .ok (.getfield 83, 3) := by decide +kernel
theorem d_RM_back_53 : decode b_RM_back 53 = .ok (.iconst 1, 1) := by decide +kernel
theorem d_RM_back_54 : decode b_RM_back 54 = .ok (.isub, 1) := by decide +kernel
theorem d_RM_back_55 : decode b_RM_back 55 = .ok (.invokevirtual 88, 3) := by decide +kernel
theorem d_RM_back_58 : decode b_RM_back 58 = .ok (.aload_n 0, 1) := by decide +kernel
theorem d_RM_back_59 : decode b_RM_back 59 = .ok (.invokevirtual 76, 3) := by decide +kernel
theorem d_RM_back_62 : decode b_RM_back 62 = .ok (.istore_n 3, 1) := by decide +kernel
theorem d_RM_back_63 : decode b_RM_back 63 = .ok (.iload_n 3, 1) := by decide +kernel
theorem d_RM_back_64 : decode b_RM_back 64 = .ok (.ifCond .eq 5, 3) := by decide +kernel
theorem d_RM_back_67 : decode b_RM_back 67 = .ok (.iload_n 3, 1) := by decide +kernel
theorem d_RM_back_68 : decode b_RM_back 68 = .ok (.ireturn, 1) := by decide +kernel
theorem d_RM_back_69 : decode b_RM_back 69 = .ok (.iinc 2 1, 3) := by decide +kernel
theorem d_RM_back_72 : decode b_RM_back 72 = .ok (.goto (-48), 3) := by decide +kernel
theorem d_RM_back_75 : decode b_RM_back 75 = .ok (.aload_n 0, 1) := by decide +kernel
theorem d_RM_back_76 : decode b_RM_back 76 = .ok (.getfield 14, 3) := by decide +kernel
theorem d_RM_back_79 : decode b_RM_back 79 = .ok (.getfield 79, 3) := by decide +kernel
theorem d_RM_back_82 : decode b_RM_back 82 = .ok (.getfield 83, 3) := by decide +kernel
theorem d_RM_back_85 : decode b_RM_back 85 = .ok (.ifCond .ne 8, 3) := by decide +kernel
theorem d_RM_back_88 : decode b_RM_back 88 = .ok (.bipush 12, 2) := by decide +kernel
theorem d_RM_back_90 : decode b_RM_back 90 = .ok (.goto 5, 3) := by decide +kernel
theorem d_RM_back_93 : decode b_RM_back 93 = .ok (.bipush 11, 2) := by decide +kernel
theorem d_RM_back_95 : decode b_RM_back 95 = .ok (.ireturn, 1) := by decide +kernel
theorem d_RM_go_0 : decode b_RM_go 0 = .ok (.iload_n 1, 1) := by decide +kernel
theorem d_RM_go_1 : decode b_RM_go 1 = .ok (.ifCond .lt 11, 3) := by decide +kernel
theorem d_RM_go_4 : decode b_RM_go 4 = .ok (.iload_n 1, 1) := by decide +kernel
theorem d_RM_go_5 : decode b_RM_go 5 = .ok (.aload_n 0, 1) := by decide +kernel
theorem d_RM_go_6 : decode b_RM_go 6 = .ok (.getfield 43, 3) := by decide +kernel
theorem d_RM_go_9 : decode b_RM_go 9 = .ok (.if_icmp .le 13, 3) := by decide +kernel
theorem d_RM_go_12 : decode b_RM_go 12 = .ok (.new 71, 3) := by decide +kernel
theorem d_RM_go_15 : decode b_RM_go 15 = .ok (.dup, 1) := by decide +kernel
theorem d_RM_go_16 : decode b_RM_go 16 = .ok (.ldc 91, 2) := by decide +kernel
theorem d_RM_go_18 : decode b_RM_go 18 = .ok (.invokespecial 75, 3) := by decide +kernel
theorem d_RM_go_21 : decode b_RM_go 21 = .ok (.athrow, 1) := by decide +kernel
theorem d_RM_go_22 : decode b_RM_go 22 = .ok (.aload_n 0, 1) := by decide +kernel
theorem d_RM_go_23 : decode b_RM_go 23 = .ok (.iconst 0, 1) := by decide +kernel
theorem d_RM_go_24 : decode b_RM_go 24 = .ok (.putfield 60, 3) := by decide +kernel
theorem d_RM_go_27 : decode b_RM_go 27 = .ok (.aload_n 0, 1) := by decide +kernel
theorem d_RM_go_28 : decode b_RM_go 28 = .ok (.iload_n 1, 1) := by decide +kernel
theorem d_RM_go_29 : decode b_RM_go 29 = .ok (.invokevirtual 88, 3) := by decide +kernel
theorem d_RM_go_32 : decode b_RM_go 32 = .ok (.return_, 1) := by decide +kernel
theorem d_RM_setBreak_0 : decode b_RM_setBreak 0 = .ok (.iload_n 1, 1) := by decide +kernel
theorem d_RM_setBreak_1 : decode b_RM_setBreak 1 = .ok (.bipush 64, 2) := by decide +kernel
theorem d_RM_setBreak_3 : decode b_RM_setBreak 3 = .ok (.invokestatic 32, 3) := by decide +kernel
theorem d_RM_setBreak_6 : decode b_RM_setBreak 6 = .ok (.ifCond .ne 13, 3) := by decide +kernel
theorem d_RM_setBreak_9 : decode b_RM_setBreak 9 = .ok (.new 36, 3) := by decide +kernel
theorem d_RM_setBreak_12 : decode b_RM_setBreak 12 = .ok (.dup, 1) := by decide +kernel
theorem d_RM_setBreak_13 : decode b_RM_setBreak 13 = .ok (.ldc 38, 2) := by decide +kernel
theorem d_RM_setBreak_15 : decode b_RM_setBreak 15 = .ok (.invokespecial 40, 3) := by decide +kernel
theorem d_RM_setBreak_18 : decode b_RM_setBreak 18 = .ok (.athrow, 1) := by decide +kernel
theorem d_RM_setBreak_19 : decode b_RM_setBreak 19 = .ok (.aload_n 0, 1) := by decide +kernel
theorem d_RM_setBreak_20 : decode b_RM_setBreak 20 = .ok (.getfield 25, 3) := by decide +kernel
theorem d_RM_setBreak_23 : decode b_RM_setBreak 23 = .ok (.iload_n 1, 1) := by decide +kernel
theorem d_RM_setBreak_24 : decode b_RM_setBreak 24 = .ok (.iconst 1, 1) := by decide +kernel
theorem d_RM_setBreak_25 : decode b_RM_setBreak 25 = .ok (.invokestatic 93, 3) := by decide +kernel
theorem d_RM_setBreak_28 : decode b_RM_setBreak 28 = .ok (.ireturn, 1) := by decide +kernel
theorem d_RM_clearBreak_0 : decode b_RM_clearBreak 0 = .ok (.iload_n 1, 1) := by decide +kernel
theorem d_RM_clearBreak_1 : decode b_RM_clearBreak 1 = .ok (.bipush 64, 2) := by decide +kernel
theorem d_RM_clearBreak_3 : decode b_RM_clearBreak 3 = .ok (.invokestatic 32, 3) := by decide +kernel
theorem d_RM_clearBreak_6 : decode b_RM_clearBreak 6 = .ok (.ifCond .ne 13, 3) := by decide +kernel
theorem d_RM_clearBreak_9 : decode b_RM_clearBreak 9 = .ok (.new 36, 3) := by decide +kernel
theorem d_RM_clearBreak_12 : decode b_RM_clearBreak 12 = .ok (.dup, 1) := by decide +kernel
theorem d_RM_clearBreak_13 : decode b_RM_clearBreak 13 = .ok (.ldc 38, 2) := by decide +kernel
theorem d_RM_clearBreak_15 : decode b_RM_clearBreak 15 = .ok (.invokespecial 40, 3) := by decide +kernel
theorem d_RM_clearBreak_18 : decode b_RM_clearBreak 18 = .ok (.athrow, 1) := by decide +kernel
theorem d_RM_clearBreak_19 : decode b_RM_clearBreak 19 = .ok (.aload_n 0, 1) := by decide +kernel
theorem d_RM_clearBreak_20 : decode b_RM_clearBreak 20 = .ok (.getfield 25, 3) := by decide +kernel
theorem d_RM_clearBreak_23 : decode b_RM_clearBreak 23 = .ok (.iload_n 1, 1) := by decide +kernel
theorem d_RM_clearBreak_24 : decode b_RM_clearBreak 24 = .ok (.iconst 0, 1) := by decide +kernel
theorem d_RM_clearBreak_25 : decode b_RM_clearBreak 25 = .ok (.invokestatic 93, 3) := by decide +kernel
theorem d_RM_clearBreak_28 : decode b_RM_clearBreak 28 = .ok (.ireturn, 1) := by decide +kernel
theorem d_RM_setWatch_0 : decode b_RM_setWatch 0 = .ok (.iload_n 1, 1) := by decide +kernel
theorem d_RM_setWatch_1 : decode b_RM_setWatch 1 = .ok (.bipush 32, 2) := by decide +kernel
theorem d_RM_setWatch_3 : decode b_RM_setWatch 3 = .ok (.invokestatic 32, 3) := by decide +kernel
theorem d_RM_setWatch_6 : decode b_RM_setWatch 6 = .ok (.ifCond .ne 13, 3) := by decide +kernel
theorem d_RM_setWatch_9 : decode b_RM_setWatch 9 = .ok (.new 36, 3) := by decide +kernel
theorem d_RM_setWatch_12 : decode b_RM_setWatch 12 = .ok (.dup, 1) := by decide +kernel
theorem d_RM_setWatch_13 : decode b_RM_setWatch 13 = .ok (.ldc 97, 2) := by decide +kernel
theorem d_RM_setWatch_15 : decode b_RM_setWatch 15 = .ok (.invokespecial 40, 3) := by decide +kernel
theorem d_RM_setWatch_18 : decode b_RM_setWatch 18 = .ok (.athrow, 1) := by decide +kernel
theorem d_RM_setWatch_19 : decode b_RM_setWatch 19 = .ok (.aload_n 0, 1) := by decide +kernel
theorem d_RM_setWatch_20 : decode b_RM_setWatch 20 = .ok (.getfield 29, 3) := by decide +kernel
theorem d_RM_setWatch_23 : decode b_RM_setWatch 23 = .ok (.iload_n 1, 1) := by decide +kernel
theorem d_RM_setWatch_24 : decode b_RM_setWatch 24 = .ok (.iconst 1, 1) := by decide +kernel
theorem d_RM_setWatch_25 : decode b_RM_setWatch 25 = .ok (.invokestatic 93, 3) := by decide +kernel
theorem d_RM_setWatch_28 : decode b_RM_setWatch 28 = .ok (.ireturn, 1) := by decide +kernel
theorem d_RM_clearWatch_0 : decode b_RM_clearWatch 0 = .ok (.iload_n 1, 1) := by decide +kernel
theorem d_RM_clearWatch_1 : decode b_RM_clearWatch 1 = .ok (.bipush 32, 2) := by decide +kernel
theorem d_RM_clearWatch_3 : decode b_RM_clearWatch 3 = .ok (.invokestatic 32, 3) := by decide +kernel
theorem d_RM_clearWatch_6 : decode b_RM_clearWatch 6 = .ok (.ifCond .ne 13, 3) := by decide +kernel
theorem d_RM_clearWatch_9 : decode b_RM_clearWatch 9 = .ok (.new 36, 3) := by decide +kernel
theorem d_RM_clearWatch_12 : decode b_RM_clearWatch 12 = .ok (.dup, 1) := by decide +kernel
theorem d_RM_clearWatch_13 : decode b_RM_clearWatch 13 = .ok (.ldc 97, 2) := by decide +kernel
theorem d_RM_clearWatch_15 : decode b_RM_clearWatch 15 = .ok (.invokespecial 40, 3) := by decide +kernel
theorem d_RM_clearWatch_18 : decode b_RM_clearWatch 18 = .ok (.athrow, 1) := by decide +kernel
theorem d_RM_clearWatch_19 : decode b_RM_clearWatch 19 = .ok (.aload_n 0, 1) := by decide +kernel
theorem d_RM_clearWatch_20 : decode b_RM_clearWatch 20 = .ok (.getfield 29, 3) := by decide +kernel
theorem d_RM_clearWatch_23 : decode b_RM_clearWatch 23 = .ok (.iload_n 1, 1) := by decide +kernel
theorem d_RM_clearWatch_24 : decode b_RM_clearWatch 24 = .ok (.iconst 0, 1) := by decide +kernel
theorem d_RM_clearWatch_25 : decode b_RM_clearWatch 25 = .ok (.invokestatic 93, 3) := by decide +kernel
theorem d_RM_clearWatch_28 : decode b_RM_clearWatch 28 = .ok (.ireturn, 1) := by decide +kernel
theorem d_RM_state_0 : decode b_RM_state 0 = .ok (.aload_n 0, 1) := by decide +kernel
theorem d_RM_state_1 : decode b_RM_state 1 = .ok (.getfield 14, 3) := by decide +kernel
theorem d_RM_state_4 : decode b_RM_state 4 = .ok (.getfield 79, 3) := by decide +kernel
theorem d_RM_state_7 : decode b_RM_state 7 = .ok (.astore_n 2, 1) := by decide +kernel
theorem d_RM_state_8 : decode b_RM_state 8 = .ok (.iload_n 1, 1) := by decide +kernel
theorem d_RM_state_9 : decode b_RM_state 9 = .ok (.tableswitch 126 0 10 #[59, 64, 69, 74, 79, 84, 89, 94, 99, 110, 118], 59) := by decide +kernel
theorem d_RM_state_68 : decode b_RM_state 68 = .ok (.aload_n 2, 1) := by decide +kernel
theorem d_RM_state_69 : decode b_RM_state 69 = .ok (.getfield 83, 3) := by decide +kernel
theorem d_RM_state_72 : decode b_RM_state 72 = .ok (.ireturn, 1) := by decide +kernel
theorem d_RM_state_73 : decode b_RM_state 73 = .ok (.aload_n 0, 1) := by decide +kernel
theorem d_RM_state_74 : decode b_RM_state 74 = .ok (.getfield 43, 3) := by decide +kernel
theorem d_RM_state_77 : decode b_RM_state 77 = .ok (.ireturn, 1) := by decide +kernel
theorem d_RM_state_78 : decode b_RM_state 78 = .ok (.aload_n 2, 1) := by decide +kernel
theorem d_RM_state_79 : decode b_RM_state 79 = .ok (.getfield 99, 3) := by decide +kernel
theorem d_RM_state_82 : decode b_RM_state 82 = .ok (.ireturn, 1) := by decide +kernel
theorem d_RM_state_83 : decode b_RM_state 83 = .ok (.aload_n 2, 1) := by decide +kernel
theorem d_RM_state_84 : decode b_RM_state 84 = .ok (.getfield 102, 3) := by decide +kernel
theorem d_RM_state_87 : decode b_RM_state 87 = .ok (.ireturn, 1) := by decide +kernel
theorem d_RM_state_88 : decode b_RM_state 88 = .ok (.aload_n 2, 1) := by decide +kernel
theorem d_RM_state_89 : decode b_RM_state 89 = .ok (.getfield 105, 3) := by decide +kernel
theorem d_RM_state_92 : decode b_RM_state 92 = .ok (.ireturn, 1) := by decide +kernel
theorem d_RM_state_93 : decode b_RM_state 93 = .ok (.aload_n 2, 1) := by decide +kernel
theorem d_RM_state_94 : decode b_RM_state 94 = .ok (.getfield 108, 3) := by decide +kernel
theorem d_RM_state_97 : decode b_RM_state 97 = .ok (.ireturn, 1) := by decide +kernel
theorem d_RM_state_98 : decode b_RM_state 98 = .ok (.aload_n 2, 1) := by decide +kernel
theorem d_RM_state_99 : decode b_RM_state 99 = .ok (.getfield 111, 3) := by decide +kernel
theorem d_RM_state_102 : decode b_RM_state 102 = .ok (.ireturn, 1) := by decide +kernel
theorem d_RM_state_103 : decode b_RM_state 103 = .ok (.aload_n 0, 1) := by decide +kernel
theorem d_RM_state_104 : decode b_RM_state 104 = .ok (.getfield 60, 3) := by decide +kernel
theorem d_RM_state_107 : decode b_RM_state 107 = .ok (.ireturn, 1) := by decide +kernel
theorem d_RM_state_108 : decode b_RM_state 108 = .ok (.aload_n 0, 1) := by decide +kernel
theorem d_RM_state_109 : decode b_RM_state 109 = .ok (.getfield 14, 3) := by decide +kernel
theorem d_RM_state_112 : decode b_RM_state 112 = .ok (.getfield 114, 3) := by decide +kernel
theorem d_RM_state_115 : decode b_RM_state 115 = .ok (.getfield 118, 3) := by decide +kernel
theorem d_RM_state_118 : decode b_RM_state 118 = .ok (.ireturn, 1) := by decide +kernel
theorem d_RM_state_119 : decode b_RM_state 119 = .ok (.aload_n 0, 1) := by decide +kernel
theorem d_RM_state_120 : decode b_RM_state 120 = .ok (.getfield 21, 3) := by decide +kernel
theorem d_RM_state_123 : decode b_RM_state 123 = .ok (.getfield 123, 3) := by decide +kernel
theorem d_RM_state_126 : decode b_RM_state 126 = .ok (.ireturn, 1) := by decide +kernel
theorem d_RM_state_127 : decode b_RM_state 127 = .ok (.aload_n 0, 1) := by decide +kernel
theorem d_RM_state_128 : decode b_RM_state 128 = .ok (.getfield 21, 3) := by decide +kernel
theorem d_RM_state_131 : decode b_RM_state 131 = .ok (.getfield 126, 3) := by decide +kernel
theorem d_RM_state_134 : decode b_RM_state 134 = .ok (.ireturn, 1) := by decide +kernel
theorem d_RM_state_135 : decode b_RM_state 135 = .ok (.new 36, 3) := by decide +kernel
theorem d_RM_state_138 : decode b_RM_state 138 = .ok (.dup, 1) := by decide +kernel
theorem d_RM_state_139 : decode b_RM_state 139 = .ok (.ldc 127, 2) := by decide +kernel
theorem d_RM_state_141 : decode b_RM_state 141 = .ok (.invokespecial 40, 3) := by decide +kernel
theorem d_RM_state_144 : decode b_RM_state 144 = .ok (.athrow, 1) := by decide +kernel
theorem d_RM_cell_0 : decode b_RM_cell 0 = .ok (.iload_n 1, 1) := by decide +kernel
theorem d_RM_cell_1 : decode b_RM_cell 1 = .ok (.bipush 32, 2) := by decide +kernel
theorem d_RM_cell_3 : decode b_RM_cell 3 = .ok (.invokestatic 32, 3) := by decide +kernel
theorem d_RM_cell_6 : decode b_RM_cell 6 = .ok (.ifCond .eq 18, 3) := by decide +kernel
theorem d_RM_cell_9 : decode b_RM_cell 9 = .ok (.aload_n 0, 1) := by decide +kernel
theorem d_RM_cell_10 : decode b_RM_cell 10 = .ok (.getfield 14, 3) := by decide +kernel
theorem d_RM_cell_13 : decode b_RM_cell 13 = .ok (.getfield 79, 3) := by decide +kernel
theorem d_RM_cell_16 : decode b_RM_cell 16 = .ok (.getfield 129, 3) := by decide +kernel
theorem d_RM_cell_19 : decode b_RM_cell 19 = .ok (.iload_n 1, 1) := by decide +kernel
theorem d_RM_cell_20 : decode b_RM_cell 20 = .ok (.iaload, 1) := by decide +kernel
theorem d_RM_cell_21 : decode b_RM_cell 21 = .ok (.goto 4, 3) := by decide +kernel
theorem d_RM_cell_24 : decode b_RM_cell 24 = .ok (.iconst 0, 1) := by decide +kernel
theorem d_RM_cell_25 : decode b_RM_cell 25 = .ok (.ireturn, 1) := by decide +kernel
theorem d_RM_stack_0 : decode b_RM_stack 0 = .ok (.iload_n 1, 1) := by decide +kernel
theorem d_RM_stack_1 : decode b_RM_stack 1 = .ok (.aload_n 0, 1) := by decide +kernel
theorem d_RM_stack_2 : decode b_RM_stack 2 = .ok (.getfield 14, 3) := by decide +kernel
theorem d_RM_stack_5 : decode b_RM_stack 5 = .ok (.getfield 79, 3) := by decide +kernel
theorem d_RM_stack_8 : decode b_RM_stack 8 = .ok (.getfield 111, 3) := by decide +kernel
theorem d_RM_stack_11 : decode b_RM_stack 11 = .ok (.invokestatic 32, 3) := by decide +kernel
theorem d_RM_stack_14 : decode b_RM_stack 14 = .ok (.ifCond .ne 13, 3) := by decide +kernel
theorem d_RM_stack_17 : decode b_RM_stack 17 = .ok (.new 36, 3) := by decide +kernel
theorem d_RM_stack_20 : decode b_RM_stack 20 = .ok (.dup, 1) := by decide +kernel
theorem d_RM_stack_21 : decode b_RM_stack 21 = .ok (.ldc 132, 2) := by decide +kernel
theorem d_RM_stack_23 : decode b_RM_stack 23 = .ok (.invokespecial 40, 3) := by decide +kernel
theorem d_RM_stack_26 : decode b_RM_stack 26 = .ok (.athrow, 1) := by decide +kernel
theorem d_RM_stack_27 : decode b_RM_stack 27 = .ok (.aload_n 0, 1) := by decide +kernel
theorem d_RM_stack_28 : decode b_RM_stack 28 = .ok (.getfield 14, 3) := by decide +kernel
theorem d_RM_stack_31 : decode b_RM_stack 31 = .ok (.getfield 79, 3) := by decide +kernel
theorem d_RM_stack_34 : decode b_RM_stack 34 = .ok (.iload_n 1, 1) := by decide +kernel
theorem d_RM_stack_35 : decode b_RM_stack 35 = .ok (.invokevirtual 134, 3) := by decide +kernel
theorem d_RM_stack_38 : decode b_RM_stack 38 = .ok (.ireturn, 1) := by decide +kernel
theorem d_RM_checkpoint_0 : decode b_RM_checkpoint 0 = .ok (.iload_n 1, 1) := by decide +kernel
theorem d_RM_checkpoint_1 : decode b_RM_checkpoint 1 = .ok (.aload_n 0, 1) := by decide +kernel
theorem d_RM_checkpoint_2 : decode b_RM_checkpoint 2 = .ok (.getfield 21, 3) := by decide +kernel
theorem d_RM_checkpoint_5 : decode b_RM_checkpoint 5 = .ok (.getfield 126, 3) := by decide +kernel
theorem d_RM_checkpoint_8 : decode b_RM_checkpoint 8 = .ok (.invokestatic 32, 3) := by decide +kernel
theorem d_RM_checkpoint_11 : decode b_RM_checkpoint 11 = .ok (.ifCond .ne 13, 3) := by decide +kernel
theorem d_RM_checkpoint_14 : decode b_RM_checkpoint 14 = .ok (.new 36, 3) := by decide +kernel
theorem d_RM_checkpoint_17 : decode b_RM_checkpoint 17 = .ok (.dup, 1) := by decide +kernel
theorem d_RM_checkpoint_18 : decode b_RM_checkpoint 18 = .ok (.ldc 137, 2) := by decide +kernel
theorem d_RM_checkpoint_20 : decode b_RM_checkpoint 20 = .ok (.invokespecial 40, 3) := by decide +kernel
theorem d_RM_checkpoint_23 : decode b_RM_checkpoint 23 = .ok (.athrow, 1) := by decide +kernel
theorem d_RM_checkpoint_24 : decode b_RM_checkpoint 24 = .ok (.aload_n 0, 1) := by decide +kernel
theorem d_RM_checkpoint_25 : decode b_RM_checkpoint 25 = .ok (.getfield 21, 3) := by decide +kernel
theorem d_RM_checkpoint_28 : decode b_RM_checkpoint 28 = .ok (.getfield 139, 3) := by decide +kernel
theorem d_RM_checkpoint_31 : decode b_RM_checkpoint 31 = .ok (.iload_n 1, 1) := by decide +kernel
theorem d_RM_checkpoint_32 : decode b_RM_checkpoint 32 = .ok (.aaload, 1) := by decide +kernel
theorem d_RM_checkpoint_33 : decode b_RM_checkpoint 33 = .ok (.getfield 83, 3) := by decide +kernel
theorem d_RM_checkpoint_36 : decode b_RM_checkpoint 36 = .ok (.ireturn, 1) := by decide +kernel
theorem d_RM_within_0 : decode b_RM_within 0 = .ok (.iload_n 0, 1) := by decide +kernel
theorem d_RM_within_1 : decode b_RM_within 1 = .ok (.ifCond .lt 12, 3) := by decide +kernel
theorem d_RM_within_4 : decode b_RM_within 4 = .ok (.iload_n 0, 1) := by decide +kernel
theorem d_RM_within_5 : decode b_RM_within 5 = .ok (.iload_n 1, 1) := by decide +kernel
theorem d_RM_within_6 : decode b_RM_within 6 = .ok (.if_icmp .ge 7, 3) := by decide +kernel
theorem d_RM_within_9 : decode b_RM_within 9 = .ok (.iconst 1, 1) := by decide +kernel
theorem d_RM_within_10 : decode b_RM_within 10 = .ok (.goto 4, 3) := by decide +kernel
theorem d_RM_within_13 : decode b_RM_within 13 = .ok (.iconst 0, 1) := by decide +kernel
theorem d_RM_within_14 : decode b_RM_within 14 = .ok (.ireturn, 1) := by decide +kernel
theorem d_RM_isFuel_0 : decode b_RM_isFuel 0 = .ok (.iload_n 0, 1) := by decide +kernel
theorem d_RM_isFuel_1 : decode b_RM_isFuel 1 = .ok (.ifCond .lt 14, 3) := by decide +kernel
theorem d_RM_isFuel_4 : decode b_RM_isFuel 4 = .ok (.iload_n 0, 1) := by decide +kernel
theorem d_RM_isFuel_5 : decode b_RM_isFuel 5 = .ok (.sipush 1000, 3) := by decide +kernel
theorem d_RM_isFuel_8 : decode b_RM_isFuel 8 = .ok (.if_icmp .gt 7, 3) := by decide +kernel
theorem d_RM_isFuel_11 : decode b_RM_isFuel 11 = .ok (.iconst 1, 1) := by decide +kernel
theorem d_RM_isFuel_12 : decode b_RM_isFuel 12 = .ok (.goto 4, 3) := by decide +kernel
theorem d_RM_isFuel_15 : decode b_RM_isFuel 15 = .ok (.iconst 0, 1) := by decide +kernel
theorem d_RM_isFuel_16 : decode b_RM_isFuel 16 = .ok (.ireturn, 1) := by decide +kernel
theorem d_RM_mark_0 : decode b_RM_mark 0 = .ok (.aload_n 0, 1) := by decide +kernel
theorem d_RM_mark_1 : decode b_RM_mark 1 = .ok (.iload_n 1, 1) := by decide +kernel
theorem d_RM_mark_2 : decode b_RM_mark 2 = .ok (.baload, 1) := by decide +kernel
theorem d_RM_mark_3 : decode b_RM_mark 3 = .ok (.iload_n 2, 1) := by decide +kernel
theorem d_RM_mark_4 : decode b_RM_mark 4 = .ok (.if_icmp .eq 7, 3) := by decide +kernel
theorem d_RM_mark_7 : decode b_RM_mark 7 = .ok (.iconst 1, 1) := by decide +kernel
theorem d_RM_mark_8 : decode b_RM_mark 8 = .ok (.goto 4, 3) := by decide +kernel
theorem d_RM_mark_11 : decode b_RM_mark 11 = .ok (.iconst 0, 1) := by decide +kernel
theorem d_RM_mark_12 : decode b_RM_mark 12 = .ok (.istore_n 3, 1) := by decide +kernel
theorem d_RM_mark_13 : decode b_RM_mark 13 = .ok (.aload_n 0, 1) := by decide +kernel
theorem d_RM_mark_14 : decode b_RM_mark 14 = .ok (.iload_n 1, 1) := by decide +kernel
theorem d_RM_mark_15 : decode b_RM_mark 15 = .ok (.iload_n 2, 1) := by decide +kernel
theorem d_RM_mark_16 : decode b_RM_mark 16 = .ok (.bastore, 1) := by decide +kernel
theorem d_RM_mark_17 : decode b_RM_mark 17 = .ok (.iload_n 3, 1) := by decide +kernel
theorem d_RM_mark_18 : decode b_RM_mark 18 = .ok (.ireturn, 1) := by decide +kernel
theorem d_RM_advance_0 : decode b_RM_advance 0 = .ok (.aload_n 0, 1) := by decide +kernel
theorem d_RM_advance_1 : decode b_RM_advance 1 = .ok (.getfield 14, 3) := by decide +kernel
theorem d_RM_advance_4 : decode b_RM_advance 4 = .ok (.invokevirtual 143, 3) := by decide +kernel
theorem d_RM_advance_7 : decode b_RM_advance 7 = .ok (.istore_n 1, 1) := by decide +kernel
theorem d_RM_advance_8 : decode b_RM_advance 8 = .ok (.iload_n 1, 1) := by decide +kernel
theorem d_RM_advance_9 : decode b_RM_advance 9 = .ok (.ifCond .eq 5, 3) := by decide +kernel
theorem d_RM_advance_12 : decode b_RM_advance 12 = .ok (.iload_n 1, 1) := by decide +kernel
theorem d_RM_advance_13 : decode b_RM_advance 13 = .ok (.ireturn, 1) := by decide +kernel
theorem d_RM_advance_14 : decode b_RM_advance 14 = .ok (.aload_n 0, 1) := by decide +kernel
theorem d_RM_advance_15 : decode b_RM_advance 15 = .ok (.getfield 14, 3) := by decide +kernel
theorem d_RM_advance_18 : decode b_RM_advance 18 = .ok (.getfield 79, 3) := by decide +kernel
theorem d_RM_advance_21 : decode b_RM_advance 21 = .ok (.getfield 83, 3) := by decide +kernel
theorem d_RM_advance_24 : decode b_RM_advance 24 = .ok (.sipush 3000, 3) := by decide +kernel
theorem d_RM_advance_27 : decode b_RM_advance 27 = .ok (.if_icmp .lt 6, 3) := by decide +kernel
theorem d_RM_advance_30 : decode b_RM_advance 30 = .ok (.bipush 8, 2) := by decide +kernel
theorem d_RM_advance_32 : decode b_RM_advance 32 = .ok (.ireturn, 1) := by decide +kernel
theorem d_RM_advance_33 : decode b_RM_advance 33 = .ok (.aload_n 0, 1) := by decide +kernel
theorem d_RM_advance_34 : decode b_RM_advance 34 = .ok (.getfield 14, 3) := by decide +kernel
theorem d_RM_advance_37 : decode b_RM_advance 37 = .ok (.invokevirtual 146, 3) := by decide +kernel
theorem d_RM_advance_40 : decode b_RM_advance 40 = .ok (.aload_n 0, 1) := by decide +kernel
theorem d_RM_advance_41 : decode b_RM_advance 41 = .ok (.getfield 14, 3) := by decide +kernel
theorem d_RM_advance_44 : decode b_RM_advance 44 = .ok (.getfield 79, 3) := by decide +kernel
theorem d_RM_advance_47 : decode b_RM_advance 47 = .ok (.getfield 83, 3) := by decide +kernel
theorem d_RM_advance_50 : decode b_RM_advance 50 = .ok (.aload_n 0, 1) := by decide +kernel
theorem d_RM_advance_51 : decode b_RM_advance 51 = .ok (.getfield 43, 3) := by decide +kernel
theorem d_RM_advance_54 : decode b_RM_advance 54 = .ok (.if_icmp .le 31, 3) := by decide +kernel
theorem d_RM_advance_57 : decode b_RM_advance 57 = .ok (.aload_n 0, 1) := by decide +kernel
theorem d_RM_advance_58 : decode b_RM_advance 58 = .ok (.aload_n 0, 1) := by decide +kernel
theorem d_RM_advance_59 : decode b_RM_advance 59 = .ok (.getfield 14, 3) := by decide +kernel
theorem d_RM_advance_62 : decode b_RM_advance 62 = .ok (.getfield 79, 3) := by decide +kernel
theorem d_RM_advance_65 : decode b_RM_advance 65 = .ok (.getfield 83, 3) := by decide +kernel
theorem d_RM_advance_68 : decode b_RM_advance 68 = .ok (.putfield 43, 3) := by decide +kernel
theorem d_RM_advance_71 : decode b_RM_advance 71 = .ok (.aload_n 0, 1) := by decide +kernel
theorem d_RM_advance_72 : decode b_RM_advance 72 = .ok (.getfield 21, 3) := by decide +kernel
theorem d_RM_advance_75 : decode b_RM_advance 75 = .ok (.aload_n 0, 1) := by decide +kernel
theorem d_RM_advance_76 : decode b_RM_advance 76 = .ok (.getfield 14, 3) := by decide +kernel
theorem d_RM_advance_79 : decode b_RM_advance 79 = .ok (.getfield 79, 3) := by decide +kernel
theorem d_RM_advance_82 : decode b_RM_advance 82 = .ok (.invokevirtual 149, 3) := by decide +kernel
theorem d_RM_advance_85 : decode b_RM_advance 85 = .ok (.iconst 0, 1) := by decide +kernel
theorem d_RM_advance_86 : decode b_RM_advance 86 = .ok (.ireturn, 1) := by decide +kernel
theorem d_RM_stopHere_0 : decode b_RM_stopHere 0 = .ok (.aload_n 0, 1) := by decide +kernel
theorem d_RM_stopHere_1 : decode b_RM_stopHere 1 = .ok (.getfield 14, 3) := by decide +kernel
theorem d_RM_stopHere_4 : decode b_RM_stopHere 4 = .ok (.getfield 79, 3) := by decide +kernel
theorem d_RM_stopHere_7 : decode b_RM_stopHere 7 = .ok (.astore_n 1, 1) := by decide +kernel
theorem d_RM_stopHere_8 : decode b_RM_stopHere 8 = .ok (.aload_n 1, 1) := by decide +kernel
theorem d_RM_stopHere_9 : decode b_RM_stopHere 9 = .ok (.getfield 83, 3) := by decide +kernel
theorem d_RM_stopHere_12 : decode b_RM_stopHere 12 = .ok (.ifCond .ne 5, 3) := by decide +kernel
theorem d_RM_stopHere_15 : decode b_RM_stopHere 15 = .ok (.iconst 0, 1) := by decide +kernel
theorem d_RM_stopHere_16 : decode b_RM_stopHere 16 = .ok (.ireturn, 1) := by decide +kernel
theorem d_RM_stopHere_17 : decode b_RM_stopHere 17 = .ok (.aload_n 1, 1) := by decide +kernel
theorem d_RM_stopHere_18 : decode b_RM_stopHere 18 = .ok (.getfield 99, 3) := by decide +kernel
theorem d_RM_stopHere_21 : decode b_RM_stopHere 21 = .ok (.bipush 64, 2) := by decide +kernel
theorem d_RM_stopHere_23 : decode b_RM_stopHere 23 = .ok (.invokestatic 32, 3) := by decide +kernel
theorem d_RM_stopHere_26 : decode b_RM_stopHere 26 = .ok (.ifCond .eq 18, 3) := by decide +kernel
theorem d_RM_stopHere_29 : decode b_RM_stopHere 29 = .ok (.aload_n 0, 1) := by decide +kernel
theorem d_RM_stopHere_30 : decode b_RM_stopHere 30 = .ok (.getfield 25, 3) := by decide +kernel
theorem d_RM_stopHere_33 : decode b_RM_stopHere 33 = .ok (.aload_n 1, 1) := by decide +kernel
theorem d_RM_stopHere_34 : decode b_RM_stopHere 34 = .ok (.getfield 99, 3) := by decide +kernel
theorem d_RM_stopHere_37 : decode b_RM_stopHere 37 = .ok (.baload, 1) := by decide +kernel
theorem d_RM_stopHere_38 : decode b_RM_stopHere 38 = .ok (.ifCond .eq 6, 3) := by decide +kernel
theorem d_RM_stopHere_41 : decode b_RM_stopHere 41 = .ok (.bipush 9, 2) := by decide +kernel
theorem d_RM_stopHere_43 : decode b_RM_stopHere 43 = .ok (.ireturn, 1) := by decide +kernel
theorem d_RM_stopHere_44 : decode b_RM_stopHere 44 = .ok (.aload_n 1, 1) := by decide +kernel
theorem d_RM_stopHere_45 : decode b_RM_stopHere 45 = .ok (.getfield 153, 3) := by decide +kernel
theorem d_RM_stopHere_48 : decode b_RM_stopHere 48 = .ok (.bipush 32, 2) := by decide +kernel
theorem d_RM_stopHere_50 : decode b_RM_stopHere 50 = .ok (.invokestatic 32, 3) := by decide +kernel
theorem d_RM_stopHere_53 : decode b_RM_stopHere 53 = .ok (.ifCond .eq 20, 3) := by decide +kernel
theorem d_RM_stopHere_56 : decode b_RM_stopHere 56 = .ok (.aload_n 0, 1) := by decide +kernel
theorem d_RM_stopHere_57 : decode b_RM_stopHere 57 = .ok (.getfield 29, 3) := by decide +kernel
theorem d_RM_stopHere_60 : decode b_RM_stopHere 60 = .ok (.aload_n 1, 1) := by decide +kernel
theorem d_RM_stopHere_61 : decode b_RM_stopHere 61 = .ok (.getfield 153, 3) := by decide +kernel
theorem d_RM_stopHere_64 : decode b_RM_stopHere 64 = .ok (.baload, 1) := by decide +kernel
theorem d_RM_stopHere_65 : decode b_RM_stopHere 65 = .ok (.ifCond .eq 8, 3) := by decide +kernel
theorem d_RM_stopHere_68 : decode b_RM_stopHere 68 = .ok (.bipush 10, 2) := by decide +kernel
theorem d_RM_stopHere_70 : decode b_RM_stopHere 70 = .ok (.goto 4, 3) := by decide +kernel
theorem d_RM_stopHere_73 : decode b_RM_stopHere 73 = .ok (.iconst 0, 1) := by decide +kernel
theorem d_RM_stopHere_74 : decode b_RM_stopHere 74 = .ok (.ireturn, 1) := by decide +kernel
theorem d_RM_travel_0 : decode b_RM_travel 0 = .ok (.aload_n 0, 1) := by decide +kernel
theorem d_RM_travel_1 : decode b_RM_travel 1 = .ok (.getfield 14, 3) := by decide +kernel
theorem d_RM_travel_4 : decode b_RM_travel 4 = .ok (.getfield 79, 3) := by decide +kernel
theorem d_RM_travel_7 : decode b_RM_travel 7 = .ok (.astore_n 2, 1) := by decide +kernel
theorem d_RM_travel_8 : decode b_RM_travel 8 = .ok (.iload_n 1, 1) := by decide +kernel
theorem d_RM_travel_9 : decode b_RM_travel 9 = .ok (.aload_n 2, 1) := by decide +kernel
theorem d_RM_travel_10 : decode b_RM_travel 10 = .ok (.getfield 83, 3) := by decide +kernel
theorem d_RM_travel_13 : decode b_RM_travel 13 = .ok (.if_icmp .ne 4, 3) := by decide +kernel
theorem d_RM_travel_16 : decode b_RM_travel 16 = .ok (.return_, 1) := by decide +kernel
theorem d_RM_travel_17 : decode b_RM_travel 17 = .ok (.iload_n 1, 1) := by decide +kernel
theorem d_RM_travel_18 : decode b_RM_travel 18 = .ok (.aload_n 2, 1) := by decide +kernel
theorem d_RM_travel_19 : decode b_RM_travel 19 = .ok (.getfield 83, 3) := by decide +kernel
theorem d_RM_travel_22 : decode b_RM_travel 22 = .ok (.if_icmp .ge 40, 3) := by decide +kernel
theorem d_RM_travel_25 : decode b_RM_travel 25 = .ok (.aload_n 2, 1) := by decide +kernel
theorem d_RM_travel_26 : decode b_RM_travel 26 = .ok (.getfield 83, 3) := by decide +kernel
theorem d_RM_travel_29 : decode b_RM_travel 29 = .ok (.iload_n 1, 1) := by decide +kernel
theorem d_RM_travel_30 : decode b_RM_travel 30 = .ok (.isub, 1) := by decide +kernel
theorem d_RM_travel_31 : decode b_RM_travel 31 = .ok (.aload_n 0, 1) := by decide +kernel
theorem d_RM_travel_32 : decode b_RM_travel 32 = .ok (.getfield 14, 3) := by decide +kernel
theorem d_RM_travel_35 : decode b_RM_travel 35 = .ok (.getfield 114, 3) := by decide +kernel
theorem d_RM_travel_38 : decode b_RM_travel 38 = .ok (.getfield 118, 3) := by decide +kernel
theorem d_RM_travel_41 : decode b_RM_travel 41 = .ok (.if_icmp .gt 21, 3) := by decide +kernel
theorem d_RM_travel_44 : decode b_RM_travel 44 = .ok (.aload_n 0, 1) := by decide +kernel
theorem d_RM_travel_45 : decode b_RM_travel 45 = .ok (.getfield 14, 3) := by decide +kernel
theorem d_RM_travel_48 : decode b_RM_travel 48 = .ok (.getfield 114, 3) := by decide +kernel
theorem d_RM_travel_51 : decode b_RM_travel 51 = .ok (.aload_n 2, 1) := by decide +kernel
theorem d_RM_travel_52 : decode b_RM_travel 52 = .ok (.getfield 83, 3) := by decide +kernel
theorem d_RM_travel_55 : decode b_RM_travel 55 = .ok (.iload_n 1, 1) := by decide +kernel
theorem d_RM_travel_56 : decode b_RM_travel 56 = .ok (.isub, 1) := by decide +kernel
theorem d_RM_travel_57 : decode b_RM_travel 57 = .ok (.aload_n 2, 1) := by decide +kernel
theorem d_RM_travel_58 : decode b_RM_travel 58 = .ok (.invokevirtual 156, 3) := by decide +kernel
theorem d_RM_travel_61 : decode b_RM_travel 61 = .ok (.return_, 1) := by decide +kernel
theorem d_RM_travel_62 : decode b_RM_travel 62 = .ok (.aload_n 0, 1) := by decide +kernel
theorem d_RM_travel_63 : decode b_RM_travel 63 = .ok (.getfield 21, 3) := by decide +kernel
theorem d_RM_travel_66 : decode b_RM_travel 66 = .ok (.iload_n 1, 1) := by decide +kernel
theorem d_RM_travel_67 : decode b_RM_travel 67 = .ok (.invokevirtual 160, 3) := by decide +kernel
theorem d_RM_travel_70 : decode b_RM_travel 70 = .ok (.astore_n 3, 1) := by decide +kernel
theorem d_RM_travel_71 : decode b_RM_travel 71 = .ok (.iload_n 1, 1) := by decide +kernel
theorem d_RM_travel_72 : decode b_RM_travel 72 = .ok (.aload_n 2, 1) := by decide +kernel
theorem d_RM_travel_73 : decode b_RM_travel 73 = .ok (.getfield 83, 3) := by decide +kernel
theorem d_RM_travel_76 : decode b_RM_travel 76 = .ok (.if_icmp .lt 14, 3) := by decide +kernel
theorem d_RM_travel_79 : decode b_RM_travel 79 = .ok (.aload_n 3, 1) := by decide +kernel
theorem d_RM_travel_80 : decode b_RM_travel 80 = .ok (.getfield 83, 3) := by decide +kernel
theorem d_RM_travel_83 : decode b_RM_travel 83 = .ok (.aload_n 2, 1) := by decide +kernel
theorem d_RM_travel_84 : decode b_RM_travel 84 = .ok (.getfield 83, 3) := by decide +kernel
theorem d_RM_travel_87 : decode b_RM_travel 87 = .ok (.if_icmp .le 19, 3) := by decide +kernel
theorem d_RM_travel_90 : decode b_RM_travel 90 = .ok (.aload_n 2, 1) := by decide +kernel
theorem d_RM_travel_91 : decode b_RM_travel 91 = .ok (.aload_n 3, 1) := by decide +kernel
theorem d_RM_travel_92 : decode b_RM_travel 92 = .ok (.invokevirtual 164, 3) := by decide +kernel
theorem d_RM_travel_95 : decode b_RM_travel 95 = .ok (.aload_n 0, 1) := by decide +kernel
theorem d_RM_travel_96 : decode b_RM_travel 96 = .ok (.getfield 14, 3) := by decide +kernel
theorem d_RM_travel_99 : decode b_RM_travel 99 = .ok (.getfield 114, 3) := by decide +kernel
theorem d_RM_travel_102 : decode b_RM_travel 102 = .ok (.iconst 0, 1) := by decide +kernel
theorem d_RM_travel_103 : decode b_RM_travel 103 = .ok (.putfield 118, 3) := by decide +kernel
theorem d_RM_travel_106 : decode b_RM_travel 106 = .ok (.iload_n 1, 1) := by decide +kernel
theorem d_RM_travel_107 : decode b_RM_travel 107 = .ok (.aload_n 2, 1) := by decide +kernel
theorem d_RM_travel_108 : decode b_RM_travel 108 = .ok (.getfield 83, 3) := by decide +kernel
theorem d_RM_travel_111 : decode b_RM_travel 111 = .ok (.isub, 1) := by decide +kernel
theorem d_RM_travel_112 : decode b_RM_travel 112 = .ok (.istore 4, 2) := by decide +kernel
theorem d_RM_travel_114 : decode b_RM_travel 114 = .ok (.iconst 0, 1) := by decide +kernel
theorem d_RM_travel_115 : decode b_RM_travel 115 = .ok (.istore 5, 2) := by decide +kernel
theorem d_RM_travel_117 : decode b_RM_travel 117 = .ok (.iload 5, 2) := by decide +kernel
theorem d_RM_travel_119 : decode b_RM_travel 119 = .ok (.iload 4, 2) := by decide +kernel
theorem d_RM_travel_121 : decode b_RM_travel 121 = .ok (.if_icmp .ge 16, 3) := by decide +kernel
theorem d_RM_travel_124 : decode b_RM_travel 124 = .ok (.aload_n 0, 1) := by decide +kernel
theorem d_RM_travel_125 : decode b_RM_travel 125 = .ok (.getfield 14, 3) := by decide +kernel
theorem d_RM_travel_128 : decode b_RM_travel 128 = .ok (.invokevirtual 146, 3) := by decide +kernel
theorem d_RM_travel_131 : decode b_RM_travel 131 = .ok (.iinc 5 1, 3) := by decide +kernel
theorem d_RM_travel_134 : decode b_RM_travel 134 = .ok (.goto (-17), 3) := by decide +kernel
theorem d_RM_travel_137 : decode b_RM_travel 137 = .ok (.aload_n 0, 1) := by decide +kernel
theorem d_RM_travel_138 : decode b_RM_travel 138 = .ok (.dup, 1) := by decide +kernel
theorem d_RM_travel_139 : decode b_RM_travel 139 = .ok (.getfield 60, 3) := by decide +kernel
theorem d_RM_travel_142 : decode b_RM_travel 142 = .ok (.iload 4, 2) := by decide +kernel
theorem d_RM_travel_144 : decode b_RM_travel 144 = .ok (.iadd, 1) := by decide +kernel
theorem d_RM_travel_145 : decode b_RM_travel 145 = .ok (.putfield 60, 3) := by decide +kernel
theorem d_RM_travel_148 : decode b_RM_travel 148 = .ok (.return_, 1) := by decide +kernel
theorem d_Ma_init_0 : decode b_Ma_init 0 = .ok (.aload_n 0, 1) := by decide +kernel
theorem d_Ma_init_1 : decode b_Ma_init 1 = .ok (.invokespecial 3, 3) := by decide +kernel
theorem d_Ma_init_4 : decode b_Ma_init 4 = .ok (.aload_n 0, 1) := by decide +kernel
theorem d_Ma_init_5 : decode b_Ma_init 5 = .ok (.bipush 64, 2) := by decide +kernel
theorem d_Ma_init_7 : decode b_Ma_init 7 = .ok (.newarray .int, 2) := by decide +kernel
theorem d_Ma_init_9 : decode b_Ma_init 9 = .ok (.putfield 9, 3) := by decide +kernel
theorem d_Ma_init_12 : decode b_Ma_init 12 = .ok (.aload_n 0, 1) := by decide +kernel
theorem d_Ma_init_13 : decode b_Ma_init 13 = .ok (.bipush 40, 2) := by decide +kernel
theorem d_Ma_init_15 : decode b_Ma_init 15 = .ok (.newarray .int, 2) := by decide +kernel
theorem d_Ma_init_17 : decode b_Ma_init 17 = .ok (.putfield 15, 3) := by decide +kernel
theorem d_Ma_init_20 : decode b_Ma_init 20 = .ok (.aload_n 0, 1) := by decide +kernel
theorem d_Ma_init_21 : decode b_Ma_init 21 = .ok (.new 18, 3) := by decide +kernel
theorem d_Ma_init_24 : decode b_Ma_init 24 = .ok (.dup, 1) := by decide +kernel
theorem d_Ma_init_25 : decode b_Ma_init 25 = .ok (.iload_n 1, 1) := by decide +kernel
theorem d_Ma_init_26 : decode b_Ma_init 26 = .ok (.invokespecial 20, 3) := by decide +kernel
theorem d_Ma_init_29 : decode b_Ma_init 29 = .ok (.putfield 23, 3) := by decide +kernel
theorem d_Ma_init_32 : decode b_Ma_init 32 = .ok (.aload_n 0, 1) := by decide +kernel
theorem d_Ma_init_33 : decode b_Ma_init 33 = .ok (.new 27, 3) := by decide +kernel
theorem d_Ma_init_36 : decode b_Ma_init 36 = .ok (.dup, 1) := by decide +kernel
theorem d_Ma_init_37 : decode b_Ma_init 37 = .ok (.invokespecial 29, 3) := by decide +kernel
theorem d_Ma_init_40 : decode b_Ma_init 40 = .ok (.putfield 30, 3) := by decide +kernel
theorem d_Ma_init_43 : decode b_Ma_init 43 = .ok (.aload_n 0, 1) := by decide +kernel
theorem d_Ma_init_44 : decode b_Ma_init 44 = .ok (.aload_n 0, 1) := by decide +kernel
theorem d_Ma_init_45 : decode b_Ma_init 45 = .ok (.getfield 30, 3) := by decide +kernel
theorem d_Ma_init_48 : decode b_Ma_init 48 = .ok (.getfield 34, 3) := by decide +kernel
theorem d_Ma_init_51 : decode b_Ma_init 51 = .ok (.iconst 0, 1) := by decide +kernel
theorem d_Ma_init_52 : decode b_Ma_init 52 = .ok (.aaload, 1) := by decide +kernel
theorem d_Ma_init_53 : decode b_Ma_init 53 = .ok (.putfield 38, 3) := by decide +kernel
theorem d_Ma_init_56 : decode b_Ma_init 56 = .ok (.return_, 1) := by decide +kernel
theorem d_Ma_addInput_0 : decode b_Ma_addInput 0 = .ok (.aload_n 0, 1) := by decide +kernel
theorem d_Ma_addInput_1 : decode b_Ma_addInput 1 = .ok (.getfield 42, 3) := by decide +kernel
theorem d_Ma_addInput_4 : decode b_Ma_addInput 4 = .ok (.bipush 40, 2) := by decide +kernel
theorem d_Ma_addInput_6 : decode b_Ma_addInput 6 = .ok (.if_icmp .lt 5, 3) := by decide +kernel
theorem d_Ma_addInput_9 : decode b_Ma_addInput 9 = .ok (.iconst (-1), 1) := by decide +kernel
theorem d_Ma_addInput_10 : decode b_Ma_addInput 10 = .ok (.ireturn, 1) := by decide +kernel
theorem d_Ma_addInput_11 : decode b_Ma_addInput 11 = .ok (.aload_n 0, 1) := by decide +kernel
theorem d_Ma_addInput_12 : decode b_Ma_addInput 12 = .ok (.getfield 15, 3) := by decide +kernel
theorem d_Ma_addInput_15 : decode b_Ma_addInput 15 = .ok (.aload_n 0, 1) := by decide +kernel
theorem d_Ma_addInput_16 : decode b_Ma_addInput 16 = .ok (.getfield 42, 3) := by decide +kernel
theorem d_Ma_addInput_19 : decode b_Ma_addInput 19 = .ok (.iload_n 1, 1) := by decide +kernel
theorem d_Ma_addInput_20 : decode b_Ma_addInput 20 = .ok (.iastore, 1) := by decide +kernel
theorem d_Ma_addInput_21 : decode b_Ma_addInput 21 = .ok (.aload_n 0, 1) := by decide +kernel
theorem d_Ma_addInput_22 : decode b_Ma_addInput 22 = .ok (.dup, 1) := by decide +kernel
theorem d_Ma_addInput_23 : decode b_Ma_addInput 23 = .ok (.getfield 42, 3) := by decide +kernel
theorem d_Ma_addInput_26 : decode b_Ma_addInput 26 = .ok (.iconst 1, 1) := by decide +kernel
theorem d_Ma_addInput_27 : decode b_Ma_addInput 27 = .ok (.iadd, 1) := by decide +kernel
theorem d_Ma_addInput_28 : decode b_Ma_addInput 28 = .ok (.putfield 42, 3) := by decide +kernel
theorem d_Ma_addInput_31 : decode b_Ma_addInput 31 = .ok (.aload_n 0, 1) := by decide +kernel
theorem d_Ma_addInput_32 : decode b_Ma_addInput 32 = .ok (.getfield 42, 3) := by decide +kernel
theorem d_Ma_addInput_35 : decode b_Ma_addInput 35 = .ok (.ireturn, 1) := by decide +kernel
theorem d_Ma_obstacle_0 : decode b_Ma_obstacle 0 = .ok (.aload_n 0, 1) := by decide +kernel
theorem d_Ma_obstacle_1 : decode b_Ma_obstacle 1 = .ok (.getfield 23, 3) := by decide +kernel
theorem d_Ma_obstacle_4 : decode b_Ma_obstacle 4 = .ok (.getfield 46, 3) := by decide +kernel
theorem d_Ma_obstacle_7 : decode b_Ma_obstacle 7 = .ok (.bipush 64, 2) := by decide +kernel
theorem d_Ma_obstacle_9 : decode b_Ma_obstacle 9 = .ok (.invokestatic 49, 3) := by decide +kernel
theorem d_Ma_obstacle_12 : decode b_Ma_obstacle 12 = .ok (.ifCond .ne 5, 3) := by decide +kernel
theorem d_Ma_obstacle_15 : decode b_Ma_obstacle 15 = .ok (.iconst 4, 1) := by decide +kernel
theorem d_Ma_obstacle_16 : decode b_Ma_obstacle 16 = .ok (.ireturn, 1) := by decide +kernel
theorem d_Ma_obstacle_17 : decode b_Ma_obstacle 17 = .ok (.aload_n 0, 1) := by decide +kernel
theorem d_Ma_obstacle_18 : decode b_Ma_obstacle 18 = .ok (.getfield 9, 3) := by decide +kernel
theorem d_Ma_obstacle_21 : decode b_Ma_obstacle 21 = .ok (.aload_n 0, 1) := by decide +kernel
theorem d_Ma_obstacle_22 : decode b_Ma_obstacle 22 = .ok (.getfield 23, 3) := by decide +kernel
theorem d_Ma_obstacle_25 : decode b_Ma_obstacle 25 = .ok (.getfield 46, 3) := by decide +kernel
theorem d_Ma_obstacle_28 : decode b_Ma_obstacle 28 = .ok (.iaload, 1) := by decide +kernel
theorem d_Ma_obstacle_29 : decode b_Ma_obstacle 29 = .ok (.bipush 31, 2) := by decide +kernel
theorem d_Ma_obstacle_31 : decode b_Ma_obstacle 31 = .ok (.iand, 1) := by decide +kernel
theorem d_Ma_obstacle_32 : decode b_Ma_obstacle 32 = .ok (.istore_n 1, 1) := by decide +kernel
theorem d_Ma_obstacle_33 : decode b_Ma_obstacle 33 = .ok (.aload_n 0, 1) := by decide +kernel
theorem d_Ma_obstacle_34 : decode b_Ma_obstacle 34 = .ok (.getfield 9, 3) := by decide +kernel
theorem d_Ma_obstacle_37 : decode b_Ma_obstacle 37 = .ok (.aload_n 0, 1) := by decide +kernel
theorem d_Ma_obstacle_38 : decode b_Ma_obstacle 38 = .ok (.getfield 23, 3) := by decide +kernel
theorem d_Ma_obstacle_41 : decode b_Ma_obstacle 41 = .ok (.getfield 46, 3) := by decide +kernel
theorem d_Ma_obstacle_44 : decode b_Ma_obstacle 44 = .ok (.iaload, 1) := by decide +kernel
theorem d_Ma_obstacle_45 : decode b_Ma_obstacle 45 = .ok (.iconst 5, 1) := by decide +kernel
theorem d_Ma_obstacle_46 : decode b_Ma_obstacle 46 = .ok (.ishr, 1) := by decide +kernel
theorem d_Ma_obstacle_47 : decode b_Ma_obstacle 47 = .ok (.istore_n 2, 1) := by decide +kernel
theorem d_Ma_obstacle_48 : decode b_Ma_obstacle 48 = .ok (.iload_n 1, 1) := by decide +kernel
theorem d_Ma_obstacle_49 : decode b_Ma_obstacle 49 = .ok (.bipush 20, 2) := by decide +kernel
theorem d_Ma_obstacle_51 : decode b_Ma_obstacle 51 = .ok (.if_icmp .le 5, 3) := by decide +kernel
theorem d_Ma_obstacle_54 : decode b_Ma_obstacle 54 = .ok (.iconst 5, 1) := by decide +kernel
theorem d_Ma_obstacle_55 : decode b_Ma_obstacle 55 = .ok (.ireturn, 1) := by decide +kernel
theorem d_Ma_obstacle_56 : decode b_Ma_obstacle 56 = .ok (.iload_n 1, 1) := by decide +kernel
theorem d_Ma_obstacle_57 : decode b_Ma_obstacle 57 = .ok (.ifCond .ne 5, 3) := by decide +kernel
theorem d_Ma_obstacle_60 : decode b_Ma_obstacle 60 = .ok (.iconst 1, 1) := by decide +kernel
theorem d_Ma_obstacle_61 : decode b_Ma_obstacle 61 = .ok (.ireturn, 1) := by decide +kernel
theorem d_Ma_obstacle_62 : decode b_Ma_obstacle 62 = .ok (.aload_n 0, 1) := by decide +kernel
theorem d_Ma_obstacle_63 : decode b_Ma_obstacle 63 = .ok (.iload_n 1, 1) := by decide +kernel
theorem d_Ma_obstacle_64 : decode b_Ma_obstacle 64 = .ok (.iload_n 2, 1) := by decide +kernel
theorem d_Ma_obstacle_65 : decode b_Ma_obstacle 65 = .ok (.invokevirtual 53, 3) := by decide +kernel
theorem d_Ma_obstacle_68 : decode b_Ma_obstacle 68 = .ok (.ifCond .eq 5, 3) := by decide +kernel
theorem d_Ma_obstacle_71 : decode b_Ma_obstacle 71 = .ok (.iconst 2, 1) := by decide +kernel
theorem d_Ma_obstacle_72 : decode b_Ma_obstacle 72 = .ok (.ireturn, 1) := by decide +kernel
theorem d_Ma_obstacle_73 : decode b_Ma_obstacle 73 = .ok (.iload_n 1, 1) := by decide +kernel
theorem d_Ma_obstacle_74 : decode b_Ma_obstacle 74 = .ok (.bipush 10, 2) := by decide +kernel
theorem d_Ma_obstacle_76 : decode b_Ma_obstacle 76 = .ok (.if_icmp .eq 9, 3) := by decide +kernel
theorem d_Ma_obstacle_79 : decode b_Ma_obstacle 79 = .ok (.iload_n 1, 1) := by decide +kernel
theorem d_Ma_obstacle_80 : decode b_Ma_obstacle 80 = .ok (.bipush 11, 2) := by decide +kernel
theorem d_Ma_obstacle_82 : decode b_Ma_obstacle 82 = .ok (.if_icmp .ne 18, 3) := by decide +kernel
theorem d_Ma_obstacle_85 : decode b_Ma_obstacle 85 = .ok (.aload_n 0, 1) := by decide +kernel
theorem d_Ma_obstacle_86 : decode b_Ma_obstacle 86 = .ok (.iconst 0, 1) := by decide +kernel
theorem d_Ma_obstacle_87 : decode b_Ma_obstacle 87 = .ok (.invokevirtual 56, 3) := by decide +kernel
theorem d_Ma_obstacle_90 : decode b_Ma_obstacle 90 = .ok (.bipush 32, 2) := by decide +kernel
theorem d_Ma_obstacle_92 : decode b_Ma_obstacle 92 = .ok (.invokestatic 49, 3) := by decide +kernel
theorem d_Ma_obstacle_95 : decode b_Ma_obstacle 95 = .ok (.ifCond .ne 5, 3) := by decide +kernel
theorem d_Ma_obstacle_98 : decode b_Ma_obstacle 98 = .ok (.iconst 4, 1) := by decide +kernel
theorem d_Ma_obstacle_99 : decode b_Ma_obstacle 99 = .ok (.ireturn, 1) := by decide +kernel
theorem d_Ma_obstacle_100 : decode b_Ma_obstacle 100 = .ok (.iload_n 1, 1) := by decide +kernel
theorem d_Ma_obstacle_101 : decode b_Ma_obstacle 101 = .ok (.bipush 8, 2) := by decide +kernel
theorem d_Ma_obstacle_103 : decode b_Ma_obstacle 103 = .ok (.if_icmp .ne 11, 3) := by decide +kernel
theorem d_Ma_obstacle_106 : decode b_Ma_obstacle 106 = .ok (.aload_n 0, 1) := by decide +kernel
theorem d_Ma_obstacle_107 : decode b_Ma_obstacle 107 = .ok (.iconst 0, 1) := by decide +kernel
theorem d_Ma_obstacle_108 : decode b_Ma_obstacle 108 = .ok (.invokevirtual 56, 3) := by decide +kernel
theorem d_Ma_obstacle_111 : decode b_Ma_obstacle 111 = .ok (.ifCond .eq 14, 3) := by decide +kernel
theorem d_Ma_obstacle_114 : decode b_Ma_obstacle 114 = .ok (.iload_n 1, 1) := by decide +kernel
theorem d_Ma_obstacle_115 : decode b_Ma_obstacle 115 = .ok (.bipush 19, 2) := by decide +kernel
theorem d_Ma_obstacle_117 : decode b_Ma_obstacle 117 = .ok (.if_icmp .ne 11, 3) := by decide +kernel
theorem d_Ma_obstacle_120 : decode b_Ma_obstacle 120 = .ok (.iload_n 2, 1) := by decide +kernel
theorem d_Ma_obstacle_121 : decode b_Ma_obstacle 121 = .ok (.iconst 1, 1) := by decide +kernel
theorem d_Ma_obstacle_122 : decode b_Ma_obstacle 122 = .ok (.if_icmp .ge 6, 3) := by decide +kernel
theorem d_Ma_obstacle_125 : decode b_Ma_obstacle 125 = .ok (.bipush 6, 2) := by decide +kernel
theorem d_Ma_obstacle_127 : decode b_Ma_obstacle 127 = .ok (.ireturn, 1) := by decide +kernel
theorem d_Ma_obstacle_128 : decode b_Ma_obstacle 128 = .ok (.iload_n 1, 1) := by decide +kernel
theorem d_Ma_obstacle_129 : decode b_Ma_obstacle 129 = .ok (.bipush 18, 2) := by decide +kernel
theorem d_Ma_obstacle_131 : decode b_Ma_obstacle 131 = .ok (.if_icmp .ne 20, 3) := by decide +kernel
theorem d_Ma_obstacle_134 : decode b_Ma_obstacle 134 = .ok (.aload_n 0, 1) := by decide +kernel
theorem d_Ma_obstacle_135 : decode b_Ma_obstacle 135 = .ok (.getfield 23, 3) := by decide +kernel
theorem d_Ma_obstacle_138 : decode b_Ma_obstacle 138 = .ok (.getfield 60, 3) := by decide +kernel
theorem d_Ma_obstacle_141 : decode b_Ma_obstacle 141 = .ok (.aload_n 0, 1) := by decide +kernel
theorem d_Ma_obstacle_142 : decode b_Ma_obstacle 142 = .ok (.getfield 42, 3) := by decide +kernel
theorem d_Ma_obstacle_145 : decode b_Ma_obstacle 145 = .ok (.if_icmp .lt 6, 3) := by decide +kernel
theorem d_Ma_obstacle_148 : decode b_Ma_obstacle 148 = .ok (.bipush 7, 2) := by decide +kernel
theorem d_Ma_obstacle_150 : decode b_Ma_obstacle 150 = .ok (.ireturn, 1) := by decide +kernel
theorem d_Ma_obstacle_151 : decode b_Ma_obstacle 151 = .ok (.aload_n 0, 1) := by decide +kernel
theorem d_Ma_obstacle_152 : decode b_Ma_obstacle 152 = .ok (.getfield 23, 3) := by decide +kernel
theorem d_Ma_obstacle_155 : decode b_Ma_obstacle 155 = .ok (.getfield 63, 3) := by decide +kernel
theorem d_Ma_obstacle_158 : decode b_Ma_obstacle 158 = .ok (.getstatic 66, 3) := by decide +kernel
theorem d_Ma_obstacle_161 : decode b_Ma_obstacle 161 = .ok (.iload_n 1, 1) := by decide +kernel
theorem d_Ma_obstacle_162 : decode b_Ma_obstacle 162 = .ok (.iaload, 1) := by decide +kernel
theorem d_Ma_obstacle_163 : decode b_Ma_obstacle 163 = .ok (.iadd, 1) := by decide +kernel
theorem d_Ma_obstacle_164 : decode b_Ma_obstacle 164 = .ok (.bipush 24, 2) := by decide +kernel
theorem d_Ma_obstacle_166 : decode b_Ma_obstacle 166 = .ok (.if_icmp .le 7, 3) := by decide +kernel
theorem d_Ma_obstacle_169 : decode b_Ma_obstacle 169 = .ok (.iconst 3, 1) := by decide +kernel
theorem d_Ma_obstacle_170 : decode b_Ma_obstacle 170 = .ok (.goto 4, 3) := by decide +kernel
theorem d_Ma_obstacle_173 : decode b_Ma_obstacle 173 = .ok (.iconst 0, 1) := by decide +kernel
theorem d_Ma_obstacle_174 : decode b_Ma_obstacle 174 = .ok (.ireturn, 1) := by decide +kernel
theorem d_Ma_hasTooFew_0 : decode b_Ma_hasTooFew 0 = .ok (.iload_n 1, 1) := by decide +kernel
theorem d_Ma_hasTooFew_1 : decode b_Ma_hasTooFew 1 = .ok (.bipush 16, 2) := by decide +kernel
theorem d_Ma_hasTooFew_3 : decode b_Ma_hasTooFew 3 = .ok (.if_icmp .ne 37, 3) := by decide +kernel
theorem d_Ma_hasTooFew_6 : decode b_Ma_hasTooFew 6 = .ok (.aload_n 0, 1) := by decide +kernel
theorem d_Ma_hasTooFew_7 : decode b_Ma_hasTooFew 7 = .ok (.getfield 23, 3) := by decide +kernel
theorem d_Ma_hasTooFew_10 : decode b_Ma_hasTooFew 10 = .ok (.getfield 69, 3) := by decide +kernel
theorem d_Ma_hasTooFew_13 : decode b_Ma_hasTooFew 13 = .ok (.iconst 2, 1) := by decide +kernel
theorem d_Ma_hasTooFew_14 : decode b_Ma_hasTooFew 14 = .ok (.if_icmp .lt 20, 3) := by decide +kernel
theorem d_Ma_hasTooFew_17 : decode b_Ma_hasTooFew 17 = .ok (.aload_n 0, 1) := by decide +kernel
theorem d_Ma_hasTooFew_18 : decode b_Ma_hasTooFew 18 = .ok (.getfield 23, 3) := by decide +kernel
theorem d_Ma_hasTooFew_21 : decode b_Ma_hasTooFew 21 = .ok (.getfield 69, 3) := by decide +kernel
theorem d_Ma_hasTooFew_24 : decode b_Ma_hasTooFew 24 = .ok (.aload_n 0, 1) := by decide +kernel
theorem d_Ma_hasTooFew_25 : decode b_Ma_hasTooFew 25 = .ok (.getfield 23, 3) := by decide +kernel
theorem d_Ma_hasTooFew_28 : decode b_Ma_hasTooFew 28 = .ok (.getfield 63, 3) := by decide +kernel
theorem d_Ma_hasTooFew_31 : decode b_Ma_hasTooFew 31 = .ok (.if_icmp .lt 7, 3) := by decide +kernel
theorem d_Ma_hasTooFew_34 : decode b_Ma_hasTooFew 34 = .ok (.iconst 1, 1) := by decide +kernel
theorem d_Ma_hasTooFew_35 : decode b_Ma_hasTooFew 35 = .ok (.goto 4, 3) := by decide +kernel
theorem d_Ma_hasTooFew_38 : decode b_Ma_hasTooFew 38 = .ok (.iconst 0, 1) := by decide +kernel
theorem d_Ma_hasTooFew_39 : decode b_Ma_hasTooFew 39 = .ok (.ireturn, 1) := by decide +kernel
theorem d_Ma_hasTooFew_40 : decode b_Ma_hasTooFew 40 = .ok (.iload_n 1, 1) := by decide +kernel
theorem d_Ma_hasTooFew_41 : decode b_Ma_hasTooFew 41 = .ok (.bipush 17, 2) := by decide +kernel
theorem d_Ma_hasTooFew_43 : decode b_Ma_hasTooFew 43 = .ok (.if_icmp .ne 27, 3) := by decide +kernel
theorem d_Ma_hasTooFew_46 : decode b_Ma_hasTooFew 46 = .ok (.aload_n 0, 1) := by decide +kernel
theorem d_Ma_hasTooFew_47 : decode b_Ma_hasTooFew 47 = .ok (.iload_n 2, 1) := by decide +kernel
theorem d_Ma_hasTooFew_48 : decode b_Ma_hasTooFew 48 = .ok (.invokevirtual 72, 3) := by decide +kernel
theorem d_Ma_hasTooFew_51 : decode b_Ma_hasTooFew 51 = .ok (.aload_n 0, 1) := by decide +kernel
theorem d_Ma_hasTooFew_52 : decode b_Ma_hasTooFew 52 = .ok (.getfield 23, 3) := by decide +kernel
theorem d_Ma_hasTooFew_55 : decode b_Ma_hasTooFew 55 = .ok (.getfield 63, 3) := by decide +kernel
theorem d_Ma_hasTooFew_58 : decode b_Ma_hasTooFew 58 = .ok (.invokestatic 49, 3) := by decide +kernel
theorem d_Ma_hasTooFew_61 : decode b_Ma_hasTooFew 61 = .ok (.ifCond .ne 7, 3) := by decide +kernel
theorem d_Ma_hasTooFew_64 : decode b_Ma_hasTooFew 64 = .ok (.iconst 1, 1) := by decide +kernel
theorem d_Ma_hasTooFew_65 : decode b_Ma_hasTooFew 65 = .ok (.goto 4, 3) := by decide +kernel
theorem d_Ma_hasTooFew_68 : decode b_Ma_hasTooFew 68 = .ok (.iconst 0, 1) := by decide +kernel
theorem d_Ma_hasTooFew_69 : decode b_Ma_hasTooFew 69 = .ok (.ireturn, 1) := by decide +kernel
theorem d_Ma_hasTooFew_70 : decode b_Ma_hasTooFew 70 = .ok (.aload_n 0, 1) := by decide +kernel
theorem d_Ma_hasTooFew_71 : decode b_Ma_hasTooFew 71 = .ok (.getfield 23, 3) := by decide +kernel
theorem d_Ma_hasTooFew_74 : decode b_Ma_hasTooFew 74 = .ok (.getfield 63, 3) := by decide +kernel
theorem d_Ma_hasTooFew_77 : decode b_Ma_hasTooFew 77 = .ok (.getstatic 75, 3) := by decide +kernel
theorem d_Ma_hasTooFew_80 : decode b_Ma_hasTooFew 80 = .ok (.iload_n 1, 1) := by decide +kernel
theorem d_Ma_hasTooFew_81 : decode b_Ma_hasTooFew 81 = .ok (.iaload, 1) := by decide +kernel
theorem d_Ma_hasTooFew_82 : decode b_Ma_hasTooFew 82 = .ok (.if_icmp .ge 7, 3) := by decide +kernel
theorem d_Ma_hasTooFew_85 : decode b_Ma_hasTooFew 85 = .ok (.iconst 1, 1) := by decide +kernel
theorem d_Ma_hasTooFew_86 : decode b_Ma_hasTooFew 86 = .ok (.goto 4, 3) := by decide +kernel
theorem d_Ma_hasTooFew_89 : decode b_Ma_hasTooFew 89 = .ok (.iconst 0, 1) := by decide +kernel
theorem d_Ma_hasTooFew_90 : decode b_Ma_hasTooFew 90 = .ok (.ireturn, 1) := by decide +kernel
theorem d_Ma_argumentPlace_0 : decode b_Ma_argumentPlace 0 = .ok (.aload_n 0, 1) := by decide +kernel
theorem d_Ma_argumentPlace_1 : decode b_Ma_argumentPlace 1 = .ok (.getfield 23, 3) := by decide +kernel
theorem d_Ma_argumentPlace_4 : decode b_Ma_argumentPlace 4 = .ok (.getfield 69, 3) := by decide +kernel
theorem d_Ma_argumentPlace_7 : decode b_Ma_argumentPlace 7 = .ok (.iconst 3, 1) := by decide +kernel
theorem d_Ma_argumentPlace_8 : decode b_Ma_argumentPlace 8 = .ok (.isub, 1) := by decide +kernel
theorem d_Ma_argumentPlace_9 : decode b_Ma_argumentPlace 9 = .ok (.iload_n 1, 1) := by decide +kernel
theorem d_Ma_argumentPlace_10 : decode b_Ma_argumentPlace 10 = .ok (.isub, 1) := by decide +kernel
theorem d_Ma_argumentPlace_11 : decode b_Ma_argumentPlace 11 = .ok (.ireturn, 1) := by decide +kernel
theorem d_Ma_fromTop_0 : decode b_Ma_fromTop 0 = .ok (.aload_n 0, 1) := by decide +kernel
theorem d_Ma_fromTop_1 : decode b_Ma_fromTop 1 = .ok (.getfield 23, 3) := by decide +kernel
theorem d_Ma_fromTop_4 : decode b_Ma_fromTop 4 = .ok (.aload_n 0, 1) := by decide +kernel
theorem d_Ma_fromTop_5 : decode b_Ma_fromTop 5 = .ok (.getfield 23, 3) := by decide +kernel
theorem d_Ma_fromTop_8 : decode b_Ma_fromTop 8 = .ok (.getfield 63, 3) := by decide +kernel
theorem d_Ma_fromTop_11 : decode b_Ma_fromTop 11 = .ok (.iconst 1, 1) := by decide +kernel
theorem d_Ma_fromTop_12 : decode b_Ma_fromTop 12 = .ok (.isub, 1) := by decide +kernel
theorem d_Ma_fromTop_13 : decode b_Ma_fromTop 13 = .ok (.iload_n 1, 1) := by decide +kernel
theorem d_Ma_fromTop_14 : decode b_Ma_fromTop 14 = .ok (.isub, 1) := by decide +kernel
theorem d_Ma_fromTop_15 : decode b_Ma_fromTop 15 = .ok (.invokevirtual 78, 3) := by decide +kernel
theorem d_Ma_fromTop_18 : decode b_Ma_fromTop 18 = .ok (.ireturn, 1) := by decide +kernel
theorem d_Ma_perform_0 : decode b_Ma_perform 0 = .ok (.aload_n 0, 1) := by decide +kernel
theorem d_Ma_perform_1 : decode b_Ma_perform 1 = .ok (.getfield 23, 3) := by decide +kernel
theorem d_Ma_perform_4 : decode b_Ma_perform 4 = .ok (.getfield 46, 3) := by decide +kernel
theorem d_Ma_perform_7 : decode b_Ma_perform 7 = .ok (.bipush 64, 2) := by decide +kernel
theorem d_Ma_perform_9 : decode b_Ma_perform 9 = .ok (.invokestatic 49, 3) := by decide +kernel
theorem d_Ma_perform_12 : decode b_Ma_perform 12 = .ok (.ifCond .ne 4, 3) := by decide +kernel
theorem d_Ma_perform_15 : decode b_Ma_perform 15 = .ok (.return_, 1) := by decide +kernel
theorem d_Ma_perform_16 : decode b_Ma_perform 16 = .ok (.aload_n 0, 1) := by decide +kernel
theorem d_Ma_perform_17 : decode b_Ma_perform 17 = .ok (.getfield 9, 3) := by decide +kernel
theorem d_Ma_perform_20 : decode b_Ma_perform 20 = .ok (.aload_n 0, 1) := by decide +kernel
theorem d_Ma_perform_21 : decode b_Ma_perform 21 = .ok (.getfield 23, 3) := by decide +kernel
theorem d_Ma_perform_24 : decode b_Ma_perform 24 = .ok (.getfield 46, 3) := by decide +kernel
theorem d_Ma_perform_27 : decode b_Ma_perform 27 = .ok (.iaload, 1) := by decide +kernel
theorem d_Ma_perform_28 : decode b_Ma_perform 28 = .ok (.bipush 31, 2) := by decide +kernel
theorem d_Ma_perform_30 : decode b_Ma_perform 30 = .ok (.iand, 1) := by decide +kernel
theorem d_Ma_perform_31 : decode b_Ma_perform 31 = .ok (.istore_n 1, 1) := by decide +kernel
theorem d_Ma_perform_32 : decode b_Ma_perform 32 = .ok (.aload_n 0, 1) := by decide +kernel
theorem d_Ma_perform_33 : decode b_Ma_perform 33 = .ok (.getfield 9, 3) := by decide +kernel
theorem d_Ma_perform_36 : decode b_Ma_perform 36 = .ok (.aload_n 0, 1) := by decide +kernel
theorem d_Ma_perform_37 : decode b_Ma_perform 37 = .ok (.getfield 23, 3) := by decide +kernel
theorem d_Ma_perform_40 : decode b_Ma_perform 40 = .ok (.getfield 46, 3) := by decide +kernel
theorem d_Ma_perform_43 : decode b_Ma_perform 43 = .ok (.iaload, 1) := by decide +kernel
theorem d_Ma_perform_44 : decode b_Ma_perform 44 = .ok (.iconst 5, 1) := by decide +kernel
theorem d_Ma_perform_45 : decode b_Ma_perform 45 = .ok (.ishr, 1) := by decide +kernel
theorem d_Ma_perform_46 : decode b_Ma_perform 46 = .ok (.istore_n 2, 1) := by decide +kernel
theorem d_Ma_perform_47 : decode b_Ma_perform 47 = .ok (.aload_n 0, 1) := by decide +kernel
theorem d_Ma_perform_48 : decode b_Ma_perform 48 = .ok (.aload_n 0, 1) := by decide +kernel
theorem d_Ma_perform_49 : decode b_Ma_perform 49 = .ok (.getfield 30, 3) := by decide +kernel
theorem d_Ma_perform_52 : decode b_Ma_perform 52 = .ok (.aload_n 0, 1) := by decide +kernel
theorem d_Ma_perform_53 : decode b_Ma_perform 53 = .ok (.getfield 23, 3) := by decide +kernel
theorem d_Ma_perform_56 : decode b_Ma_perform 56 = .ok (.invokevirtual 81, 3) := by decide +kernel
theorem d_Ma_perform_59 : decode b_Ma_perform 59 = .ok (.putfield 38, 3) := by decide +kernel
theorem d_Ma_perform_62 : decode b_Ma_perform 62 = .ok (.aload_n 0, 1) := by decide +kernel
theorem d_Ma_perform_63 : decode b_Ma_perform 63 = .ok (.getfield 23, 3) := by decide +kernel
theorem d_Ma_perform_66 : decode b_Ma_perform 66 = .ok (.dup, 1) := by decide +kernel
theorem d_Ma_perform_67 : decode b_Ma_perform 67 = .ok (.getfield 85, 3) := by decide +kernel
theorem d_Ma_perform_70 : decode b_Ma_perform 70 = .ok (.iconst 1, 1) := by decide +kernel
theorem d_Ma_perform_71 : decode b_Ma_perform 71 = .ok (.iadd, 1) := by decide +kernel
theorem d_Ma_perform_72 : decode b_Ma_perform 72 = .ok (.putfield 85, 3) := by decide +kernel
theorem d_Ma_perform_75 : decode b_Ma_perform 75 = .ok (.aload_n 0, 1) := by decide +kernel
theorem d_Ma_perform_76 : decode b_Ma_perform 76 = .ok (.getfield 23, 3) := by decide +kernel
theorem d_Ma_perform_79 : decode b_Ma_perform 79 = .ok (.dup, 1) := by decide +kernel
theorem d_Ma_perform_80 : decode b_Ma_perform 80 = .ok (.getfield 46, 3) := by decide +kernel
theorem d_Ma_perform_83 : decode b_Ma_perform 83 = .ok (.iconst 1, 1) := by decide +kernel
theorem d_Ma_perform_84 : decode b_Ma_perform 84 = .ok (.iadd, 1) := by decide +kernel
theorem d_Ma_perform_85 : decode b_Ma_perform 85 = .ok (.putfield 46, 3) := by decide +kernel
theorem d_Ma_perform_88 : decode b_Ma_perform 88 = .ok (.aload_n 0, 1) := by decide +kernel
theorem d_Ma_perform_89 : decode b_Ma_perform 89 = .ok (.getfield 23, 3) := by decide +kernel
theorem d_Ma_perform_92 : decode b_Ma_perform 92 = .ok (.iconst (-1), 1) := by decide +kernel
theorem d_Ma_perform_93 : decode b_Ma_perform 93 = .ok (.putfield 88, 3) := by decide +kernel
theorem d_Ma_perform_96 : decode b_Ma_perform 96 = .ok (.iload_n 1, 1) := by decide +kernel
theorem d_Ma_perform_97 : decode b_Ma_perform 97 = .ok (.tableswitch 289 1 20 #[95, 103, 119, 131, 138, 138, 138, 138, 138, 159, 166, 173, 184, 205, 226, 234, 241, 260, 267, 275], 95) := by decide +kernel
theorem d_Ma_perform_192 : decode b_Ma_perform 192 = .ok (.aload_n 0, 1) := by decide +kernel
theorem d_Ma_perform_193 : decode b_Ma_perform 193 = .ok (.iload_n 2, 1) := by decide +kernel
theorem d_Ma_perform_194 : decode b_Ma_perform 194 = .ok (.invokevirtual 91, 3) := by decide +kernel
theorem d_Ma_perform_197 : decode b_Ma_perform 197 = .ok (.goto 189, 3) := by decide +kernel
theorem d_Ma_perform_200 : decode b_Ma_perform 200 = .ok (.aload_n 0, 1) := by decide +kernel
theorem d_Ma_perform_201 : decode b_Ma_perform 201 = .ok (.getfield 23, 3) := by decide +kernel
theorem d_Ma_perform_204 : decode b_Ma_perform 204 = .ok (.dup, 1) := by decide +kernel
theorem d_Ma_perform_205 : decode b_Ma_perform 205 = .ok (.getfield 63, 3) := by decide +kernel
theorem d_Ma_perform_208 : decode b_Ma_perform 208 = .ok (.iconst 1, 1) := by decide +kernel
theorem d_Ma_perform_209 : decode b_Ma_perform 209 = .ok (.isub, 1) := by decide +kernel
theorem d_Ma_perform_210 : decode b_Ma_perform 210 = .ok (.putfield 63, 3) := by decide +kernel
theorem d_Ma_perform_213 : decode b_Ma_perform 213 = .ok (.goto 173, 3) := by decide +kernel
theorem d_Ma_perform_216 : decode b_Ma_perform 216 = .ok (.aload_n 0, 1) := by decide +kernel
theorem d_Ma_perform_217 : decode b_Ma_perform 217 = .ok (.aload_n 0, 1) := by decide +kernel
theorem d_Ma_perform_218 : decode b_Ma_perform 218 = .ok (.iconst 0, 1) := by decide +kernel
theorem d_Ma_perform_219 : decode b_Ma_perform 219 = .ok (.invokevirtual 56, 3) := by decide +kernel
theorem d_Ma_perform_222 : decode b_Ma_perform 222 = .ok (.invokevirtual 91, 3) := by decide +kernel
theorem d_Ma_perform_225 : decode b_Ma_perform 225 = .ok (.goto 161, 3) := by decide +kernel
theorem d_Ma_perform_228 : decode b_Ma_perform 228 = .ok (.aload_n 0, 1) := by decide +kernel
theorem d_Ma_perform_229 : decode b_Ma_perform 229 = .ok (.invokevirtual 94, 3) := by decide +kernel
theorem d_Ma_perform_232 : decode b_Ma_perform 232 = .ok (.goto 154, 3) := by decide +kernel
theorem d_Ma_perform_235 : decode b_Ma_perform 235 = .ok (.aload_n 0, 1) := by decide +kernel
theorem d_Ma_perform_236 : decode b_Ma_perform 236 = .ok (.iload_n 1, 1) := by decide +kernel
theorem d_Ma_perform_237 : decode b_Ma_perform 237 = .ok (.aload_n 0, 1) := by decide +kernel
theorem d_Ma_perform_238 : decode b_Ma_perform 238 = .ok (.iconst 1, 1) := by decide +kernel
theorem d_Ma_perform_239 : decode b_Ma_perform 239 = .ok (.invokevirtual 56, 3) := by decide +kernel
theorem d_Ma_perform_242 : decode b_Ma_perform 242 = .ok (.aload_n 0, 1) := by decide +kernel
theorem d_Ma_perform_243 : decode b_Ma_perform 243 = .ok (.iconst 0, 1) := by decide +kernel
theorem d_Ma_perform_244 : decode b_Ma_perform 244 = .ok (.invokevirtual 56, 3) := by decide +kernel
theorem d_Ma_perform_247 : decode b_Ma_perform 247 = .ok (.invokestatic 97, 3) := by decide +kernel
theorem d_Ma_perform_250 : decode b_Ma_perform 250 = .ok (.invokevirtual 101, 3) := by decide +kernel
theorem d_Ma_perform_253 : decode b_Ma_perform 253 = .ok (.goto 133, 3) := by decide +kernel
theorem d_Ma_perform_256 : decode b_Ma_perform 256 = .ok (.aload_n 0, 1) := by decide +kernel
theorem d_Ma_perform_257 : decode b_Ma_perform 257 = .ok (.invokevirtual 104, 3) := by decide +kernel
theorem d_Ma_perform_260 : decode b_Ma_perform 260 = .ok (.goto 126, 3) := by decide +kernel
theorem d_Ma_perform_263 : decode b_Ma_perform 263 = .ok (.aload_n 0, 1) := by decide +kernel
theorem d_Ma_perform_264 : decode b_Ma_perform 264 = .ok (.invokevirtual 107, 3) := by decide +kernel
theorem d_Ma_perform_267 : decode b_Ma_perform 267 = .ok (.goto 119, 3) := by decide +kernel
theorem d_Ma_perform_270 : decode b_Ma_perform 270 = .ok (.aload_n 0, 1) := by decide +kernel
theorem d_Ma_perform_271 : decode b_Ma_perform 271 = .ok (.getfield 23, 3) := by decide +kernel
theorem d_Ma_perform_274 : decode b_Ma_perform 274 = .ok (.iload_n 2, 1) := by decide +kernel
theorem d_Ma_perform_275 : decode b_Ma_perform 275 = .ok (.putfield 46, 3) := by decide +kernel
theorem d_Ma_perform_278 : decode b_Ma_perform 278 = .ok (.goto 108, 3) := by decide +kernel
theorem d_Ma_perform_281 : decode b_Ma_perform 281 = .ok (.aload_n 0, 1) := by decide +kernel
theorem d_Ma_perform_282 : decode b_Ma_perform 282 = .ok (.aload_n 0, 1) := by decide +kernel
theorem d_Ma_perform_283 : decode b_Ma_perform 283 = .ok (.iconst 0, 1) := by decide +kernel
theorem d_Ma_perform_284 : decode b_Ma_perform 284 = .ok (.invokevirtual 56, 3) := by decide +kernel
theorem d_Ma_perform_287 : decode b_Ma_perform 287 = .ok (.ifCond .ne 7, 3) := by decide +kernel
theorem d_Ma_perform_290 : decode b_Ma_perform 290 = .ok (.iconst 1, 1) := by decide +kernel
theorem d_Ma_perform_291 : decode b_Ma_perform 291 = .ok (.goto 4, 3) := by decide +kernel
theorem d_Ma_perform_294 : decode b_Ma_perform 294 = .ok (.iconst 0, 1) := by decide +kernel
theorem d_Ma_perform_295 : decode b_Ma_perform 295 = .ok (.iload_n 2, 1) := by decide +kernel
theorem d_Ma_perform_296 : decode b_Ma_perform 296 = .ok (.invokevirtual 110, 3) := by decide +kernel
theorem d_Ma_perform_299 : decode b_Ma_perform 299 = .ok (.goto 87, 3) := by decide +kernel
theorem d_Ma_perform_302 : decode b_Ma_perform 302 = .ok (.aload_n 0, 1) := by decide +kernel
theorem d_Ma_perform_303 : decode b_Ma_perform 303 = .ok (.aload_n 0, 1) := by decide +kernel
theorem d_Ma_perform_304 : decode b_Ma_perform 304 = .ok (.iconst 0, 1) := by decide +kernel
theorem d_Ma_perform_305 : decode b_Ma_perform 305 = .ok (.invokevirtual 56, 3) := by decide +kernel
theorem d_Ma_perform_308 : decode b_Ma_perform 308 = .ok (.ifCond .ge 7, 3) := by decide +kernel
theorem d_Ma_perform_311 : decode b_Ma_perform 311 = .ok (.iconst 1, 1) := by decide +kernel
theorem d_Ma_perform_312 : decode b_Ma_perform 312 = .ok (.goto 4, 3) := by decide +kernel
theorem d_Ma_perform_315 : decode b_Ma_perform 315 = .ok (.iconst 0, 1) := by decide +kernel
theorem d_Ma_perform_316 : decode b_Ma_perform 316 = .ok (.iload_n 2, 1) := by decide +kernel
theorem d_Ma_perform_317 : decode b_Ma_perform 317 = .ok (.invokevirtual 110, 3) := by decide +kernel
theorem d_Ma_perform_320 : decode b_Ma_perform 320 = .ok (.goto 66, 3) := by decide +kernel
theorem d_Ma_perform_323 : decode b_Ma_perform 323 = .ok (.aload_n 0, 1) := by decide +kernel
theorem d_Ma_perform_324 : decode b_Ma_perform 324 = .ok (.iload_n 2, 1) := by decide +kernel
theorem d_Ma_perform_325 : decode b_Ma_perform 325 = .ok (.invokevirtual 114, 3) := by decide +kernel
theorem d_Ma_perform_328 : decode b_Ma_perform 328 = .ok (.goto 58, 3) := by decide +kernel
theorem d_Ma_perform_331 : decode b_Ma_perform 331 = .ok (.aload_n 0, 1) := by decide +kernel
theorem d_Ma_perform_332 : decode b_Ma_perform 332 = .ok (.invokevirtual 117, 3) := by decide +kernel
theorem d_Ma_perform_335 : decode b_Ma_perform 335 = .ok (.goto 51, 3) := by decide +kernel
theorem d_Ma_perform_338 : decode b_Ma_perform 338 = .ok (.aload_n 0, 1) := by decide +kernel
theorem d_Ma_perform_339 : decode b_Ma_perform 339 = .ok (.aload_n 0, 1) := by decide +kernel
theorem d_Ma_perform_340 : decode b_Ma_perform 340 = .ok (.getfield 23, 3) := by decide +kernel
theorem d_Ma_perform_343 : decode b_Ma_perform 343 = .ok (.aload_n 0, 1) := by decide +kernel
theorem d_Ma_perform_344 : decode b_Ma_perform 344 = .ok (.iload_n 2, 1) := by decide +kernel
theorem d_Ma_perform_345 : decode b_Ma_perform 345 = .ok (.invokevirtual 72, 3) := by decide +kernel
theorem d_Ma_perform_348 : decode b_Ma_perform 348 = .ok (.invokevirtual 78, 3) := by decide +kernel
theorem d_Ma_perform_351 : decode b_Ma_perform 351 = .ok (.invokevirtual 91, 3) := by decide +kernel
theorem d_Ma_perform_354 : decode b_Ma_perform 354 = .ok (.goto 32, 3) := by decide +kernel
theorem d_Ma_perform_357 : decode b_Ma_perform 357 = .ok (.aload_n 0, 1) := by decide +kernel
theorem d_Ma_perform_358 : decode b_Ma_perform 358 = .ok (.invokevirtual 120, 3) := by decide +kernel
theorem d_Ma_perform_361 : decode b_Ma_perform 361 = .ok (.goto 25, 3) := by decide +kernel
theorem d_Ma_perform_364 : decode b_Ma_perform 364 = .ok (.aload_n 0, 1) := by decide +kernel
theorem d_Ma_perform_365 : decode b_Ma_perform 365 = .ok (.iload_n 2, 1) := by decide +kernel
theorem d_Ma_perform_366 : decode b_Ma_perform 366 = .ok (.invokevirtual 123, 3) := by decide +kernel
theorem d_Ma_perform_369 : decode b_Ma_perform 369 = .ok (.goto 17, 3) := by decide +kernel
theorem d_Ma_perform_372 : decode b_Ma_perform 372 = .ok (.aload_n 0, 1) := by decide +kernel
theorem d_Ma_perform_373 : decode b_Ma_perform 373 = .ok (.aload_n 0, 1) := by decide +kernel
theorem d_Ma_perform_374 : decode b_Ma_perform 374 = .ok (.getfield 23, 3) := by decide +kernel
theorem d_Ma_perform_377 : decode b_Ma_perform 377 = .ok (.getfield 69, 3) := by decide +kernel
theorem d_Ma_perform_380 : decode b_Ma_perform 380 = .ok (.invokevirtual 91, 3) := by decide +kernel
theorem d_Ma_perform_383 : decode b_Ma_perform 383 = .ok (.goto 3, 3) := by decide +kernel
theorem d_Ma_perform_386 : decode b_Ma_perform 386 = .ok (.return_, 1) := by decide +kernel
theorem d_Ma_put_0 : decode b_Ma_put 0 = .ok (.iload_n 1, 1) := by decide +kernel
theorem d_Ma_put_1 : decode b_Ma_put 1 = .ok (.bipush 56, 2) := by decide +kernel
theorem d_Ma_put_3 : decode b_Ma_put 3 = .ok (.invokestatic 49, 3) := by decide +kernel
theorem d_Ma_put_6 : decode b_Ma_put 6 = .ok (.ifCond .eq 30, 3) := by decide +kernel
theorem d_Ma_put_9 : decode b_Ma_put 9 = .ok (.aload_n 0, 1) := by decide +kernel
theorem d_Ma_put_10 : decode b_Ma_put 10 = .ok (.getfield 38, 3) := by decide +kernel
theorem d_Ma_put_13 : decode b_Ma_put 13 = .ok (.iload_n 1, 1) := by decide +kernel
theorem d_Ma_put_14 : decode b_Ma_put 14 = .ok (.aload_n 0, 1) := by decide +kernel
theorem d_Ma_put_15 : decode b_Ma_put 15 = .ok (.getfield 23, 3) := by decide +kernel
theorem d_Ma_put_18 : decode b_Ma_put 18 = .ok (.getfield 126, 3) := by decide +kernel
theorem d_Ma_put_21 : decode b_Ma_put 21 = .ok (.iload_n 1, 1) := by decide +kernel
theorem d_Ma_put_22 : decode b_Ma_put 22 = .ok (.iaload, 1) := by decide +kernel
theorem d_Ma_put_23 : decode b_Ma_put 23 = .ok (.invokevirtual 129, 3) := by decide +kernel
theorem d_Ma_put_26 : decode b_Ma_put 26 = .ok (.aload_n 0, 1) := by decide +kernel
theorem d_Ma_put_27 : decode b_Ma_put 27 = .ok (.getfield 23, 3) := by decide +kernel
theorem d_Ma_put_30 : decode b_Ma_put 30 = .ok (.getfield 126, 3) := by decide +kernel
theorem d_Ma_put_33 : decode b_Ma_put 33 = .ok (.iload_n 1, 1) := by decide +kernel
theorem d_Ma_put_34 : decode b_Ma_put 34 = .ok (.iload_n 2, 1) := by decide +kernel
theorem d_Ma_put_35 : decode b_Ma_put 35 = .ok (.iastore, 1) := by decide +kernel
theorem d_Ma_put_36 : decode b_Ma_put 36 = .ok (.return_, 1) := by decide +kernel
theorem d_Ma_push_0 : decode b_Ma_push 0 = .ok (.aload_n 0, 1) := by decide +kernel
theorem d_Ma_push_1 : decode b_Ma_push 1 = .ok (.bipush 32, 2) := by decide +kernel
theorem d_Ma_push_3 : decode b_Ma_push 3 = .ok (.aload_n 0, 1) := by decide +kernel
theorem d_Ma_push_4 : decode b_Ma_push 4 = .ok (.getfield 23, 3) := by decide +kernel
theorem d_Ma_push_7 : decode b_Ma_push 7 = .ok (.getfield 63, 3) := by decide +kernel
theorem d_Ma_push_10 : decode b_Ma_push 10 = .ok (.iadd, 1) := by decide +kernel
theorem d_Ma_push_11 : decode b_Ma_push 11 = .ok (.iload_n 1, 1) := by decide +kernel
theorem d_Ma_push_12 : decode b_Ma_push 12 = .ok (.invokevirtual 135, 3) := by decide +kernel
theorem d_Ma_push_15 : decode b_Ma_push 15 = .ok (.aload_n 0, 1) := by decide +kernel
theorem d_Ma_push_16 : decode b_Ma_push 16 = .ok (.getfield 23, 3) := by decide +kernel
theorem d_Ma_push_19 : decode b_Ma_push 19 = .ok (.dup, 1) := by decide +kernel
theorem d_Ma_push_20 : decode b_Ma_push 20 = .ok (.getfield 63, 3) := by decide +kernel
theorem d_Ma_push_23 : decode b_Ma_push 23 = .ok (.iconst 1, 1) := by decide +kernel
theorem d_Ma_push_24 : decode b_Ma_push 24 = .ok (.iadd, 1) := by decide +kernel
theorem d_Ma_push_25 : decode b_Ma_push 25 = .ok (.putfield 63, 3) := by decide +kernel
theorem d_Ma_push_28 : decode b_Ma_push 28 = .ok (.return_, 1) := by decide +kernel
theorem d_Ma_replaceTwo_0 : decode b_Ma_replaceTwo 0 = .ok (.aload_n 0, 1) := by decide +kernel
theorem d_Ma_replaceTwo_1 : decode b_Ma_replaceTwo 1 = .ok (.getfield 23, 3) := by decide +kernel
theorem d_Ma_replaceTwo_4 : decode b_Ma_replaceTwo 4 = .ok (.dup, 1) := by decide +kernel
theorem d_Ma_replaceTwo_5 : decode b_Ma_replaceTwo 5 = .ok (.getfield 63, 3) := by decide +kernel
theorem d_Ma_replaceTwo_8 : decode b_Ma_replaceTwo 8 = .ok (.iconst 2, 1) := by decide +kernel
theorem d_Ma_replaceTwo_9 : decode b_Ma_replaceTwo 9 = .ok (.isub, 1) := by decide +kernel
theorem d_Ma_replaceTwo_10 : decode b_Ma_replaceTwo 10 = .ok (.putfield 63, 3) := by decide +kernel
theorem d_Ma_replaceTwo_13 : decode b_Ma_replaceTwo 13 = .ok (.aload_n 0, 1) := by decide +kernel
theorem d_Ma_replaceTwo_14 : decode b_Ma_replaceTwo 14 = .ok (.iload_n 1, 1) := by decide +kernel
theorem d_Ma_replaceTwo_15 : decode b_Ma_replaceTwo 15 = .ok (.invokevirtual 91, 3) := by decide +kernel
theorem d_Ma_replaceTwo_18 : decode b_Ma_replaceTwo 18 = .ok (.return_, 1) := by decide +kernel
theorem d_Ma_exchange_0 : decode b_Ma_exchange 0 = .ok (.aload_n 0, 1) := by decide +kernel
theorem d_Ma_exchange_1 : decode b_Ma_exchange 1 = .ok (.iconst 1, 1) := by decide +kernel
theorem d_Ma_exchange_2 : decode b_Ma_exchange 2 = .ok (.invokevirtual 56, 3) := by decide +kernel
theorem d_Ma_exchange_5 : decode b_Ma_exchange 5 = .ok (.istore_n 1, 1) := by decide +kernel
theorem d_Ma_exchange_6 : decode b_Ma_exchange 6 = .ok (.aload_n 0, 1) := by decide +kernel
theorem d_Ma_exchange_7 : decode b_Ma_exchange 7 = .ok (.iconst 0, 1) := by decide +kernel
theorem d_Ma_exchange_8 : decode b_Ma_exchange 8 = .ok (.invokevirtual 56, 3) := by decide +kernel
theorem d_Ma_exchange_11 : decode b_Ma_exchange 11 = .ok (.istore_n 2, 1) := by decide +kernel
theorem d_Ma_exchange_12 : decode b_Ma_exchange 12 = .ok (.aload_n 0, 1) := by decide +kernel
theorem d_Ma_exchange_13 : decode b_Ma_exchange 13 = .ok (.bipush 32, 2) := by decide +kernel
theorem d_Ma_exchange_15 : decode b_Ma_exchange 15 = .ok (.aload_n 0, 1) := by decide +kernel
theorem d_Ma_exchange_16 : decode b_Ma_exchange 16 = .ok (.getfield 23, 3) := by decide +kernel
theorem d_Ma_exchange_19 : decode b_Ma_exchange 19 = .ok (.getfield 63, 3) := by decide +kernel
theorem d_Ma_exchange_22 : decode b_Ma_exchange 22 = .ok (.iadd, 1) := by decide +kernel
theorem d_Ma_exchange_23 : decode b_Ma_exchange 23 = .ok (.iconst 2, 1) := by decide +kernel
theorem d_Ma_exchange_24 : decode b_Ma_exchange 24 = .ok (.isub, 1) := by decide +kernel
theorem d_Ma_exchange_25 : decode b_Ma_exchange 25 = .ok (.iload_n 2, 1) := by decide +kernel
theorem d_Ma_exchange_26 : decode b_Ma_exchange 26 = .ok (.invokevirtual 135, 3) := by decide +kernel
theorem d_Ma_exchange_29 : decode b_Ma_exchange 29 = .ok (.aload_n 0, 1) := by decide +kernel
theorem d_Ma_exchange_30 : decode b_Ma_exchange 30 = .ok (.bipush 32, 2) := by decide +kernel
theorem d_Ma_exchange_32 : decode b_Ma_exchange 32 = .ok (.aload_n 0, 1) := by decide +kernel
theorem d_Ma_exchange_33 : decode b_Ma_exchange 33 = .ok (.getfield 23, 3) := by decide +kernel
theorem d_Ma_exchange_36 : decode b_Ma_exchange 36 = .ok (.getfield 63, 3) := by decide +kernel
theorem d_Ma_exchange_39 : decode b_Ma_exchange 39 = .ok (.iadd, 1) := by decide +kernel
theorem d_Ma_exchange_40 : decode b_Ma_exchange 40 = .ok (.iconst 1, 1) := by decide +kernel
theorem d_Ma_exchange_41 : decode b_Ma_exchange 41 = .ok (.isub, 1) := by decide +kernel
theorem d_Ma_exchange_42 : decode b_Ma_exchange 42 = .ok (.iload_n 1, 1) := by decide +kernel
theorem d_Ma_exchange_43 : decode b_Ma_exchange 43 = .ok (.invokevirtual 135, 3) := by decide +kernel
theorem d_Ma_exchange_46 : decode b_Ma_exchange 46 = .ok (.return_, 1) := by decide +kernel
theorem d_Ma_result_0 : decode b_Ma_result 0 = .ok (.iload_n 0, 1) := by decide +kernel
theorem d_Ma_result_1 : decode b_Ma_result 1 = .ok (.tableswitch 55 5 8 #[31, 35, 39, 43], 31) := by decide +kernel
theorem d_Ma_result_32 : decode b_Ma_result 32 = .ok (.iload_n 1, 1) := by decide +kernel
theorem d_Ma_result_33 : decode b_Ma_result 33 = .ok (.iload_n 2, 1) := by decide +kernel
theorem d_Ma_result_34 : decode b_Ma_result 34 = .ok (.iadd, 1) := by decide +kernel
theorem d_Ma_result_35 : decode b_Ma_result 35 = .ok (.ireturn, 1) := by decide +kernel
theorem d_Ma_result_36 : decode b_Ma_result 36 = .ok (.iload_n 1, 1) := by decide +kernel
theorem d_Ma_result_37 : decode b_Ma_result 37 = .ok (.iload_n 2, 1) := by decide +kernel
theorem d_Ma_result_38 : decode b_Ma_result 38 = .ok (.isub, 1) := by decide +kernel
theorem d_Ma_result_39 : decode b_Ma_result 39 = .ok (.ireturn, 1) := by decide +kernel
theorem d_Ma_result_40 : decode b_Ma_result 40 = .ok (.iload_n 1, 1) := by decide +kernel
theorem d_Ma_result_41 : decode b_Ma_result 41 = .ok (.iload_n 2, 1) := by decide +kernel
theorem d_Ma_result_42 : decode b_Ma_result 42 = .ok (.imul, 1) := by decide +kernel
theorem d_Ma_result_43 : decode b_Ma_result 43 = .ok (.ireturn, 1) := by decide +kernel
theorem d_Ma_result_44 : decode b_Ma_result 44 = .ok (.iload_n 2, 1) := by decide +kernel
theorem d_Ma_result_45 : decode b_Ma_result 45 = .ok (.ifCond .ne 7, 3) := by decide +kernel
theorem d_Ma_result_48 : decode b_Ma_result 48 = .ok (.iconst 0, 1) := by decide +kernel
theorem d_Ma_result_49 : decode b_Ma_result 49 = .ok (.goto 6, 3) := by decide +kernel
theorem d_Ma_result_52 : decode b_Ma_result 52 = .ok (.iload_n 1, 1) := by decide +kernel
theorem d_Ma_result_53 : decode b_Ma_result 53 = .ok (.iload_n 2, 1) := by decide +kernel
theorem d_Ma_result_54 : decode b_Ma_result 54 = .ok (.idiv, 1) := by decide +kernel
theorem d_Ma_result_55 : decode b_Ma_result 55 = .ok (.ireturn, 1) := by decide +kernel
theorem d_Ma_result_56 : decode b_Ma_result 56 = .ok (.iload_n 1, 1) := by decide +kernel
theorem d_Ma_result_57 : decode b_Ma_result 57 = .ok (.iload_n 2, 1) := by decide +kernel
theorem d_Ma_result_58 : decode b_Ma_result 58 = .ok (.if_icmp .ge 7, 3) := by decide +kernel
theorem d_Ma_result_61 : decode b_Ma_result 61 = .ok (.iconst 1, 1) := by decide +kernel
theorem d_Ma_result_62 : decode b_Ma_result 62 = .ok (.goto 4, 3) := by decide +kernel
theorem d_Ma_result_65 : decode b_Ma_result 65 = .ok (.iconst 0, 1) := by decide +kernel
theorem d_Ma_result_66 : decode b_Ma_result 66 = .ok (.ireturn, 1) := by decide +kernel
theorem d_Ma_load_0 : decode b_Ma_load 0 = .ok (.aload_n 0, 1) := by decide +kernel
theorem d_Ma_load_1 : decode b_Ma_load 1 = .ok (.iconst 0, 1) := by decide +kernel
theorem d_Ma_load_2 : decode b_Ma_load 2 = .ok (.invokevirtual 56, 3) := by decide +kernel
theorem d_Ma_load_5 : decode b_Ma_load 5 = .ok (.istore_n 1, 1) := by decide +kernel
theorem d_Ma_load_6 : decode b_Ma_load 6 = .ok (.iload_n 1, 1) := by decide +kernel
theorem d_Ma_load_7 : decode b_Ma_load 7 = .ok (.bipush 32, 2) := by decide +kernel
theorem d_Ma_load_9 : decode b_Ma_load 9 = .ok (.invokestatic 49, 3) := by decide +kernel
theorem d_Ma_load_12 : decode b_Ma_load 12 = .ok (.ifCond .eq 29, 3) := by decide +kernel
theorem d_Ma_load_15 : decode b_Ma_load 15 = .ok (.aload_n 0, 1) := by decide +kernel
theorem d_Ma_load_16 : decode b_Ma_load 16 = .ok (.getfield 23, 3) := by decide +kernel
theorem d_Ma_load_19 : decode b_Ma_load 19 = .ok (.dup, 1) := by decide +kernel
theorem d_Ma_load_20 : decode b_Ma_load 20 = .ok (.getfield 63, 3) := by decide +kernel
theorem d_Ma_load_23 : decode b_Ma_load 23 = .ok (.iconst 1, 1) := by decide +kernel
theorem d_Ma_load_24 : decode b_Ma_load 24 = .ok (.isub, 1) := by decide +kernel
theorem d_Ma_load_25 : decode b_Ma_load 25 = .ok (.putfield 63, 3) := by decide +kernel
theorem d_Ma_load_28 : decode b_Ma_load 28 = .ok (.aload_n 0, 1) := by decide +kernel
theorem d_Ma_load_29 : decode b_Ma_load 29 = .ok (.aload_n 0, 1) := by decide +kernel
theorem d_Ma_load_30 : decode b_Ma_load 30 = .ok (.getfield 23, 3) := by decide +kernel
theorem d_Ma_load_33 : decode b_Ma_load 33 = .ok (.getfield 126, 3) := by decide +kernel
theorem d_Ma_load_36 : decode b_Ma_load 36 = .ok (.iload_n 1, 1) := by decide +kernel
theorem d_Ma_load_37 : decode b_Ma_load 37 = .ok (.iaload, 1) := by decide +kernel
theorem d_Ma_load_38 : decode b_Ma_load 38 = .ok (.invokevirtual 91, 3) := by decide +kernel
theorem d_Ma_load_41 : decode b_Ma_load 41 = .ok (.return_, 1) := by decide +kernel
theorem d_Ma_store_0 : decode b_Ma_store 0 = .ok (.aload_n 0, 1) := by decide +kernel
theorem d_Ma_store_1 : decode b_Ma_store 1 = .ok (.iconst 0, 1) := by decide +kernel
theorem d_Ma_store_2 : decode b_Ma_store 2 = .ok (.invokevirtual 56, 3) := by decide +kernel
theorem d_Ma_store_5 : decode b_Ma_store 5 = .ok (.istore_n 1, 1) := by decide +kernel
theorem d_Ma_store_6 : decode b_Ma_store 6 = .ok (.aload_n 0, 1) := by decide +kernel
theorem d_Ma_store_7 : decode b_Ma_store 7 = .ok (.iconst 1, 1) := by decide +kernel
theorem d_Ma_store_8 : decode b_Ma_store 8 = .ok (.invokevirtual 56, 3) := by decide +kernel
theorem d_Ma_store_11 : decode b_Ma_store 11 = .ok (.istore_n 2, 1) := by decide +kernel
theorem d_Ma_store_12 : decode b_Ma_store 12 = .ok (.iload_n 1, 1) := by decide +kernel
theorem d_Ma_store_13 : decode b_Ma_store 13 = .ok (.bipush 32, 2) := by decide +kernel
theorem d_Ma_store_15 : decode b_Ma_store 15 = .ok (.invokestatic 49, 3) := by decide +kernel
theorem d_Ma_store_18 : decode b_Ma_store 18 = .ok (.ifCond .eq 47, 3) := by decide +kernel
theorem d_Ma_store_21 : decode b_Ma_store 21 = .ok (.aload_n 0, 1) := by decide +kernel
theorem d_Ma_store_22 : decode b_Ma_store 22 = .ok (.getfield 23, 3) := by decide +kernel
theorem d_Ma_store_25 : decode b_Ma_store 25 = .ok (.aload_n 0, 1) := by decide +kernel
theorem d_Ma_store_26 : decode b_Ma_store 26 = .ok (.getfield 23, 3) := by decide +kernel
theorem d_Ma_store_29 : decode b_Ma_store 29 = .ok (.getfield 126, 3) := by decide +kernel
theorem d_Ma_store_32 : decode b_Ma_store 32 = .ok (.iload_n 1, 1) := by decide +kernel
theorem d_Ma_store_33 : decode b_Ma_store 33 = .ok (.iaload, 1) := by decide +kernel
theorem d_Ma_store_34 : decode b_Ma_store 34 = .ok (.iload_n 2, 1) := by decide +kernel
theorem d_Ma_store_35 : decode b_Ma_store 35 = .ok (.if_icmp .ne 7, 3) := by decide +kernel
theorem d_Ma_store_38 : decode b_Ma_store 38 = .ok (.iconst (-1), 1) := by decide +kernel
theorem d_Ma_store_39 : decode b_Ma_store 39 = .ok (.goto 4, 3) := by decide +kernel
theorem d_Ma_store_42 : decode b_Ma_store 42 = .ok (.iload_n 1, 1) := by decide +kernel
theorem d_Ma_store_43 : decode b_Ma_store 43 = .ok (.putfield 88, 3) := by decide +kernel
theorem d_Ma_store_46 : decode b_Ma_store 46 = .ok (.aload_n 0, 1) := by decide +kernel
theorem d_Ma_store_47 : decode b_Ma_store 47 = .ok (.iload_n 1, 1) := by decide +kernel
theorem d_Ma_store_48 : decode b_Ma_store 48 = .ok (.iload_n 2, 1) := by decide +kernel
theorem d_Ma_store_49 : decode b_Ma_store 49 = .ok (.invokevirtual 135, 3) := by decide +kernel
theorem d_Ma_store_52 : decode b_Ma_store 52 = .ok (.aload_n 0, 1) := by decide +kernel
theorem d_Ma_store_53 : decode b_Ma_store 53 = .ok (.getfield 23, 3) := by decide +kernel
theorem d_Ma_store_56 : decode b_Ma_store 56 = .ok (.dup, 1) := by decide +kernel
theorem d_Ma_store_57 : decode b_Ma_store 57 = .ok (.getfield 63, 3) := by decide +kernel
theorem d_Ma_store_60 : decode b_Ma_store 60 = .ok (.iconst 2, 1) := by decide +kernel
theorem d_Ma_store_61 : decode b_Ma_store 61 = .ok (.isub, 1) := by decide +kernel
theorem d_Ma_store_62 : decode b_Ma_store 62 = .ok (.putfield 63, 3) := by decide +kernel
theorem d_Ma_store_65 : decode b_Ma_store 65 = .ok (.return_, 1) := by decide +kernel
theorem d_Ma_jumpIf_0 : decode b_Ma_jumpIf 0 = .ok (.aload_n 0, 1) := by decide +kernel
theorem d_Ma_jumpIf_1 : decode b_Ma_jumpIf 1 = .ok (.getfield 23, 3) := by decide +kernel
theorem d_Ma_jumpIf_4 : decode b_Ma_jumpIf 4 = .ok (.dup, 1) := by decide +kernel
theorem d_Ma_jumpIf_5 : decode b_Ma_jumpIf 5 = .ok (.getfield 63, 3) := by decide +kernel
theorem d_Ma_jumpIf_8 : decode b_Ma_jumpIf 8 = .ok (.iconst 1, 1) := by decide +kernel
theorem d_Ma_jumpIf_9 : decode b_Ma_jumpIf 9 = .ok (.isub, 1) := by decide +kernel
theorem d_Ma_jumpIf_10 : decode b_Ma_jumpIf 10 = .ok (.putfield 63, 3) := by decide +kernel
theorem d_Ma_jumpIf_13 : decode b_Ma_jumpIf 13 = .ok (.iload_n 1, 1) := by decide +kernel
theorem d_Ma_jumpIf_14 : decode b_Ma_jumpIf 14 = .ok (.ifCond .eq 11, 3) := by decide +kernel
theorem d_Ma_jumpIf_17 : decode b_Ma_jumpIf 17 = .ok (.aload_n 0, 1) := by decide +kernel
theorem d_Ma_jumpIf_18 : decode b_Ma_jumpIf 18 = .ok (.getfield 23, 3) := by decide +kernel
theorem d_Ma_jumpIf_21 : decode b_Ma_jumpIf 21 = .ok (.iload_n 2, 1) := by decide +kernel
theorem d_Ma_jumpIf_22 : decode b_Ma_jumpIf 22 = .ok (.putfield 46, 3) := by decide +kernel
theorem d_Ma_jumpIf_25 : decode b_Ma_jumpIf 25 = .ok (.return_, 1) := by decide +kernel
theorem d_Ma_enter_0 : decode b_Ma_enter 0 = .ok (.aload_n 0, 1) := by decide +kernel
theorem d_Ma_enter_1 : decode b_Ma_enter 1 = .ok (.aload_n 0, 1) := by decide +kernel
theorem d_Ma_enter_2 : decode b_Ma_enter 2 = .ok (.getfield 23, 3) := by decide +kernel
theorem d_Ma_enter_5 : decode b_Ma_enter 5 = .ok (.getfield 46, 3) := by decide +kernel
theorem d_Ma_enter_8 : decode b_Ma_enter 8 = .ok (.invokevirtual 91, 3) := by decide +kernel
theorem d_Ma_enter_11 : decode b_Ma_enter 11 = .ok (.aload_n 0, 1) := by decide +kernel
theorem d_Ma_enter_12 : decode b_Ma_enter 12 = .ok (.aload_n 0, 1) := by decide +kernel
theorem d_Ma_enter_13 : decode b_Ma_enter 13 = .ok (.getfield 23, 3) := by decide +kernel
theorem d_Ma_enter_16 : decode b_Ma_enter 16 = .ok (.getfield 69, 3) := by decide +kernel
theorem d_Ma_enter_19 : decode b_Ma_enter 19 = .ok (.invokevirtual 91, 3) := by decide +kernel
theorem d_Ma_enter_22 : decode b_Ma_enter 22 = .ok (.aload_n 0, 1) := by decide +kernel
theorem d_Ma_enter_23 : decode b_Ma_enter 23 = .ok (.getfield 23, 3) := by decide +kernel
theorem d_Ma_enter_26 : decode b_Ma_enter 26 = .ok (.aload_n 0, 1) := by decide +kernel
theorem d_Ma_enter_27 : decode b_Ma_enter 27 = .ok (.getfield 23, 3) := by decide +kernel
theorem d_Ma_enter_30 : decode b_Ma_enter 30 = .ok (.getfield 63, 3) := by decide +kernel
theorem d_Ma_enter_33 : decode b_Ma_enter 33 = .ok (.putfield 69, 3) := by decide +kernel
theorem d_Ma_enter_36 : decode b_Ma_enter 36 = .ok (.aload_n 0, 1) := by decide +kernel
theorem d_Ma_enter_37 : decode b_Ma_enter 37 = .ok (.getfield 23, 3) := by decide +kernel
theorem d_Ma_enter_40 : decode b_Ma_enter 40 = .ok (.iload_n 1, 1) := by decide +kernel
theorem d_Ma_enter_41 : decode b_Ma_enter 41 = .ok (.putfield 46, 3) := by decide +kernel
theorem d_Ma_enter_44 : decode b_Ma_enter 44 = .ok (.return_, 1) := by decide +kernel
theorem d_Ma_leave_0 : decode b_Ma_leave 0 = .ok (.aload_n 0, 1) := by decide +kernel
theorem d_Ma_leave_1 : decode b_Ma_leave 1 = .ok (.iconst 0, 1) := by decide +kernel
theorem d_Ma_leave_2 : decode b_Ma_leave 2 = .ok (.invokevirtual 56, 3) := by decide +kernel
theorem d_Ma_leave_5 : decode b_Ma_leave 5 = .ok (.istore_n 1, 1) := by decide +kernel
theorem d_Ma_leave_6 : decode b_Ma_leave 6 = .ok (.aload_n 0, 1) := by decide +kernel
theorem d_Ma_leave_7 : decode b_Ma_leave 7 = .ok (.getfield 23, 3) := by decide +kernel
theorem d_Ma_leave_10 : decode b_Ma_leave 10 = .ok (.aload_n 0, 1) := by decide +kernel
theorem d_Ma_leave_11 : decode b_Ma_leave 11 = .ok (.getfield 23, 3) := by decide +kernel
theorem d_Ma_leave_14 : decode b_Ma_leave 14 = .ok (.getfield 69, 3) := by decide +kernel
theorem d_Ma_leave_17 : decode b_Ma_leave 17 = .ok (.iconst 2, 1) := by decide +kernel
theorem d_Ma_leave_18 : decode b_Ma_leave 18 = .ok (.isub, 1) := by decide +kernel
theorem d_Ma_leave_19 : decode b_Ma_leave 19 = .ok (.putfield 63, 3) := by decide +kernel
theorem d_Ma_leave_22 : decode b_Ma_leave 22 = .ok (.aload_n 0, 1) := by decide +kernel
theorem d_Ma_leave_23 : decode b_Ma_leave 23 = .ok (.getfield 23, 3) := by decide +kernel
theorem d_Ma_leave_26 : decode b_Ma_leave 26 = .ok (.aload_n 0, 1) := by decide +kernel
theorem d_Ma_leave_27 : decode b_Ma_leave 27 = .ok (.getfield 23, 3) := by decide +kernel
theorem d_Ma_leave_30 : decode b_Ma_leave 30 = .ok (.aload_n 0, 1) := by decide +kernel
theorem d_Ma_leave_31 : decode b_Ma_leave 31 = .ok (.getfield 23, 3) := by decide +kernel
theorem d_Ma_leave_34 : decode b_Ma_leave 34 = .ok (.getfield 63, 3) := by decide +kernel
theorem d_Ma_leave_37 : decode b_Ma_leave 37 = .ok (.invokevirtual 78, 3) := by decide +kernel
theorem d_Ma_leave_40 : decode b_Ma_leave 40 = .ok (.putfield 46, 3) := by decide +kernel
theorem d_Ma_leave_43 : decode b_Ma_leave 43 = .ok (.aload_n 0, 1) := by decide +kernel
theorem d_Ma_leave_44 : decode b_Ma_leave 44 = .ok (.getfield 23, 3) := by decide +kernel
theorem d_Ma_leave_47 : decode b_Ma_leave 47 = .ok (.aload_n 0, 1) := by decide +kernel
theorem d_Ma_leave_48 : decode b_Ma_leave 48 = .ok (.getfield 23, 3) := by decide +kernel
theorem d_Ma_leave_51 : decode b_Ma_leave 51 = .ok (.aload_n 0, 1) := by decide +kernel
theorem d_Ma_leave_52 : decode b_Ma_leave 52 = .ok (.getfield 23, 3) := by decide +kernel
theorem d_Ma_leave_55 : decode b_Ma_leave 55 = .ok (.getfield 63, 3) := by decide +kernel
theorem d_Ma_leave_58 : decode b_Ma_leave 58 = .ok (.iconst 1, 1) := by decide +kernel
theorem d_Ma_leave_59 : decode b_Ma_leave 59 = .ok (.iadd, 1) := by decide +kernel
theorem d_Ma_leave_60 : decode b_Ma_leave 60 = .ok (.invokevirtual 78, 3) := by decide +kernel
theorem d_Ma_leave_63 : decode b_Ma_leave 63 = .ok (.putfield 69, 3) := by decide +kernel
theorem d_Ma_leave_66 : decode b_Ma_leave 66 = .ok (.aload_n 0, 1) := by decide +kernel
theorem d_Ma_leave_67 : decode b_Ma_leave 67 = .ok (.iload_n 1, 1) := by decide +kernel
theorem d_Ma_leave_68 : decode b_Ma_leave 68 = .ok (.invokevirtual 91, 3) := by decide +kernel
theorem d_Ma_leave_71 : decode b_Ma_leave 71 = .ok (.return_, 1) := by decide +kernel
theorem d_Ma_takeInput_0 : decode b_Ma_takeInput 0 = .ok (.aload_n 0, 1) := by decide +kernel
theorem d_Ma_takeInput_1 : decode b_Ma_takeInput 1 = .ok (.getfield 23, 3) := by decide +kernel
theorem d_Ma_takeInput_4 : decode b_Ma_takeInput 4 = .ok (.getfield 60, 3) := by decide +kernel
theorem d_Ma_takeInput_7 : decode b_Ma_takeInput 7 = .ok (.aload_n 0, 1) := by decide +kernel
theorem d_Ma_takeInput_8 : decode b_Ma_takeInput 8 = .ok (.getfield 42, 3) := by decide +kernel
theorem d_Ma_takeInput_11 : decode b_Ma_takeInput 11 = .ok (.invokestatic 49, 3) := by decide +kernel
theorem d_Ma_takeInput_14 : decode b_Ma_takeInput 14 = .ok (.ifCond .eq 32, 3) := by decide +kernel
theorem d_Ma_takeInput_17 : decode b_Ma_takeInput 17 = .ok (.aload_n 0, 1) := by decide +kernel
theorem d_Ma_takeInput_18 : decode b_Ma_takeInput 18 = .ok (.aload_n 0, 1) := by decide +kernel
theorem d_Ma_takeInput_19 : decode b_Ma_takeInput 19 = .ok (.getfield 15, 3) := by decide +kernel
theorem d_Ma_takeInput_22 : decode b_Ma_takeInput 22 = .ok (.aload_n 0, 1) := by decide +kernel
theorem d_Ma_takeInput_23 : decode b_Ma_takeInput 23 = .ok (.getfield 23, 3) := by decide +kernel
theorem d_Ma_takeInput_26 : decode b_Ma_takeInput 26 = .ok (.getfield 60, 3) := by decide +kernel
theorem d_Ma_takeInput_29 : decode b_Ma_takeInput 29 = .ok (.iaload, 1) := by decide +kernel
theorem d_Ma_takeInput_30 : decode b_Ma_takeInput 30 = .ok (.invokevirtual 91, 3) := by decide +kernel
theorem d_Ma_takeInput_33 : decode b_Ma_takeInput 33 = .ok (.aload_n 0, 1) := by decide +kernel
theorem d_Ma_takeInput_34 : decode b_Ma_takeInput 34 = .ok (.getfield 23, 3) := by decide +kernel
theorem d_Ma_takeInput_37 : decode b_Ma_takeInput 37 = .ok (.dup, 1) := by decide +kernel
theorem d_Ma_takeInput_38 : decode b_Ma_takeInput 38 = .ok (.getfield 60, 3) := by decide +kernel
theorem d_Ma_takeInput_41 : decode b_Ma_takeInput 41 = .ok (.iconst 1, 1) := by decide +kernel
theorem d_Ma_takeInput_42 : decode b_Ma_takeInput 42 = .ok (.iadd, 1) := by decide +kernel
theorem d_Ma_takeInput_43 : decode b_Ma_takeInput 43 = .ok (.putfield 60, 3) := by decide +kernel
theorem d_Ma_takeInput_46 : decode b_Ma_takeInput 46 = .ok (.return_, 1) := by decide +kernel
theorem d_Ma_pushRandom_0 : decode b_Ma_pushRandom 0 = .ok (.aload_n 0, 1) := by decide +kernel
theorem d_Ma_pushRandom_1 : decode b_Ma_pushRandom 1 = .ok (.getfield 23, 3) := by decide +kernel
theorem d_Ma_pushRandom_4 : decode b_Ma_pushRandom 4 = .ok (.ldc 138, 2) := by decide +kernel
theorem d_Ma_pushRandom_6 : decode b_Ma_pushRandom 6 = .ok (.aload_n 0, 1) := by decide +kernel
theorem d_Ma_pushRandom_7 : decode b_Ma_pushRandom 7 = .ok (.getfield 23, 3) := by decide +kernel
theorem d_Ma_pushRandom_10 : decode b_Ma_pushRandom 10 = .ok (.getfield 139, 3) := by decide +kernel
theorem d_Ma_pushRandom_13 : decode b_Ma_pushRandom 13 = .ok (.imul, 1) := by decide +kernel
theorem d_Ma_pushRandom_14 : decode b_Ma_pushRandom 14 = .ok (.sipush 12345, 3) := by decide +kernel
theorem d_Ma_pushRandom_17 : decode b_Ma_pushRandom 17 = .ok (.iadd, 1) := by decide +kernel
theorem d_Ma_pushRandom_18 : decode b_Ma_pushRandom 18 = .ok (.putfield 139, 3) := by decide +kernel
theorem d_Ma_pushRandom_21 : decode b_Ma_pushRandom 21 = .ok (.aload_n 0, 1) := by decide +kernel
theorem d_Ma_pushRandom_22 : decode b_Ma_pushRandom 22 = .ok (.iload_n 1, 1) := by decide +kernel
theorem d_Ma_pushRandom_23 : decode b_Ma_pushRandom 23 = .ok (.iconst 1, 1) := by decide +kernel
theorem d_Ma_pushRandom_24 : decode b_Ma_pushRandom 24 = .ok (.if_icmp .ge 7, 3) := by decide +kernel
theorem d_Ma_pushRandom_27 : decode b_Ma_pushRandom 27 = .ok (.iconst 0, 1) := by decide +kernel
theorem d_Ma_pushRandom_28 : decode b_Ma_pushRandom 28 = .ok (.goto 15, 3) := by decide +kernel
theorem d_Ma_pushRandom_31 : decode b_Ma_pushRandom 31 = .ok (.aload_n 0, 1) := by decide +kernel
theorem d_Ma_pushRandom_32 : decode b_Ma_pushRandom 32 = .ok (.getfield 23, 3) := by decide +kernel
theorem d_Ma_pushRandom_35 : decode b_Ma_pushRandom 35 = .ok (.getfield 139, 3) := by decide +kernel
theorem d_Ma_pushRandom_38 : decode b_Ma_pushRandom 38 = .ok (.bipush 16, 2) := by decide +kernel
theorem d_Ma_pushRandom_40 : decode b_Ma_pushRandom 40 = .ok (.iushr, 1) := by decide +kernel
theorem d_Ma_pushRandom_41 : decode b_Ma_pushRandom 41 = .ok (.iload_n 1, 1) := by decide +kernel
theorem d_Ma_pushRandom_42 : decode b_Ma_pushRandom 42 = .ok (.irem, 1) := by decide +kernel
theorem d_Ma_pushRandom_43 : decode b_Ma_pushRandom 43 = .ok (.invokevirtual 91, 3) := by decide +kernel
theorem d_Ma_pushRandom_46 : decode b_Ma_pushRandom 46 = .ok (.return_, 1) := by decide +kernel
theorem d_St_init_0 : decode b_St_init 0 = .ok (.aload_n 0, 1) := by decide +kernel
theorem d_St_init_1 : decode b_St_init 1 = .ok (.invokespecial 3, 3) := by decide +kernel
theorem d_St_init_4 : decode b_St_init 4 = .ok (.aload_n 0, 1) := by decide +kernel
theorem d_St_init_5 : decode b_St_init 5 = .ok (.iload_n 1, 1) := by decide +kernel
theorem d_St_init_6 : decode b_St_init 6 = .ok (.putfield 9, 3) := by decide +kernel
theorem d_St_init_9 : decode b_St_init 9 = .ok (.aload_n 0, 1) := by decide +kernel
theorem d_St_init_10 : decode b_St_init 10 = .ok (.iconst (-1), 1) := by decide +kernel
theorem d_St_init_11 : decode b_St_init 11 = .ok (.putfield 15, 3) := by decide +kernel
theorem d_St_init_14 : decode b_St_init 14 = .ok (.aload_n 0, 1) := by decide +kernel
theorem d_St_init_15 : decode b_St_init 15 = .ok (.bipush 56, 2) := by decide +kernel
theorem d_St_init_17 : decode b_St_init 17 = .ok (.newarray .int, 2) := by decide +kernel
theorem d_St_init_19 : decode b_St_init 19 = .ok (.putfield 18, 3) := by decide +kernel
theorem d_St_init_22 : decode b_St_init 22 = .ok (.return_, 1) := by decide +kernel
theorem d_St_copyState_0 : decode b_St_copyState 0 = .ok (.aload_n 0, 1) := by decide +kernel
theorem d_St_copyState_1 : decode b_St_copyState 1 = .ok (.aload_n 1, 1) := by decide +kernel
theorem d_St_copyState_2 : decode b_St_copyState 2 = .ok (.invokevirtual 22, 3) := by decide +kernel
theorem d_St_copyState_5 : decode b_St_copyState 5 = .ok (.aload_n 1, 1) := by decide +kernel
theorem d_St_copyState_6 : decode b_St_copyState 6 = .ok (.getfield 18, 3) := by decide +kernel
theorem d_St_copyState_9 : decode b_St_copyState 9 = .ok (.iconst 0, 1) := by decide +kernel
theorem d_St_copyState_10 : decode b_St_copyState 10 = .ok (.aload_n 0, 1) := by decide +kernel
theorem d_St_copyState_11 : decode b_St_copyState 11 = .ok (.getfield 18, 3) := by decide +kernel
theorem d_St_copyState_14 : decode b_St_copyState 14 = .ok (.iconst 0, 1) := by decide +kernel
theorem d_St_copyState_15 : decode b_St_copyState 15 = .ok (.bipush 56, 2) := by decide +kernel
theorem d_St_copyState_17 : decode b_St_copyState 17 = .ok (.invokestatic 26, 3) := by decide +kernel
theorem d_St_copyState_20 : decode b_St_copyState 20 = .ok (.return_, 1) := by decide +kernel
theorem d_St_number_0 : decode b_St_number 0 = .ok (.iload_n 1, 1) := by decide +kernel
theorem d_St_number_1 : decode b_St_number 1 = .ok (.bipush 24, 2) := by decide +kernel
theorem d_St_number_3 : decode b_St_number 3 = .ok (.invokestatic 32, 3) := by decide +kernel
theorem d_St_number_6 : decode b_St_number 6 = .ok (.ifCond .eq 15, 3) := by decide +kernel
theorem d_St_number_9 : decode b_St_number 9 = .ok (.aload_n 0, 1) := by decide +kernel
theorem d_St_number_10 : decode b_St_number 10 = .ok (.getfield 18, 3) := by decide +kernel
theorem d_St_number_13 : decode b_St_number 13 = .ok (.bipush 32, 2) := by decide +kernel
theorem d_St_number_15 : decode b_St_number 15 = .ok (.iload_n 1, 1) := by decide +kernel
theorem d_St_number_16 : decode b_St_number 16 = .ok (.iadd, 1) := by decide +kernel
theorem d_St_number_17 : decode b_St_number 17 = .ok (.iaload, 1) := by decide +kernel
theorem d_St_number_18 : decode b_St_number 18 = .ok (.goto 4, 3) := by decide +kernel
theorem d_St_number_21 : decode b_St_number 21 = .ok (.iconst 0, 1) := by decide +kernel
theorem d_St_number_22 : decode b_St_number 22 = .ok (.ireturn, 1) := by decide +kernel
theorem d_Nt_init_0 : decode b_Nt_init 0 = .ok (.aload_n 0, 1) := by decide +kernel
theorem d_Nt_init_1 : decode b_Nt_init 1 = .ok (.invokespecial 1, 3) := by decide +kernel
theorem d_Nt_init_4 : decode b_Nt_init 4 = .ok (.aload_n 0, 1) := by decide +kernel
theorem d_Nt_init_5 : decode b_Nt_init 5 = .ok (.iconst 2, 1) := by decide +kernel
theorem d_Nt_init_6 : decode b_Nt_init 6 = .ok (.newarray .int, 2) := by decide +kernel
theorem d_Nt_init_8 : decode b_Nt_init 8 = .ok (.putfield 9, 3) := by decide +kernel
theorem d_Nt_init_11 : decode b_Nt_init 11 = .ok (.aload_n 0, 1) := by decide +kernel
theorem d_Nt_init_12 : decode b_Nt_init 12 = .ok (.iconst 2, 1) := by decide +kernel
theorem d_Nt_init_13 : decode b_Nt_init 13 = .ok (.newarray .int, 2) := by decide +kernel
theorem d_Nt_init_15 : decode b_Nt_init 15 = .ok (.putfield 13, 3) := by decide +kernel
theorem d_Nt_init_18 : decode b_Nt_init 18 = .ok (.return_, 1) := by decide +kernel
theorem d_Nt_begin_0 : decode b_Nt_begin 0 = .ok (.aload_n 0, 1) := by decide +kernel
theorem d_Nt_begin_1 : decode b_Nt_begin 1 = .ok (.aload_n 1, 1) := by decide +kernel
theorem d_Nt_begin_2 : decode b_Nt_begin 2 = .ok (.invokevirtual 16, 3) := by decide +kernel
theorem d_Nt_begin_5 : decode b_Nt_begin 5 = .ok (.aload_n 0, 1) := by decide +kernel
theorem d_Nt_begin_6 : decode b_Nt_begin 6 = .ok (.iconst 0, 1) := by decide +kernel
theorem d_Nt_begin_7 : decode b_Nt_begin 7 = .ok (.putfield 20, 3) := by decide +kernel
theorem d_Nt_begin_10 : decode b_Nt_begin 10 = .ok (.return_, 1) := by decide +kernel
theorem d_Nt_keepWord_0 : decode b_Nt_keepWord 0 = .ok (.aload_n 0, 1) := by decide +kernel
theorem d_Nt_keepWord_1 : decode b_Nt_keepWord 1 = .ok (.getfield 20, 3) := by decide +kernel
theorem d_Nt_keepWord_4 : decode b_Nt_keepWord 4 = .ok (.iconst 2, 1) := by decide +kernel
theorem d_Nt_keepWord_5 : decode b_Nt_keepWord 5 = .ok (.if_icmp .ge 33, 3) := by decide +kernel
theorem d_Nt_keepWord_8 : decode b_Nt_keepWord 8 = .ok (.aload_n 0, 1) := by decide +kernel
theorem d_Nt_keepWord_9 : decode b_Nt_keepWord 9 = .ok (.getfield 9, 3) := by decide +kernel
theorem d_Nt_keepWord_12 : decode b_Nt_keepWord 12 = .ok (.aload_n 0, 1) := by decide +kernel
theorem d_Nt_keepWord_13 : decode b_Nt_keepWord 13 = .ok (.getfield 20, 3) := by decide +kernel
theorem d_Nt_keepWord_16 : decode b_Nt_keepWord 16 = .ok (.iload_n 1, 1) := by decide +kernel
theorem d_Nt_keepWord_17 : decode b_Nt_keepWord 17 = .ok (.iastore, 1) := by decide +kernel
theorem d_Nt_keepWord_18 : decode b_Nt_keepWord 18 = .ok (.aload_n 0, 1) := by decide +kernel
theorem d_Nt_keepWord_19 : decode b_Nt_keepWord 19 = .ok (.getfield 13, 3) := by decide +kernel
theorem d_Nt_keepWord_22 : decode b_Nt_keepWord 22 = .ok (.aload_n 0, 1) := by decide +kernel
theorem d_Nt_keepWord_23 : decode b_Nt_keepWord 23 = .ok (.getfield 20, 3) := by decide +kernel
theorem d_Nt_keepWord_26 : decode b_Nt_keepWord 26 = .ok (.iload_n 2, 1) := by decide +kernel
theorem d_Nt_keepWord_27 : decode b_Nt_keepWord 27 = .ok (.iastore, 1) := by decide +kernel
theorem d_Nt_keepWord_28 : decode b_Nt_keepWord 28 = .ok (.aload_n 0, 1) := by decide +kernel
theorem d_Nt_keepWord_29 : decode b_Nt_keepWord 29 = .ok (.dup, 1) := by decide +kernel
theorem d_Nt_keepWord_30 : decode b_Nt_keepWord 30 = .ok (.getfield 20, 3) := by decide +kernel
theorem d_Nt_keepWord_33 : decode b_Nt_keepWord 33 = .ok (.iconst 1, 1) := by decide +kernel
theorem d_Nt_keepWord_34 : decode b_Nt_keepWord 34 = .ok (.iadd, 1) := by decide +kernel
theorem d_Nt_keepWord_35 : decode b_Nt_keepWord 35 = .ok (.putfield 20, 3) := by decide +kernel
theorem d_Nt_keepWord_38 : decode b_Nt_keepWord 38 = .ok (.return_, 1) := by decide +kernel
theorem d_Nt_restore_0 : decode b_Nt_restore 0 = .ok (.aload_n 0, 1) := by decide +kernel
theorem d_Nt_restore_1 : decode b_Nt_restore 1 = .ok (.getfield 20, 3) := by decide +kernel
theorem d_Nt_restore_4 : decode b_Nt_restore 4 = .ok (.iconst 1, 1) := by decide +kernel
theorem d_Nt_restore_5 : decode b_Nt_restore 5 = .ok (.isub, 1) := by decide +kernel
theorem d_Nt_restore_6 : decode b_Nt_restore 6 = .ok (.istore_n 2, 1) := by decide +kernel
theorem d_Nt_restore_7 : decode b_Nt_restore 7 = .ok (.iload_n 2, 1) := by decide +kernel
theorem d_Nt_restore_8 : decode b_Nt_restore 8 = .ok (.ifCond .lt 26, 3) := by decide +kernel
theorem d_Nt_restore_11 : decode b_Nt_restore 11 = .ok (.aload_n 1, 1) := by decide +kernel
theorem d_Nt_restore_12 : decode b_Nt_restore 12 = .ok (.getfield 24, 3) := by decide +kernel
theorem d_Nt_restore_15 : decode b_Nt_restore 15 = .ok (.aload_n 0, 1) := by decide +kernel
theorem d_Nt_restore_16 : decode b_Nt_restore 16 = .ok (.getfield 9, 3) := by decide +kernel
theorem d_Nt_restore_19 : decode b_Nt_restore 19 = .ok (.iload_n 2, 1) := by decide +kernel
theorem d_Nt_restore_20 : decode b_Nt_restore 20 = .ok (.iaload, 1) := by decide +kernel
theorem d_Nt_restore_21 : decode b_Nt_restore 21 = .ok (.aload_n 0, 1) := by decide +kernel
theorem d_Nt_restore_22 : decode b_Nt_restore 22 = .ok (.getfield 13, 3) := by decide +kernel
theorem d_Nt_restore_25 : decode b_Nt_restore 25 = .ok (.iload_n 2, 1) := by decide +kernel
theorem d_Nt_restore_26 : decode b_Nt_restore 26 = .ok (.iaload, 1) := by decide +kernel
theorem d_Nt_restore_27 : decode b_Nt_restore 27 = .ok (.iastore, 1) := by decide +kernel
theorem d_Nt_restore_28 : decode b_Nt_restore 28 = .ok (.iinc 2 (-1), 3) := by decide +kernel
theorem d_Nt_restore_31 : decode b_Nt_restore 31 = .ok (.goto (-24), 3) := by decide +kernel
theorem d_Nt_restore_34 : decode b_Nt_restore 34 = .ok (.aload_n 1, 1) := by decide +kernel
theorem d_Nt_restore_35 : decode b_Nt_restore 35 = .ok (.aload_n 0, 1) := by decide +kernel
theorem d_Nt_restore_36 : decode b_Nt_restore 36 = .ok (.invokevirtual 29, 3) := by decide +kernel
theorem d_Nt_restore_39 : decode b_Nt_restore 39 = .ok (.return_, 1) := by decide +kernel
theorem d_Un_init_0 : decode b_Un_init 0 = .ok (.aload_n 0, 1) := by decide +kernel
theorem d_Un_init_1 : decode b_Un_init 1 = .ok (.invokespecial 3, 3) := by decide +kernel
theorem d_Un_init_4 : decode b_Un_init 4 = .ok (.aload_n 0, 1) := by decide +kernel
theorem d_Un_init_5 : decode b_Un_init 5 = .ok (.bipush 32, 2) := by decide +kernel
theorem d_Un_init_7 : decode b_Un_init 7 = .ok (.anewarray 9, 3) := by decide +kernel
theorem d_Un_init_10 : decode b_Un_init 10 = .ok (.putfield 11, 3) := by decide +kernel
theorem d_Un_init_13 : decode b_Un_init 13 = .ok (.iconst 0, 1) := by decide +kernel
theorem d_Un_init_14 : decode b_Un_init 14 = .ok (.istore_n 1, 1) := by decide +kernel
theorem d_Un_init_15 : decode b_Un_init 15 = .ok (.iload_n 1, 1) := by decide +kernel
theorem d_Un_init_16 : decode b_Un_init 16 = .ok (.bipush 32, 2) := by decide +kernel
theorem d_Un_init_18 : decode b_Un_init 18 = .ok (.if_icmp .ge 22, 3) := by decide +kernel
theorem d_Un_init_21 : decode b_Un_init 21 = .ok (.aload_n 0, 1) := by decide +kernel
theorem d_Un_init_22 : decode b_Un_init 22 = .ok (.getfield 11, 3) := by decide +kernel
theorem d_Un_init_25 : decode b_Un_init 25 = .ok (.iload_n 1, 1) := by decide +kernel
theorem d_Un_init_26 : decode b_Un_init 26 = .ok (.new 9, 3) := by decide +kernel
theorem d_Un_init_29 : decode b_Un_init 29 = .ok (.dup, 1) := by decide +kernel
theorem d_Un_init_30 : decode b_Un_init 30 = .ok (.invokespecial 17, 3) := by decide +kernel
theorem d_Un_init_33 : decode b_Un_init 33 = .ok (.aastore, 1) := by decide +kernel
theorem d_Un_init_34 : decode b_Un_init 34 = .ok (.iinc 1 1, 3) := by decide +kernel
theorem d_Un_init_37 : decode b_Un_init 37 = .ok (.goto (-22), 3) := by decide +kernel
theorem d_Un_init_40 : decode b_Un_init 40 = .ok (.return_, 1) := by decide +kernel
theorem d_Un_begin_0 : decode b_Un_begin 0 = .ok (.aload_n 0, 1) := by decide +kernel
theorem d_Un_begin_1 : decode b_Un_begin 1 = .ok (.aload_n 0, 1) := by decide +kernel
theorem d_Un_begin_2 : decode b_Un_begin 2 = .ok (.getfield 18, 3) := by decide +kernel
theorem d_Un_begin_5 : decode b_Un_begin 5 = .ok (.iconst 1, 1) := by decide +kernel
theorem d_Un_begin_6 : decode b_Un_begin 6 = .ok (.iadd, 1) := by decide +kernel
theorem d_Un_begin_7 : decode b_Un_begin 7 = .ok (.bipush 32, 2) := by decide +kernel
theorem d_Un_begin_9 : decode b_Un_begin 9 = .ok (.irem, 1) := by decide +kernel
theorem d_Un_begin_10 : decode b_Un_begin 10 = .ok (.putfield 18, 3) := by decide +kernel
theorem d_Un_begin_13 : decode b_Un_begin 13 = .ok (.aload_n 0, 1) := by decide +kernel
theorem d_Un_begin_14 : decode b_Un_begin 14 = .ok (.aload_n 0, 1) := by decide +kernel
theorem d_Un_begin_15 : decode b_Un_begin 15 = .ok (.getfield 22, 3) := by decide +kernel
theorem d_Un_begin_18 : decode b_Un_begin 18 = .ok (.iconst 1, 1) := by decide +kernel
theorem d_Un_begin_19 : decode b_Un_begin 19 = .ok (.iadd, 1) := by decide +kernel
theorem d_Un_begin_20 : decode b_Un_begin 20 = .ok (.bipush 32, 2) := by decide +kernel
theorem d_Un_begin_22 : decode b_Un_begin 22 = .ok (.invokestatic 25, 3) := by decide +kernel
theorem d_Un_begin_25 : decode b_Un_begin 25 = .ok (.putfield 22, 3) := by decide +kernel
theorem d_Un_begin_28 : decode b_Un_begin 28 = .ok (.aload_n 0, 1) := by decide +kernel
theorem d_Un_begin_29 : decode b_Un_begin 29 = .ok (.getfield 11, 3) := by decide +kernel
theorem d_Un_begin_32 : decode b_Un_begin 32 = .ok (.aload_n 0, 1) := by decide +kernel
theorem d_Un_begin_33 : decode b_Un_begin 33 = .ok (.getfield 18, 3) := by decide +kernel
theorem d_Un_begin_36 : decode b_Un_begin 36 = .ok (.aaload, 1) := by decide +kernel
theorem d_Un_begin_37 : decode b_Un_begin 37 = .ok (.aload_n 1, 1) := by decide +kernel
theorem d_Un_begin_38 : decode b_Un_begin 38 = .ok (.invokevirtual 31, 3) := by decide +kernel
theorem d_Un_begin_41 : decode b_Un_begin 41 = .ok (.aload_n 0, 1) := by decide +kernel
theorem d_Un_begin_42 : decode b_Un_begin 42 = .ok (.getfield 11, 3) := by decide +kernel
theorem d_Un_begin_45 : decode b_Un_begin 45 = .ok (.aload_n 0, 1) := by decide +kernel
theorem d_Un_begin_46 : decode b_Un_begin 46 = .ok (.getfield 18, 3) := by decide +kernel
theorem d_Un_begin_49 : decode b_Un_begin 49 = .ok (.aaload, 1) := by decide +kernel
theorem d_Un_begin_50 : decode b_Un_begin 50 = .ok (.areturn, 1) := by decide +kernel
theorem d_Un_takeBack_0 : decode b_Un_takeBack 0 = .ok (.iconst 0, 1) := by decide +kernel
theorem d_Un_takeBack_1 : decode b_Un_takeBack 1 = .ok (.istore_n 3, 1) := by decide +kernel
theorem d_Un_takeBack_2 : decode b_Un_takeBack 2 = .ok (.iload_n 3, 1) := by decide +kernel
theorem d_Un_takeBack_3 : decode b_Un_takeBack 3 = .ok (.iload_n 1, 1) := by decide +kernel
theorem d_Un_takeBack_4 : decode b_Un_takeBack 4 = .ok (.if_icmp .ge 55, 3) := by decide +kernel
theorem d_Un_takeBack_7 : decode b_Un_takeBack 7 = .ok (.aload_n 0, 1) := by decide +kernel
theorem d_Un_takeBack_8 : decode b_Un_takeBack 8 = .ok (.getfield 22, 3) := by decide +kernel
theorem d_Un_takeBack_11 : decode b_Un_takeBack 11 = .ok (.ifCond .le 48, 3) := by decide +kernel
theorem d_Un_takeBack_14 : decode b_Un_takeBack 14 = .ok (.aload_n 0, 1) := by decide +kernel
theorem d_Un_takeBack_15 : decode b_Un_takeBack 15 = .ok (.getfield 11, 3) := by decide +kernel
theorem d_Un_takeBack_18 : decode b_Un_takeBack 18 = .ok (.aload_n 0, 1) := by decide +kernel
theorem d_Un_takeBack_19 : decode b_Un_takeBack 19 = .ok (.getfield 18, 3) := by decide +kernel
theorem d_Un_takeBack_22 : decode b_Un_takeBack 22 = .ok (.aaload, 1) := by decide +kernel
theorem d_Un_takeBack_23 : decode b_Un_takeBack 23 = .ok (.aload_n 2, 1) := by decide +kernel
theorem d_Un_takeBack_24 : decode b_Un_takeBack 24 = .ok (.invokevirtual 35, 3) := by decide +kernel
theorem d_Un_takeBack_27 : decode b_Un_takeBack 27 = .ok (.aload_n 0, 1) := by decide +kernel
theorem d_Un_takeBack_28 : decode b_Un_takeBack 28 = .ok (.aload_n 0, 1) := by decide +kernel
theorem d_Un_takeBack_29 : decode b_Un_takeBack 29 = .ok (.getfield 18, 3) := by decide +kernel
theorem d_Un_takeBack_32 : decode b_Un_takeBack 32 = .ok (.bipush 32, 2) := by decide +kernel
theorem d_Un_takeBack_34 : decode b_Un_takeBack 34 = .ok (.iadd, 1) := by decide +kernel
theorem d_Un_takeBack_35 : decode b_Un_takeBack 35 = .ok (.iconst 1, 1) := by decide +kernel
theorem d_Un_takeBack_36 : decode b_Un_takeBack 36 = .ok (.isub, 1) := by decide +kernel
theorem d_Un_takeBack_37 : decode b_Un_takeBack 37 = .ok (.bipush 32, 2) := by decide +kernel
theorem d_Un_takeBack_39 : decode b_Un_takeBack 39 = .ok (.irem, 1) := by decide +kernel
theorem d_Un_takeBack_40 : decode b_Un_takeBack 40 = .ok (.putfield 18, 3) := by decide +kernel
theorem d_Un_takeBack_43 : decode b_Un_takeBack 43 = .ok (.aload_n 0, 1) := by decide +kernel
theorem d_Un_takeBack_44 : decode b_Un_takeBack 44 = .ok (.dup, 1) := by decide +kernel
theorem d_Un_takeBack_45 : decode b_Un_takeBack 45 = .ok (.getfield 22, 3) := by decide +kernel
theorem d_Un_takeBack_48 : decode b_Un_takeBack 48 = .ok (.iconst 1, 1) := by decide +kernel
theorem d_Un_takeBack_49 : decode b_Un_takeBack 49 = .ok (.isub, 1) := by decide +kernel
theorem d_Un_takeBack_50 : decode b_Un_takeBack 50 = .ok (.putfield 22, 3) := by decide +kernel
theorem d_Un_takeBack_53 : decode b_Un_takeBack 53 = .ok (.iinc 3 1, 3) := by decide +kernel
theorem d_Un_takeBack_56 : decode b_Un_takeBack 56 = .ok (.goto (-54), 3) := by decide +kernel
theorem d_Un_takeBack_59 : decode b_Un_takeBack 59 = .ok (.return_, 1) := by decide +kernel
theorem d_Cp_init_0 : decode b_Cp_init 0 = .ok (.aload_n 0, 1) := by decide +kernel
theorem d_Cp_init_1 : decode b_Cp_init 1 = .ok (.invokespecial 3, 3) := by decide +kernel
theorem d_Cp_init_4 : decode b_Cp_init 4 = .ok (.aload_n 0, 1) := by decide +kernel
theorem d_Cp_init_5 : decode b_Cp_init 5 = .ok (.bipush 8, 2) := by decide +kernel
theorem d_Cp_init_7 : decode b_Cp_init 7 = .ok (.anewarray 9, 3) := by decide +kernel
theorem d_Cp_init_10 : decode b_Cp_init 10 = .ok (.putfield 11, 3) := by decide +kernel
theorem d_Cp_init_13 : decode b_Cp_init 13 = .ok (.iconst 0, 1) := by decide +kernel
theorem d_Cp_init_14 : decode b_Cp_init 14 = .ok (.istore_n 2, 1) := by decide +kernel
theorem d_Cp_init_15 : decode b_Cp_init 15 = .ok (.iload_n 2, 1) := by decide +kernel
theorem d_Cp_init_16 : decode b_Cp_init 16 = .ok (.bipush 8, 2) := by decide +kernel
theorem d_Cp_init_18 : decode b_Cp_init 18 = .ok (.if_icmp .ge 23, 3) := by decide +kernel
theorem d_Cp_init_21 : decode b_Cp_init 21 = .ok (.aload_n 0, 1) := by decide +kernel
theorem d_Cp_init_22 : decode b_Cp_init 22 = .ok (.getfield 11, 3) := by decide +kernel
theorem d_Cp_init_25 : decode b_Cp_init 25 = .ok (.iload_n 2, 1) := by decide +kernel
theorem d_Cp_init_26 : decode b_Cp_init 26 = .ok (.new 9, 3) := by decide +kernel
theorem d_Cp_init_29 : decode b_Cp_init 29 = .ok (.dup, 1) := by decide +kernel
theorem d_Cp_init_30 : decode b_Cp_init 30 = .ok (.iload_n 1, 1) := by decide +kernel
theorem d_Cp_init_31 : decode b_Cp_init 31 = .ok (.invokespecial 17, 3) := by decide +kernel
theorem d_Cp_init_34 : decode b_Cp_init 34 = .ok (.aastore, 1) := by decide +kernel
theorem d_Cp_init_35 : decode b_Cp_init 35 = .ok (.iinc 2 1, 3) := by decide +kernel
theorem d_Cp_init_38 : decode b_Cp_init 38 = .ok (.goto (-23), 3) := by decide +kernel
theorem d_Cp_init_41 : decode b_Cp_init 41 = .ok (.aload_n 0, 1) := by decide +kernel
theorem d_Cp_init_42 : decode b_Cp_init 42 = .ok (.iconst 1, 1) := by decide +kernel
theorem d_Cp_init_43 : decode b_Cp_init 43 = .ok (.putfield 20, 3) := by decide +kernel
theorem d_Cp_init_46 : decode b_Cp_init 46 = .ok (.aload_n 0, 1) := by decide +kernel
theorem d_Cp_init_47 : decode b_Cp_init 47 = .ok (.bipush 16, 2) := by decide +kernel
theorem d_Cp_init_49 : decode b_Cp_init 49 = .ok (.putfield 24, 3) := by decide +kernel
theorem d_Cp_init_52 : decode b_Cp_init 52 = .ok (.return_, 1) := by decide +kernel
theorem d_Cp_offer_0 : decode b_Cp_offer 0 = .ok (.aload_n 0, 1) := by decide +kernel
theorem d_Cp_offer_1 : decode b_Cp_offer 1 = .ok (.aload_n 1, 1) := by decide +kernel
theorem d_Cp_offer_2 : decode b_Cp_offer 2 = .ok (.getfield 27, 3) := by decide +kernel
theorem d_Cp_offer_5 : decode b_Cp_offer 5 = .ok (.invokevirtual 30, 3) := by decide +kernel
theorem d_Cp_offer_8 : decode b_Cp_offer 8 = .ok (.ifCond .ne 4, 3) := by decide +kernel
theorem d_Cp_offer_11 : decode b_Cp_offer 11 = .ok (.return_, 1) := by decide +kernel
theorem d_Cp_offer_12 : decode b_Cp_offer 12 = .ok (.aload_n 0, 1) := by decide +kernel
theorem d_Cp_offer_13 : decode b_Cp_offer 13 = .ok (.getfield 20, 3) := by decide +kernel
theorem d_Cp_offer_16 : decode b_Cp_offer 16 = .ok (.bipush 8, 2) := by decide +kernel
theorem d_Cp_offer_18 : decode b_Cp_offer 18 = .ok (.if_icmp .ne 17, 3) := by decide +kernel
theorem d_Cp_offer_21 : decode b_Cp_offer 21 = .ok (.aload_n 0, 1) := by decide +kernel
theorem d_Cp_offer_22 : decode b_Cp_offer 22 = .ok (.dup, 1) := by decide +kernel
theorem d_Cp_offer_23 : decode b_Cp_offer 23 = .ok (.getfield 24, 3) := by decide +kernel
theorem d_Cp_offer_26 : decode b_Cp_offer 26 = .ok (.iconst 2, 1) := by decide +kernel
theorem d_Cp_offer_27 : decode b_Cp_offer 27 = .ok (.imul, 1) := by decide +kernel
theorem d_Cp_offer_28 : decode b_Cp_offer 28 = .ok (.putfield 24, 3) := by decide +kernel
theorem d_Cp_offer_31 : decode b_Cp_offer 31 = .ok (.aload_n 0, 1) := by decide +kernel
theorem d_Cp_offer_32 : decode b_Cp_offer 32 = .ok (.invokevirtual 34, 3) := by decide +kernel
theorem d_Cp_offer_35 : decode b_Cp_offer 35 = .ok (.aload_n 0, 1) := by decide +kernel
theorem d_Cp_offer_36 : decode b_Cp_offer 36 = .ok (.aload_n 1, 1) := by decide +kernel
theorem d_Cp_offer_37 : decode b_Cp_offer 37 = .ok (.getfield 27, 3) := by decide +kernel
theorem d_Cp_offer_40 : decode b_Cp_offer 40 = .ok (.invokevirtual 30, 3) := by decide +kernel
theorem d_Cp_offer_43 : decode b_Cp_offer 43 = .ok (.ifCond .eq 35, 3) := by decide +kernel
theorem d_Cp_offer_46 : decode b_Cp_offer 46 = .ok (.aload_n 0, 1) := by decide +kernel
theorem d_Cp_offer_47 : decode b_Cp_offer 47 = .ok (.getfield 20, 3) := by decide +kernel
theorem d_Cp_offer_50 : decode b_Cp_offer 50 = .ok (.bipush 8, 2) := by decide +kernel
theorem d_Cp_offer_52 : decode b_Cp_offer 52 = .ok (.if_icmp .ge 26, 3) := by decide +kernel
theorem d_Cp_offer_55 : decode b_Cp_offer 55 = .ok (.aload_n 0, 1) := by decide +kernel
theorem d_Cp_offer_56 : decode b_Cp_offer 56 = .ok (.getfield 11, 3) := by decide +kernel
theorem d_Cp_offer_59 : decode b_Cp_offer 59 = .ok (.aload_n 0, 1) := by decide +kernel
theorem d_Cp_offer_60 : decode b_Cp_offer 60 = .ok (.getfield 20, 3) := by decide +kernel
theorem d_Cp_offer_63 : decode b_Cp_offer 63 = .ok (.aaload, 1) := by decide +kernel
theorem d_Cp_offer_64 : decode b_Cp_offer 64 = .ok (.aload_n 1, 1) := by decide +kernel
theorem d_Cp_offer_65 : decode b_Cp_offer 65 = .ok (.invokevirtual 37, 3) := by decide +kernel
theorem d_Cp_offer_68 : decode b_Cp_offer 68 = .ok (.aload_n 0, 1) := by decide +kernel
theorem d_Cp_offer_69 : decode b_Cp_offer 69 = .ok (.dup, 1) := by decide +kernel
theorem d_Cp_offer_70 : decode b_Cp_offer 70 = .ok (.getfield 20, 3) := by decide +kernel
theorem d_Cp_offer_73 : decode b_Cp_offer 73 = .ok (.iconst 1, 1) := by decide +kernel
theorem d_Cp_offer_74 : decode b_Cp_offer 74 = .ok (.iadd, 1) := by decide +kernel
theorem d_Cp_offer_75 : decode b_Cp_offer 75 = .ok (.putfield 20, 3) := by decide +kernel
theorem d_Cp_offer_78 : decode b_Cp_offer 78 = .ok (.return_, 1) := by decide +kernel
theorem d_Cp_isMultiple_0 : decode b_Cp_isMultiple 0 = .ok (.aload_n 0, 1) := by decide +kernel
theorem d_Cp_isMultiple_1 : decode b_Cp_isMultiple 1 = .ok (.getfield 24, 3) := by decide +kernel
theorem d_Cp_isMultiple_4 : decode b_Cp_isMultiple 4 = .ok (.ifCond .le 16, 3) := by decide +kernel
theorem d_Cp_isMultiple_7 : decode b_Cp_isMultiple 7 = .ok (.iload_n 1, 1) := by decide +kernel
theorem d_Cp_isMultiple_8 : decode b_Cp_isMultiple 8 = .ok (.aload_n 0, 1) := by decide +kernel
theorem d_Cp_isMultiple_9 : decode b_Cp_isMultiple 9 = .ok (.getfield 24, 3) := by decide +kernel
theorem d_Cp_isMultiple_12 : decode b_Cp_isMultiple 12 = .ok (.irem, 1) := by decide +kernel
theorem d_Cp_isMultiple_13 : decode b_Cp_isMultiple 13 = .ok (.ifCond .ne 7, 3) := by decide +kernel
theorem d_Cp_isMultiple_16 : decode b_Cp_isMultiple 16 = .ok (.iconst 1, 1) := by decide +kernel
theorem d_Cp_isMultiple_17 : decode b_Cp_isMultiple 17 = .ok (.goto 4, 3) := by decide +kernel
theorem d_Cp_isMultiple_20 : decode b_Cp_isMultiple 20 = .ok (.iconst 0, 1) := by decide +kernel
theorem d_Cp_isMultiple_21 : decode b_Cp_isMultiple 21 = .ok (.ireturn, 1) := by decide +kernel
theorem d_Cp_thinOut_0 : decode b_Cp_thinOut 0 = .ok (.iconst 0, 1) := by decide +kernel
theorem d_Cp_thinOut_1 : decode b_Cp_thinOut 1 = .ok (.istore_n 1, 1) := by decide +kernel
theorem d_Cp_thinOut_2 : decode b_Cp_thinOut 2 = .ok (.iconst 0, 1) := by decide +kernel
theorem d_Cp_thinOut_3 : decode b_Cp_thinOut 3 = .ok (.istore_n 2, 1) := by decide +kernel
theorem d_Cp_thinOut_4 : decode b_Cp_thinOut 4 = .ok (.iload_n 2, 1) := by decide +kernel
theorem d_Cp_thinOut_5 : decode b_Cp_thinOut 5 = .ok (.aload_n 0, 1) := by decide +kernel
theorem d_Cp_thinOut_6 : decode b_Cp_thinOut 6 = .ok (.getfield 20, 3) := by decide +kernel
theorem d_Cp_thinOut_9 : decode b_Cp_thinOut 9 = .ok (.if_icmp .ge 49, 3) := by decide +kernel
theorem d_Cp_thinOut_12 : decode b_Cp_thinOut 12 = .ok (.aload_n 0, 1) := by decide +kernel
theorem d_Cp_thinOut_13 : decode b_Cp_thinOut 13 = .ok (.getfield 11, 3) := by decide +kernel
theorem d_Cp_thinOut_16 : decode b_Cp_thinOut 16 = .ok (.iload_n 2, 1) := by decide +kernel
theorem d_Cp_thinOut_17 : decode b_Cp_thinOut 17 = .ok (.aaload, 1) := by decide +kernel
theorem d_Cp_thinOut_18 : decode b_Cp_thinOut 18 = .ok (.astore_n 3, 1) := by decide +kernel
theorem d_Cp_thinOut_19 : decode b_Cp_thinOut 19 = .ok (.aload_n 0, 1) := by decide +kernel
theorem d_Cp_thinOut_20 : decode b_Cp_thinOut 20 = .ok (.aload_n 3, 1) := by decide +kernel
theorem d_Cp_thinOut_21 : decode b_Cp_thinOut 21 = .ok (.getfield 27, 3) := by decide +kernel
theorem d_Cp_thinOut_24 : decode b_Cp_thinOut 24 = .ok (.invokevirtual 30, 3) := by decide +kernel
theorem d_Cp_thinOut_27 : decode b_Cp_thinOut 27 = .ok (.ifCond .eq 25, 3) := by decide +kernel
theorem d_Cp_thinOut_30 : decode b_Cp_thinOut 30 = .ok (.aload_n 0, 1) := by decide +kernel
theorem d_Cp_thinOut_31 : decode b_Cp_thinOut 31 = .ok (.getfield 11, 3) := by decide +kernel
theorem d_Cp_thinOut_34 : decode b_Cp_thinOut 34 = .ok (.iload_n 2, 1) := by decide +kernel
theorem d_Cp_thinOut_35 : decode b_Cp_thinOut 35 = .ok (.aload_n 0, 1) := by decide +kernel
theorem d_Cp_thinOut_36 : decode b_Cp_thinOut 36 = .ok (.getfield 11, 3) := by decide +kernel
theorem d_Cp_thinOut_39 : decode b_Cp_thinOut 39 = .ok (.iload_n 1, 1) := by decide +kernel
theorem d_Cp_thinOut_40 : decode b_Cp_thinOut 40 = .ok (.aaload, 1) := by decide +kernel
theorem d_Cp_thinOut_41 : decode b_Cp_thinOut 41 = .ok (.aastore, 1) := by decide +kernel
theorem d_Cp_thinOut_42 : decode b_Cp_thinOut 42 = .ok (.aload_n 0, 1) := by decide +kernel
theorem d_Cp_thinOut_43 : decode b_Cp_thinOut 43 = .ok (.getfield 11, 3) := by decide +kernel
theorem d_Cp_thinOut_46 : decode b_Cp_thinOut 46 = .ok (.iload_n 1, 1) := by decide +kernel
theorem d_Cp_thinOut_47 : decode b_Cp_thinOut 47 = .ok (.aload_n 3, 1) := by decide +kernel
theorem d_Cp_thinOut_48 : decode b_Cp_thinOut 48 = .ok (.aastore, 1) := by decide +kernel
theorem d_Cp_thinOut_49 : decode b_Cp_thinOut 49 = .ok (.iinc 1 1, 3) := by decide +kernel
theorem d_Cp_thinOut_52 : decode b_Cp_thinOut 52 = .ok (.iinc 2 1, 3) := by decide +kernel
theorem d_Cp_thinOut_55 : decode b_Cp_thinOut 55 = .ok (.goto (-51), 3) := by decide +kernel
theorem d_Cp_thinOut_58 : decode b_Cp_thinOut 58 = .ok (.aload_n 0, 1) := by decide +kernel
theorem d_Cp_thinOut_59 : decode b_Cp_thinOut 59 = .ok (.iload_n 1, 1) := by decide +kernel
theorem d_Cp_thinOut_60 : decode b_Cp_thinOut 60 = .ok (.putfield 20, 3) := by decide +kernel
theorem d_Cp_thinOut_63 : decode b_Cp_thinOut 63 = .ok (.return_, 1) := by decide +kernel
theorem d_Cp_latestUpTo_0 : decode b_Cp_latestUpTo 0 = .ok (.iconst 0, 1) := by decide +kernel
theorem d_Cp_latestUpTo_1 : decode b_Cp_latestUpTo 1 = .ok (.istore_n 2, 1) := by decide +kernel
theorem d_Cp_latestUpTo_2 : decode b_Cp_latestUpTo 2 = .ok (.iconst 1, 1) := by decide +kernel
theorem d_Cp_latestUpTo_3 : decode b_Cp_latestUpTo 3 = .ok (.istore_n 3, 1) := by decide +kernel
theorem d_Cp_latestUpTo_4 : decode b_Cp_latestUpTo 4 = .ok (.iload_n 3, 1) := by decide +kernel
theorem d_Cp_latestUpTo_5 : decode b_Cp_latestUpTo 5 = .ok (.aload_n 0, 1) := by decide +kernel
theorem d_Cp_latestUpTo_6 : decode b_Cp_latestUpTo 6 = .ok (.getfield 20, 3) := by decide +kernel
theorem d_Cp_latestUpTo_9 : decode b_Cp_latestUpTo 9 = .ok (.if_icmp .ge 24, 3) := by decide +kernel
theorem d_Cp_latestUpTo_12 : decode b_Cp_latestUpTo 12 = .ok (.aload_n 0, 1) := by decide +kernel
theorem d_Cp_latestUpTo_13 : decode b_Cp_latestUpTo 13 = .ok (.getfield 11, 3) := by decide +kernel
theorem d_Cp_latestUpTo_16 : decode b_Cp_latestUpTo 16 = .ok (.iload_n 3, 1) := by decide +kernel
theorem d_Cp_latestUpTo_17 : decode b_Cp_latestUpTo 17 = .ok (.aaload, 1) := by decide +kernel
theorem d_Cp_latestUpTo_18 : decode b_Cp_latestUpTo 18 = .ok (.getfield 27, 3) := by decide +kernel
theorem d_Cp_latestUpTo_21 : decode b_Cp_latestUpTo 21 = .ok (.iload_n 1, 1) := by decide +kernel
theorem d_Cp_latestUpTo_22 : decode b_Cp_latestUpTo 22 = .ok (.if_icmp .gt 5, 3) := by decide +kernel
theorem d_Cp_latestUpTo_25 : decode b_Cp_latestUpTo 25 = .ok (.iload_n 3, 1) := by decide +kernel
theorem d_Cp_latestUpTo_26 : decode b_Cp_latestUpTo 26 = .ok (.istore_n 2, 1) := by decide +kernel
theorem d_Cp_latestUpTo_27 : decode b_Cp_latestUpTo 27 = .ok (.iinc 3 1, 3) := by decide +kernel
theorem d_Cp_latestUpTo_30 : decode b_Cp_latestUpTo 30 = .ok (.goto (-26), 3) := by decide +kernel
theorem d_Cp_latestUpTo_33 : decode b_Cp_latestUpTo 33 = .ok (.aload_n 0, 1) := by decide +kernel
theorem d_Cp_latestUpTo_34 : decode b_Cp_latestUpTo 34 = .ok (.getfield 11, 3) := by decide +kernel
theorem d_Cp_latestUpTo_37 : decode b_Cp_latestUpTo 37 = .ok (.iload_n 2, 1) := by decide +kernel
theorem d_Cp_latestUpTo_38 : decode b_Cp_latestUpTo 38 = .ok (.aaload, 1) := by decide +kernel
theorem d_Cp_latestUpTo_39 : decode b_Cp_latestUpTo 39 = .ok (.areturn, 1) := by decide +kernel
theorem d_Rg_init_0 : decode b_Rg_init 0 = .ok (.aload_n 0, 1) := by decide +kernel
theorem d_Rg_init_1 : decode b_Rg_init 1 = .ok (.invokespecial 1, 3) := by decide +kernel
theorem d_Rg_init_4 : decode b_Rg_init 4 = .ok (.return_, 1) := by decide +kernel
theorem d_Rg_copyRegisters_0 : decode b_Rg_copyRegisters 0 = .ok (.aload_n 0, 1) := by decide +kernel
theorem d_Rg_copyRegisters_1 : decode b_Rg_copyRegisters 1 = .ok (.aload_n 1, 1) := by decide +kernel
theorem d_Rg_copyRegisters_2 : decode b_Rg_copyRegisters 2 = .ok (.getfield 7, 3) := by decide +kernel
theorem d_Rg_copyRegisters_5 : decode b_Rg_copyRegisters 5 = .ok (.putfield 7, 3) := by decide +kernel
theorem d_Rg_copyRegisters_8 : decode b_Rg_copyRegisters 8 = .ok (.aload_n 0, 1) := by decide +kernel
theorem d_Rg_copyRegisters_9 : decode b_Rg_copyRegisters 9 = .ok (.aload_n 1, 1) := by decide +kernel
theorem d_Rg_copyRegisters_10 : decode b_Rg_copyRegisters 10 = .ok (.getfield 13, 3) := by decide +kernel
theorem d_Rg_copyRegisters_13 : decode b_Rg_copyRegisters 13 = .ok (.putfield 13, 3) := by decide +kernel
theorem d_Rg_copyRegisters_16 : decode b_Rg_copyRegisters 16 = .ok (.aload_n 0, 1) := by decide +kernel
theorem d_Rg_copyRegisters_17 : decode b_Rg_copyRegisters 17 = .ok (.aload_n 1, 1) := by decide +kernel
theorem d_Rg_copyRegisters_18 : decode b_Rg_copyRegisters 18 = .ok (.getfield 16, 3) := by decide +kernel
theorem d_Rg_copyRegisters_21 : decode b_Rg_copyRegisters 21 = .ok (.putfield 16, 3) := by decide +kernel
theorem d_Rg_copyRegisters_24 : decode b_Rg_copyRegisters 24 = .ok (.aload_n 0, 1) := by decide +kernel
theorem d_Rg_copyRegisters_25 : decode b_Rg_copyRegisters 25 = .ok (.aload_n 1, 1) := by decide +kernel
theorem d_Rg_copyRegisters_26 : decode b_Rg_copyRegisters 26 = .ok (.getfield 19, 3) := by decide +kernel
theorem d_Rg_copyRegisters_29 : decode b_Rg_copyRegisters 29 = .ok (.putfield 19, 3) := by decide +kernel
theorem d_Rg_copyRegisters_32 : decode b_Rg_copyRegisters 32 = .ok (.aload_n 0, 1) := by decide +kernel
theorem d_Rg_copyRegisters_33 : decode b_Rg_copyRegisters 33 = .ok (.aload_n 1, 1) := by decide +kernel
theorem d_Rg_copyRegisters_34 : decode b_Rg_copyRegisters 34 = .ok (.getfield 22, 3) := by decide +kernel
theorem d_Rg_copyRegisters_37 : decode b_Rg_copyRegisters 37 = .ok (.putfield 22, 3) := by decide +kernel
theorem d_Rg_copyRegisters_40 : decode b_Rg_copyRegisters 40 = .ok (.aload_n 0, 1) := by decide +kernel
theorem d_Rg_copyRegisters_41 : decode b_Rg_copyRegisters 41 = .ok (.aload_n 1, 1) := by decide +kernel
theorem d_Rg_copyRegisters_42 : decode b_Rg_copyRegisters 42 = .ok (.getfield 25, 3) := by decide +kernel
theorem d_Rg_copyRegisters_45 : decode b_Rg_copyRegisters 45 = .ok (.putfield 25, 3) := by decide +kernel
theorem d_Rg_copyRegisters_48 : decode b_Rg_copyRegisters 48 = .ok (.aload_n 0, 1) := by decide +kernel
theorem d_Rg_copyRegisters_49 : decode b_Rg_copyRegisters 49 = .ok (.aload_n 1, 1) := by decide +kernel
theorem d_Rg_copyRegisters_50 : decode b_Rg_copyRegisters 50 = .ok (.getfield 28, 3) := by decide +kernel
theorem d_Rg_copyRegisters_53 : decode b_Rg_copyRegisters 53 = .ok (.putfield 28, 3) := by decide +kernel
theorem d_Rg_copyRegisters_56 : decode b_Rg_copyRegisters 56 = .ok (.return_, 1) := by decide +kernel
