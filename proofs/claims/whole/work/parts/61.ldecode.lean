theorem d_La_cell_0 : decode b_La_cell 0 = .ok (.iload_n 1, 1) := by decide +kernel
theorem d_La_cell_1 : decode b_La_cell 1 = .ok (.aload_n 0, 1) := by decide +kernel
theorem d_La_cell_2 : decode b_La_cell 2 = .ok (.arraylength, 1) := by decide +kernel
theorem d_La_cell_3 : decode b_La_cell 3 = .ok (.if_icmp .ge 9, 3) := by decide +kernel
theorem d_La_cell_6 : decode b_La_cell 6 = .ok (.aload_n 0, 1) := by decide +kernel
theorem d_La_cell_7 : decode b_La_cell 7 = .ok (.iload_n 1, 1) := by decide +kernel
theorem d_La_cell_8 : decode b_La_cell 8 = .ok (.iaload, 1) := by decide +kernel
theorem d_La_cell_9 : decode b_La_cell 9 = .ok (.goto 4, 3) := by decide +kernel
theorem d_La_cell_12 : decode b_La_cell 12 = .ok (.iconst 0, 1) := by decide +kernel
theorem d_La_cell_13 : decode b_La_cell 13 = .ok (.ireturn, 1) := by decide +kernel
theorem d_La_poke_0 : decode b_La_poke 0 = .ok (.aload_n 0, 1) := by decide +kernel
theorem d_La_poke_1 : decode b_La_poke 1 = .ok (.iload_n 1, 1) := by decide +kernel
theorem d_La_poke_2 : decode b_La_poke 2 = .ok (.iload_n 2, 1) := by decide +kernel
theorem d_La_poke_3 : decode b_La_poke 3 = .ok (.invokevirtual 7, 3) := by decide +kernel
theorem d_La_poke_6 : decode b_La_poke 6 = .ok (.goto 9, 3) := by decide +kernel
theorem d_La_poke_9 : decode b_La_poke 9 = .ok (.astore_n 3, 1) := by decide +kernel
theorem d_La_poke_10 : decode b_La_poke 10 = .ok (.iconst 1, 1) := by decide +kernel
theorem d_La_poke_11 : decode b_La_poke 11 = .ok (.ireturn, 1) := by decide +kernel
theorem d_La_poke_12 : decode b_La_poke 12 = .ok (.astore_n 3, 1) := by decide +kernel
theorem d_La_poke_13 : decode b_La_poke 13 = .ok (.iconst 2, 1) := by decide +kernel
theorem d_La_poke_14 : decode b_La_poke 14 = .ok (.ireturn, 1) := by decide +kernel
theorem d_La_poke_15 : decode b_La_poke 15 = .ok (.iconst 0, 1) := by decide +kernel
theorem d_La_poke_16 : decode b_La_poke 16 = .ok (.ireturn, 1) := by decide +kernel
theorem d_La_forth_0 : decode b_La_forth 0 = .ok (.aload_n 2, 1) := by decide +kernel
theorem d_La_forth_1 : decode b_La_forth 1 = .ok (.iconst 0, 1) := by decide +kernel
theorem d_La_forth_2 : decode b_La_forth 2 = .ok (.aload_n 0, 1) := by decide +kernel
theorem d_La_forth_3 : decode b_La_forth 3 = .ok (.iload_n 1, 1) := by decide +kernel
theorem d_La_forth_4 : decode b_La_forth 4 = .ok (.invokevirtual 17, 3) := by decide +kernel
theorem d_La_forth_7 : decode b_La_forth 7 = .ok (.i2l, 1) := by decide +kernel
theorem d_La_forth_8 : decode b_La_forth 8 = .ok (.lastore, 1) := by decide +kernel
theorem d_La_forth_9 : decode b_La_forth 9 = .ok (.goto 6, 3) := by decide +kernel
theorem d_La_forth_12 : decode b_La_forth 12 = .ok (.astore_n 3, 1) := by decide +kernel
theorem d_La_forth_13 : decode b_La_forth 13 = .ok (.iconst 1, 1) := by decide +kernel
theorem d_La_forth_14 : decode b_La_forth 14 = .ok (.ireturn, 1) := by decide +kernel
theorem d_La_forth_15 : decode b_La_forth 15 = .ok (.iconst 0, 1) := by decide +kernel
theorem d_La_forth_16 : decode b_La_forth 16 = .ok (.ireturn, 1) := by decide +kernel
theorem d_La_back_0 : decode b_La_back 0 = .ok (.aload_n 2, 1) := by decide +kernel
theorem d_La_back_1 : decode b_La_back 1 = .ok (.iconst 0, 1) := by decide +kernel
theorem d_La_back_2 : decode b_La_back 2 = .ok (.aload_n 0, 1) := by decide +kernel
theorem d_La_back_3 : decode b_La_back 3 = .ok (.iload_n 1, 1) := by decide +kernel
theorem d_La_back_4 : decode b_La_back 4 = .ok (.invokevirtual 23, 3) := by decide +kernel
theorem d_La_back_7 : decode b_La_back 7 = .ok (.i2l, 1) := by decide +kernel
theorem d_La_back_8 : decode b_La_back 8 = .ok (.lastore, 1) := by decide +kernel
theorem d_La_back_9 : decode b_La_back 9 = .ok (.goto 6, 3) := by decide +kernel
theorem d_La_back_12 : decode b_La_back 12 = .ok (.astore_n 3, 1) := by decide +kernel
theorem d_La_back_13 : decode b_La_back 13 = .ok (.iconst 1, 1) := by decide +kernel
theorem d_La_back_14 : decode b_La_back 14 = .ok (.ireturn, 1) := by decide +kernel
theorem d_La_back_15 : decode b_La_back 15 = .ok (.iconst 0, 1) := by decide +kernel
theorem d_La_back_16 : decode b_La_back 16 = .ok (.ireturn, 1) := by decide +kernel
theorem d_La_go_0 : decode b_La_go 0 = .ok (.aload_n 0, 1) := by decide +kernel
theorem d_La_go_1 : decode b_La_go 1 = .ok (.iload_n 1, 1) := by decide +kernel
theorem d_La_go_2 : decode b_La_go 2 = .ok (.invokevirtual 26, 3) := by decide +kernel
theorem d_La_go_5 : decode b_La_go 5 = .ok (.goto 6, 3) := by decide +kernel
theorem d_La_go_8 : decode b_La_go 8 = .ok (.astore_n 2, 1) := by decide +kernel
theorem d_La_go_9 : decode b_La_go 9 = .ok (.iconst 1, 1) := by decide +kernel
theorem d_La_go_10 : decode b_La_go 10 = .ok (.ireturn, 1) := by decide +kernel
theorem d_La_go_11 : decode b_La_go 11 = .ok (.iconst 0, 1) := by decide +kernel
theorem d_La_go_12 : decode b_La_go 12 = .ok (.ireturn, 1) := by decide +kernel
theorem d_La_setBreak_0 : decode b_La_setBreak 0 = .ok (.aload_n 2, 1) := by decide +kernel
theorem d_La_setBreak_1 : decode b_La_setBreak 1 = .ok (.iconst 0, 1) := by decide +kernel
theorem d_La_setBreak_2 : decode b_La_setBreak 2 = .ok (.aload_n 0, 1) := by decide +kernel
theorem d_La_setBreak_3 : decode b_La_setBreak 3 = .ok (.iload_n 1, 1) := by decide +kernel
theorem d_La_setBreak_4 : decode b_La_setBreak 4 = .ok (.invokevirtual 30, 3) := by decide +kernel
theorem d_La_setBreak_7 : decode b_La_setBreak 7 = .ok (.ifCond .eq 7, 3) := by decide +kernel
theorem d_La_setBreak_10 : decode b_La_setBreak 10 = .ok (.lconst 1, 1) := by decide +kernel
theorem d_La_setBreak_11 : decode b_La_setBreak 11 = .ok (.goto 4, 3) := by decide +kernel
theorem d_La_setBreak_14 : decode b_La_setBreak 14 = .ok (.lconst 0, 1) := by decide +kernel
theorem d_La_setBreak_15 : decode b_La_setBreak 15 = .ok (.lastore, 1) := by decide +kernel
theorem d_La_setBreak_16 : decode b_La_setBreak 16 = .ok (.goto 6, 3) := by decide +kernel
theorem d_La_setBreak_19 : decode b_La_setBreak 19 = .ok (.astore_n 3, 1) := by decide +kernel
theorem d_La_setBreak_20 : decode b_La_setBreak 20 = .ok (.iconst 1, 1) := by decide +kernel
theorem d_La_setBreak_21 : decode b_La_setBreak 21 = .ok (.ireturn, 1) := by decide +kernel
theorem d_La_setBreak_22 : decode b_La_setBreak 22 = .ok (.iconst 0, 1) := by decide +kernel
theorem d_La_setBreak_23 : decode b_La_setBreak 23 = .ok (.ireturn, 1) := by decide +kernel
theorem d_La_clearBreak_0 : decode b_La_clearBreak 0 = .ok (.aload_n 2, 1) := by decide +kernel
theorem d_La_clearBreak_1 : decode b_La_clearBreak 1 = .ok (.iconst 0, 1) := by decide +kernel
theorem d_La_clearBreak_2 : decode b_La_clearBreak 2 = .ok (.aload_n 0, 1) := by decide +kernel
theorem d_La_clearBreak_3 : decode b_La_clearBreak 3 = .ok (.iload_n 1, 1) := by decide +kernel
theorem d_La_clearBreak_4 : decode b_La_clearBreak 4 = .ok (.invokevirtual 34, 3) := by decide +kernel
theorem d_La_clearBreak_7 : decode b_La_clearBreak 7 = .ok (.ifCond .eq 7, 3) := by decide +kernel
theorem d_La_clearBreak_10 : decode b_La_clearBreak 10 = .ok (.lconst 1, 1) := by decide +kernel
theorem d_La_clearBreak_11 : decode b_La_clearBreak 11 = .ok (.goto 4, 3) := by decide +kernel
theorem d_La_clearBreak_14 : decode b_La_clearBreak 14 = .ok (.lconst 0, 1) := by decide +kernel
theorem d_La_clearBreak_15 : decode b_La_clearBreak 15 = .ok (.lastore, 1) := by decide +kernel
theorem d_La_clearBreak_16 : decode b_La_clearBreak 16 = .ok (.goto 6, 3) := by decide +kernel
theorem d_La_clearBreak_19 : decode b_La_clearBreak 19 = .ok (.astore_n 3, 1) := by decide +kernel
theorem d_La_clearBreak_20 : decode b_La_clearBreak 20 = .ok (.iconst 1, 1) := by decide +kernel
theorem d_La_clearBreak_21 : decode b_La_clearBreak 21 = .ok (.ireturn, 1) := by decide +kernel
theorem d_La_clearBreak_22 : decode b_La_clearBreak 22 = .ok (.iconst 0, 1) := by decide +kernel
theorem d_La_clearBreak_23 : decode b_La_clearBreak 23 = .ok (.ireturn, 1) := by decide +kernel
theorem d_La_setWatch_0 : decode b_La_setWatch 0 = .ok (.aload_n 2, 1) := by decide +kernel
theorem d_La_setWatch_1 : decode b_La_setWatch 1 = .ok (.iconst 0, 1) := by decide +kernel
theorem d_La_setWatch_2 : decode b_La_setWatch 2 = .ok (.aload_n 0, 1) := by decide +kernel
theorem d_La_setWatch_3 : decode b_La_setWatch 3 = .ok (.iload_n 1, 1) := by decide +kernel
theorem d_La_setWatch_4 : decode b_La_setWatch 4 = .ok (.invokevirtual 37, 3) := by decide +kernel
theorem d_La_setWatch_7 : decode b_La_setWatch 7 = .ok (.ifCond .eq 7, 3) := by decide +kernel
theorem d_La_setWatch_10 : decode b_La_setWatch 10 = .ok (.lconst 1, 1) := by decide +kernel
theorem d_La_setWatch_11 : decode b_La_setWatch 11 = .ok (.goto 4, 3) := by decide +kernel
theorem d_La_setWatch_14 : decode b_La_setWatch 14 = .ok (.lconst 0, 1) := by decide +kernel
theorem d_La_setWatch_15 : decode b_La_setWatch 15 = .ok (.lastore, 1) := by decide +kernel
theorem d_La_setWatch_16 : decode b_La_setWatch 16 = .ok (.goto 6, 3) := by decide +kernel
theorem d_La_setWatch_19 : decode b_La_setWatch 19 = .ok (.astore_n 3, 1) := by decide +kernel
theorem d_La_setWatch_20 : decode b_La_setWatch 20 = .ok (.iconst 1, 1) := by decide +kernel
theorem d_La_setWatch_21 : decode b_La_setWatch 21 = .ok (.ireturn, 1) := by decide +kernel
theorem d_La_setWatch_22 : decode b_La_setWatch 22 = .ok (.iconst 0, 1) := by decide +kernel
theorem d_La_setWatch_23 : decode b_La_setWatch 23 = .ok (.ireturn, 1) := by decide +kernel
theorem d_La_clearWatch_0 : decode b_La_clearWatch 0 = .ok (.aload_n 2, 1) := by decide +kernel
theorem d_La_clearWatch_1 : decode b_La_clearWatch 1 = .ok (.iconst 0, 1) := by decide +kernel
theorem d_La_clearWatch_2 : decode b_La_clearWatch 2 = .ok (.aload_n 0, 1) := by decide +kernel
theorem d_La_clearWatch_3 : decode b_La_clearWatch 3 = .ok (.iload_n 1, 1) := by decide +kernel
theorem d_La_clearWatch_4 : decode b_La_clearWatch 4 = .ok (.invokevirtual 40, 3) := by decide +kernel
theorem d_La_clearWatch_7 : decode b_La_clearWatch 7 = .ok (.ifCond .eq 7, 3) := by decide +kernel
theorem d_La_clearWatch_10 : decode b_La_clearWatch 10 = .ok (.lconst 1, 1) := by decide +kernel
theorem d_La_clearWatch_11 : decode b_La_clearWatch 11 = .ok (.goto 4, 3) := by decide +kernel
theorem d_La_clearWatch_14 : decode b_La_clearWatch 14 = .ok (.lconst 0, 1) := by decide +kernel
theorem d_La_clearWatch_15 : decode b_La_clearWatch 15 = .ok (.lastore, 1) := by decide +kernel
theorem d_La_clearWatch_16 : decode b_La_clearWatch 16 = .ok (.goto 6, 3) := by decide +kernel
theorem d_La_clearWatch_19 : decode b_La_clearWatch 19 = .ok (.astore_n 3, 1) := by decide +kernel
theorem d_La_clearWatch_20 : decode b_La_clearWatch 20 = .ok (.iconst 1, 1) := by decide +kernel
theorem d_La_clearWatch_21 : decode b_La_clearWatch 21 = .ok (.ireturn, 1) := by decide +kernel
theorem d_La_clearWatch_22 : decode b_La_clearWatch 22 = .ok (.iconst 0, 1) := by decide +kernel
theorem d_La_clearWatch_23 : decode b_La_clearWatch 23 = .ok (.ireturn, 1) := by decide +kernel
theorem d_La_state_0 : decode b_La_state 0 = .ok (.aload_n 2, 1) := by decide +kernel
theorem d_La_state_1 : decode b_La_state 1 = .ok (.iconst 0, 1) := by decide +kernel
theorem d_La_state_2 : decode b_La_state 2 = .ok (.aload_n 0, 1) := by decide +kernel
theorem d_La_state_3 : decode b_La_state 3 = .ok (.iload_n 1, 1) := by decide +kernel
theorem d_La_state_4 : decode b_La_state 4 = .ok (.invokevirtual 43, 3) := by decide +kernel
theorem d_La_state_7 : decode b_La_state 7 = .ok (.i2l, 1) := by decide +kernel
theorem d_La_state_8 : decode b_La_state 8 = .ok (.lastore, 1) := by decide +kernel
theorem d_La_state_9 : decode b_La_state 9 = .ok (.goto 6, 3) := by decide +kernel
theorem d_La_state_12 : decode b_La_state 12 = .ok (.astore_n 3, 1) := by decide +kernel
theorem d_La_state_13 : decode b_La_state 13 = .ok (.iconst 1, 1) := by decide +kernel
theorem d_La_state_14 : decode b_La_state 14 = .ok (.ireturn, 1) := by decide +kernel
theorem d_La_state_15 : decode b_La_state 15 = .ok (.iconst 0, 1) := by decide +kernel
theorem d_La_state_16 : decode b_La_state 16 = .ok (.ireturn, 1) := by decide +kernel
theorem d_La_stack_0 : decode b_La_stack 0 = .ok (.aload_n 2, 1) := by decide +kernel
theorem d_La_stack_1 : decode b_La_stack 1 = .ok (.iconst 0, 1) := by decide +kernel
theorem d_La_stack_2 : decode b_La_stack 2 = .ok (.aload_n 0, 1) := by decide +kernel
theorem d_La_stack_3 : decode b_La_stack 3 = .ok (.iload_n 1, 1) := by decide +kernel
theorem d_La_stack_4 : decode b_La_stack 4 = .ok (.invokevirtual 46, 3) := by decide +kernel
theorem d_La_stack_7 : decode b_La_stack 7 = .ok (.i2l, 1) := by decide +kernel
theorem d_La_stack_8 : decode b_La_stack 8 = .ok (.lastore, 1) := by decide +kernel
theorem d_La_stack_9 : decode b_La_stack 9 = .ok (.goto 6, 3) := by decide +kernel
theorem d_La_stack_12 : decode b_La_stack 12 = .ok (.astore_n 3, 1) := by decide +kernel
theorem d_La_stack_13 : decode b_La_stack 13 = .ok (.iconst 1, 1) := by decide +kernel
theorem d_La_stack_14 : decode b_La_stack 14 = .ok (.ireturn, 1) := by decide +kernel
theorem d_La_stack_15 : decode b_La_stack 15 = .ok (.iconst 0, 1) := by decide +kernel
theorem d_La_stack_16 : decode b_La_stack 16 = .ok (.ireturn, 1) := by decide +kernel
theorem d_La_checkpoint_0 : decode b_La_checkpoint 0 = .ok (.aload_n 2, 1) := by decide +kernel
theorem d_La_checkpoint_1 : decode b_La_checkpoint 1 = .ok (.iconst 0, 1) := by decide +kernel
theorem d_La_checkpoint_2 : decode b_La_checkpoint 2 = .ok (.aload_n 0, 1) := by decide +kernel
theorem d_La_checkpoint_3 : decode b_La_checkpoint 3 = .ok (.iload_n 1, 1) := by decide +kernel
theorem d_La_checkpoint_4 : decode b_La_checkpoint 4 = .ok (.invokevirtual 49, 3) := by decide +kernel
theorem d_La_checkpoint_7 : decode b_La_checkpoint 7 = .ok (.i2l, 1) := by decide +kernel
theorem d_La_checkpoint_8 : decode b_La_checkpoint 8 = .ok (.lastore, 1) := by decide +kernel
theorem d_La_checkpoint_9 : decode b_La_checkpoint 9 = .ok (.goto 6, 3) := by decide +kernel
theorem d_La_checkpoint_12 : decode b_La_checkpoint 12 = .ok (.astore_n 3, 1) := by decide +kernel
theorem d_La_checkpoint_13 : decode b_La_checkpoint 13 = .ok (.iconst 1, 1) := by decide +kernel
theorem d_La_checkpoint_14 : decode b_La_checkpoint 14 = .ok (.ireturn, 1) := by decide +kernel
theorem d_La_checkpoint_15 : decode b_La_checkpoint 15 = .ok (.iconst 0, 1) := by decide +kernel
theorem d_La_checkpoint_16 : decode b_La_checkpoint 16 = .ok (.ireturn, 1) := by decide +kernel
