theorem d_Mo_init_0 : decode b_Mo_init 0 = .ok (.aload_n 0, 1) := by decide +kernel
theorem d_Mo_init_1 : decode b_Mo_init 1 = .ok (.invokespecial 1, 3) := by decide +kernel
theorem d_Mo_init_4 : decode b_Mo_init 4 = .ok (.aload_n 0, 1) := by decide +kernel
theorem d_Mo_init_5 : decode b_Mo_init 5 = .ok (.bipush 64, 2) := by decide +kernel
theorem d_Mo_init_7 : decode b_Mo_init 7 = .ok (.newarray .int, 2) := by decide +kernel
theorem d_Mo_init_9 : decode b_Mo_init 9 = .ok (.putfield 7, 3) := by decide +kernel
theorem d_Mo_init_12 : decode b_Mo_init 12 = .ok (.aload_n 0, 1) := by decide +kernel
theorem d_Mo_init_13 : decode b_Mo_init 13 = .ok (.bipush 40, 2) := by decide +kernel
theorem d_Mo_init_15 : decode b_Mo_init 15 = .ok (.newarray .int, 2) := by decide +kernel
theorem d_Mo_init_17 : decode b_Mo_init 17 = .ok (.putfield 13, 3) := by decide +kernel
theorem d_Mo_init_20 : decode b_Mo_init 20 = .ok (.aload_n 0, 1) := by decide +kernel
theorem d_Mo_init_21 : decode b_Mo_init 21 = .ok (.bipush 64, 2) := by decide +kernel
theorem d_Mo_init_23 : decode b_Mo_init 23 = .ok (.newarray .boolean, 2) := by decide +kernel
theorem d_Mo_init_25 : decode b_Mo_init 25 = .ok (.putfield 16, 3) := by decide +kernel
theorem d_Mo_init_28 : decode b_Mo_init 28 = .ok (.aload_n 0, 1) := by decide +kernel
theorem d_Mo_init_29 : decode b_Mo_init 29 = .ok (.bipush 32, 2) := by decide +kernel
theorem d_Mo_init_31 : decode b_Mo_init 31 = .ok (.newarray .boolean, 2) := by decide +kernel
theorem d_Mo_init_33 : decode b_Mo_init 33 = .ok (.putfield 20, 3) := by decide +kernel
theorem d_Mo_init_36 : decode b_Mo_init 36 = .ok (.aload_n 0, 1) := by decide +kernel
theorem d_Mo_init_37 : decode b_Mo_init 37 = .ok (.bipush 32, 2) := by decide +kernel
theorem d_Mo_init_39 : decode b_Mo_init 39 = .ok (.newarray .int, 2) := by decide +kernel
theorem d_Mo_init_41 : decode b_Mo_init 41 = .ok (.putfield 23, 3) := by decide +kernel
theorem d_Mo_init_44 : decode b_Mo_init 44 = .ok (.aload_n 0, 1) := by decide +kernel
theorem d_Mo_init_45 : decode b_Mo_init 45 = .ok (.bipush 24, 2) := by decide +kernel
theorem d_Mo_init_47 : decode b_Mo_init 47 = .ok (.newarray .int, 2) := by decide +kernel
theorem d_Mo_init_49 : decode b_Mo_init 49 = .ok (.putfield 26, 3) := by decide +kernel
theorem d_Mo_init_52 : decode b_Mo_init 52 = .ok (.aload_n 0, 1) := by decide +kernel
theorem d_Mo_init_53 : decode b_Mo_init 53 = .ok (.bipush 32, 2) := by decide +kernel
theorem d_Mo_init_55 : decode b_Mo_init 55 = .ok (.newarray .int, 2) := by decide +kernel
theorem d_Mo_init_57 : decode b_Mo_init 57 = .ok (.putfield 29, 3) := by decide +kernel
theorem d_Mo_init_60 : decode b_Mo_init 60 = .ok (.aload_n 0, 1) := by decide +kernel
theorem d_Mo_init_61 : decode b_Mo_init 61 = .ok (.sipush 728, 3) := by decide +kernel
theorem d_Mo_init_64 : decode b_Mo_init 64 = .ok (.newarray .int, 2) := by decide +kernel
theorem d_Mo_init_66 : decode b_Mo_init 66 = .ok (.putfield 32, 3) := by decide +kernel
theorem d_Mo_init_69 : decode b_Mo_init 69 = .ok (.aload_n 0, 1) := by decide +kernel
theorem d_Mo_init_70 : decode b_Mo_init 70 = .ok (.bipush 65, 2) := by decide +kernel
theorem d_Mo_init_72 : decode b_Mo_init 72 = .ok (.newarray .int, 2) := by decide +kernel
theorem d_Mo_init_74 : decode b_Mo_init 74 = .ok (.putfield 35, 3) := by decide +kernel
theorem d_Mo_init_77 : decode b_Mo_init 77 = .ok (.aload_n 0, 1) := by decide +kernel
theorem d_Mo_init_78 : decode b_Mo_init 78 = .ok (.bipush 16, 2) := by decide +kernel
theorem d_Mo_init_80 : decode b_Mo_init 80 = .ok (.putfield 38, 3) := by decide +kernel
theorem d_Mo_init_83 : decode b_Mo_init 83 = .ok (.aload_n 0, 1) := by decide +kernel
theorem d_Mo_init_84 : decode b_Mo_init 84 = .ok (.bipush 9, 2) := by decide +kernel
theorem d_Mo_init_86 : decode b_Mo_init 86 = .ok (.newarray .int, 2) := by decide +kernel
theorem d_Mo_init_88 : decode b_Mo_init 88 = .ok (.putfield 42, 3) := by decide +kernel
theorem d_Mo_init_91 : decode b_Mo_init 91 = .ok (.aload_n 0, 1) := by decide +kernel
theorem d_Mo_init_92 : decode b_Mo_init 92 = .ok (.iload_n 1, 1) := by decide +kernel
theorem d_Mo_init_93 : decode b_Mo_init 93 = .ok (.putfield 45, 3) := by decide +kernel
theorem d_Mo_init_96 : decode b_Mo_init 96 = .ok (.aload_n 0, 1) := by decide +kernel
theorem d_Mo_init_97 : decode b_Mo_init 97 = .ok (.invokevirtual 48, 3) := by decide +kernel
theorem d_Mo_init_100 : decode b_Mo_init 100 = .ok (.aload_n 0, 1) := by decide +kernel
theorem d_Mo_init_101 : decode b_Mo_init 101 = .ok (.iconst 1, 1) := by decide +kernel
theorem d_Mo_init_102 : decode b_Mo_init 102 = .ok (.putfield 51, 3) := by decide +kernel
theorem d_Mo_init_105 : decode b_Mo_init 105 = .ok (.return_, 1) := by decide +kernel
theorem d_Mo_thrown_0 : decode b_Mo_thrown 0 = .ok (.aload_n 0, 1) := by decide +kernel
theorem d_Mo_thrown_1 : decode b_Mo_thrown 1 = .ok (.getfield 54, 3) := by decide +kernel
theorem d_Mo_thrown_4 : decode b_Mo_thrown 4 = .ok (.ireturn, 1) := by decide +kernel
theorem d_Mo_fail_0 : decode b_Mo_fail 0 = .ok (.aload_n 0, 1) := by decide +kernel
theorem d_Mo_fail_1 : decode b_Mo_fail 1 = .ok (.iload_n 1, 1) := by decide +kernel
theorem d_Mo_fail_2 : decode b_Mo_fail 2 = .ok (.putfield 54, 3) := by decide +kernel
theorem d_Mo_fail_5 : decode b_Mo_fail 5 = .ok (.iconst 0, 1) := by decide +kernel
theorem d_Mo_fail_6 : decode b_Mo_fail 6 = .ok (.ireturn, 1) := by decide +kernel
theorem d_Mo_poke_0 : decode b_Mo_poke 0 = .ok (.aload_n 0, 1) := by decide +kernel
theorem d_Mo_poke_1 : decode b_Mo_poke 1 = .ok (.iload_n 1, 1) := by decide +kernel
theorem d_Mo_poke_2 : decode b_Mo_poke 2 = .ok (.ifCond .lt 9, 3) := by decide +kernel
theorem d_Mo_poke_5 : decode b_Mo_poke 5 = .ok (.iload_n 1, 1) := by decide +kernel
theorem d_Mo_poke_6 : decode b_Mo_poke 6 = .ok (.bipush 64, 2) := by decide +kernel
theorem d_Mo_poke_8 : decode b_Mo_poke 8 = .ok (.if_icmp .lt 7, 3) := by decide +kernel
theorem d_Mo_poke_11 : decode b_Mo_poke 11 = .ok (.iconst 1, 1) := by decide +kernel
theorem d_Mo_poke_12 : decode b_Mo_poke 12 = .ok (.goto 15, 3) := by decide +kernel
theorem d_Mo_poke_15 : decode b_Mo_poke 15 = .ok (.aload_n 0, 1) := by decide +kernel
theorem d_Mo_poke_16 : decode b_Mo_poke 16 = .ok (.getfield 57, 3) := by decide +kernel
theorem d_Mo_poke_19 : decode b_Mo_poke 19 = .ok (.ifCond .le 7, 3) := by decide +kernel
theorem d_Mo_poke_22 : decode b_Mo_poke 22 = .ok (.iconst 2, 1) := by decide +kernel
theorem d_Mo_poke_23 : decode b_Mo_poke 23 = .ok (.goto 4, 3) := by decide +kernel
theorem d_Mo_poke_26 : decode b_Mo_poke 26 = .ok (.iconst 0, 1) := by decide +kernel
theorem d_Mo_poke_27 : decode b_Mo_poke 27 = .ok (.putfield 54, 3) := by decide +kernel
theorem d_Mo_poke_30 : decode b_Mo_poke 30 = .ok (.aload_n 0, 1) := by decide +kernel
theorem d_Mo_poke_31 : decode b_Mo_poke 31 = .ok (.getfield 54, 3) := by decide +kernel
theorem d_Mo_poke_34 : decode b_Mo_poke 34 = .ok (.ifCond .ne 10, 3) := by decide +kernel
theorem d_Mo_poke_37 : decode b_Mo_poke 37 = .ok (.aload_n 0, 1) := by decide +kernel
theorem d_Mo_poke_38 : decode b_Mo_poke 38 = .ok (.getfield 7, 3) := by decide +kernel
theorem d_Mo_poke_41 : decode b_Mo_poke 41 = .ok (.iload_n 1, 1) := by decide +kernel
theorem d_Mo_poke_42 : decode b_Mo_poke 42 = .ok (.iload_n 2, 1) := by decide +kernel
theorem d_Mo_poke_43 : decode b_Mo_poke 43 = .ok (.iastore, 1) := by decide +kernel
theorem d_Mo_poke_44 : decode b_Mo_poke 44 = .ok (.return_, 1) := by decide +kernel
theorem d_Mo_input_0 : decode b_Mo_input 0 = .ok (.aload_n 0, 1) := by decide +kernel
theorem d_Mo_input_1 : decode b_Mo_input 1 = .ok (.iconst 0, 1) := by decide +kernel
theorem d_Mo_input_2 : decode b_Mo_input 2 = .ok (.putfield 54, 3) := by decide +kernel
theorem d_Mo_input_5 : decode b_Mo_input 5 = .ok (.aload_n 0, 1) := by decide +kernel
theorem d_Mo_input_6 : decode b_Mo_input 6 = .ok (.getfield 60, 3) := by decide +kernel
theorem d_Mo_input_9 : decode b_Mo_input 9 = .ok (.bipush 40, 2) := by decide +kernel
theorem d_Mo_input_11 : decode b_Mo_input 11 = .ok (.if_icmp .ne 5, 3) := by decide +kernel
theorem d_Mo_input_14 : decode b_Mo_input 14 = .ok (.iconst (-1), 1) := by decide +kernel
theorem d_Mo_input_15 : decode b_Mo_input 15 = .ok (.ireturn, 1) := by decide +kernel
theorem d_Mo_input_16 : decode b_Mo_input 16 = .ok (.aload_n 0, 1) := by decide +kernel
theorem d_Mo_input_17 : decode b_Mo_input 17 = .ok (.getfield 13, 3) := by decide +kernel
theorem d_Mo_input_20 : decode b_Mo_input 20 = .ok (.aload_n 0, 1) := by decide +kernel
theorem d_Mo_input_21 : decode b_Mo_input 21 = .ok (.getfield 60, 3) := by decide +kernel
theorem d_Mo_input_24 : decode b_Mo_input 24 = .ok (.iload_n 1, 1) := by decide +kernel
theorem d_Mo_input_25 : decode b_Mo_input 25 = .ok (.iastore, 1) := by decide +kernel
theorem d_Mo_input_26 : decode b_Mo_input 26 = .ok (.aload_n 0, 1) := by decide +kernel
theorem d_Mo_input_27 : decode b_Mo_input 27 = .ok (.dup, 1) := by decide +kernel
theorem d_Mo_input_28 : decode b_Mo_input 28 = .ok (.getfield 60, 3) := by decide +kernel
theorem d_Mo_input_31 : decode b_Mo_input 31 = .ok (.iconst 1, 1) := by decide +kernel
theorem d_Mo_input_32 : decode b_Mo_input 32 = .ok (.iadd, 1) := by decide +kernel
theorem d_Mo_input_33 : decode b_Mo_input 33 = .ok (.putfield 60, 3) := by decide +kernel
theorem d_Mo_input_36 : decode b_Mo_input 36 = .ok (.aload_n 0, 1) := by decide +kernel
theorem d_Mo_input_37 : decode b_Mo_input 37 = .ok (.getfield 60, 3) := by decide +kernel
theorem d_Mo_input_40 : decode b_Mo_input 40 = .ok (.ireturn, 1) := by decide +kernel
theorem d_Mo_mark_0 : decode b_Mo_mark 0 = .ok (.aload_n 0, 1) := by decide +kernel
theorem d_Mo_mark_1 : decode b_Mo_mark 1 = .ok (.getfield 63, 3) := by decide +kernel
theorem d_Mo_mark_4 : decode b_Mo_mark 4 = .ok (.sipush 250, 3) := by decide +kernel
theorem d_Mo_mark_7 : decode b_Mo_mark 7 = .ok (.idiv, 1) := by decide +kernel
theorem d_Mo_mark_8 : decode b_Mo_mark 8 = .ok (.istore_n 1, 1) := by decide +kernel
theorem d_Mo_mark_9 : decode b_Mo_mark 9 = .ok (.iconst 0, 1) := by decide +kernel
theorem d_Mo_mark_10 : decode b_Mo_mark 10 = .ok (.istore_n 2, 1) := by decide +kernel
theorem d_Mo_mark_11 : decode b_Mo_mark 11 = .ok (.iload_n 2, 1) := by decide +kernel
theorem d_Mo_mark_12 : decode b_Mo_mark 12 = .ok (.bipush 32, 2) := by decide +kernel
theorem d_Mo_mark_14 : decode b_Mo_mark 14 = .ok (.if_icmp .ge 26, 3) := by decide +kernel
theorem d_Mo_mark_17 : decode b_Mo_mark 17 = .ok (.aload_n 0, 1) := by decide +kernel
theorem d_Mo_mark_18 : decode b_Mo_mark 18 = .ok (.getfield 32, 3) := by decide +kernel
theorem d_Mo_mark_21 : decode b_Mo_mark 21 = .ok (.bipush 56, 2) := by decide +kernel
theorem d_Mo_mark_23 : decode b_Mo_mark 23 = .ok (.iload_n 1, 1) := by decide +kernel
theorem d_Mo_mark_24 : decode b_Mo_mark 24 = .ok (.imul, 1) := by decide +kernel
theorem d_Mo_mark_25 : decode b_Mo_mark 25 = .ok (.iload_n 2, 1) := by decide +kernel
theorem d_Mo_mark_26 : decode b_Mo_mark 26 = .ok (.iadd, 1) := by decide +kernel
theorem d_Mo_mark_27 : decode b_Mo_mark 27 = .ok (.aload_n 0, 1) := by decide +kernel
theorem d_Mo_mark_28 : decode b_Mo_mark 28 = .ok (.getfield 23, 3) := by decide +kernel
theorem d_Mo_mark_31 : decode b_Mo_mark 31 = .ok (.iload_n 2, 1) := by decide +kernel
theorem d_Mo_mark_32 : decode b_Mo_mark 32 = .ok (.iaload, 1) := by decide +kernel
theorem d_Mo_mark_33 : decode b_Mo_mark 33 = .ok (.iastore, 1) := by decide +kernel
theorem d_Mo_mark_34 : decode b_Mo_mark 34 = .ok (.iinc 2 1, 3) := by decide +kernel
theorem d_Mo_mark_37 : decode b_Mo_mark 37 = .ok (.goto (-26), 3) := by decide +kernel
theorem d_Mo_mark_40 : decode b_Mo_mark 40 = .ok (.iconst 0, 1) := by decide +kernel
theorem d_Mo_mark_41 : decode b_Mo_mark 41 = .ok (.istore_n 2, 1) := by decide +kernel
theorem d_Mo_mark_42 : decode b_Mo_mark 42 = .ok (.iload_n 2, 1) := by decide +kernel
theorem d_Mo_mark_43 : decode b_Mo_mark 43 = .ok (.bipush 24, 2) := by decide +kernel
theorem d_Mo_mark_45 : decode b_Mo_mark 45 = .ok (.if_icmp .ge 29, 3) := by decide +kernel
theorem d_Mo_mark_48 : decode b_Mo_mark 48 = .ok (.aload_n 0, 1) := by decide +kernel
theorem d_Mo_mark_49 : decode b_Mo_mark 49 = .ok (.getfield 32, 3) := by decide +kernel
theorem d_Mo_mark_52 : decode b_Mo_mark 52 = .ok (.bipush 56, 2) := by decide +kernel
theorem d_Mo_mark_54 : decode b_Mo_mark 54 = .ok (.iload_n 1, 1) := by decide +kernel
theorem d_Mo_mark_55 : decode b_Mo_mark 55 = .ok (.imul, 1) := by decide +kernel
theorem d_Mo_mark_56 : decode b_Mo_mark 56 = .ok (.bipush 32, 2) := by decide +kernel
theorem d_Mo_mark_58 : decode b_Mo_mark 58 = .ok (.iadd, 1) := by decide +kernel
theorem d_Mo_mark_59 : decode b_Mo_mark 59 = .ok (.iload_n 2, 1) := by decide +kernel
theorem d_Mo_mark_60 : decode b_Mo_mark 60 = .ok (.iadd, 1) := by decide +kernel
theorem d_Mo_mark_61 : decode b_Mo_mark 61 = .ok (.aload_n 0, 1) := by decide +kernel
theorem d_Mo_mark_62 : decode b_Mo_mark 62 = .ok (.getfield 26, 3) := by decide +kernel
theorem d_Mo_mark_65 : decode b_Mo_mark 65 = .ok (.iload_n 2, 1) := by decide +kernel
theorem d_Mo_mark_66 : decode b_Mo_mark 66 = .ok (.iaload, 1) := by decide +kernel
theorem d_Mo_mark_67 : decode b_Mo_mark 67 = .ok (.iastore, 1) := by decide +kernel
theorem d_Mo_mark_68 : decode b_Mo_mark 68 = .ok (.iinc 2 1, 3) := by decide +kernel
theorem d_Mo_mark_71 : decode b_Mo_mark 71 = .ok (.goto (-29), 3) := by decide +kernel
theorem d_Mo_mark_74 : decode b_Mo_mark 74 = .ok (.aload_n 0, 1) := by decide +kernel
theorem d_Mo_mark_75 : decode b_Mo_mark 75 = .ok (.getfield 35, 3) := by decide +kernel
theorem d_Mo_mark_78 : decode b_Mo_mark 78 = .ok (.iconst 5, 1) := by decide +kernel
theorem d_Mo_mark_79 : decode b_Mo_mark 79 = .ok (.iload_n 1, 1) := by decide +kernel
theorem d_Mo_mark_80 : decode b_Mo_mark 80 = .ok (.imul, 1) := by decide +kernel
theorem d_Mo_mark_81 : decode b_Mo_mark 81 = .ok (.aload_n 0, 1) := by decide +kernel
theorem d_Mo_mark_82 : decode b_Mo_mark 82 = .ok (.getfield 66, 3) := by decide +kernel
theorem d_Mo_mark_85 : decode b_Mo_mark 85 = .ok (.iastore, 1) := by decide +kernel
theorem d_Mo_mark_86 : decode b_Mo_mark 86 = .ok (.aload_n 0, 1) := by decide +kernel
theorem d_Mo_mark_87 : decode b_Mo_mark 87 = .ok (.getfield 35, 3) := by decide +kernel
theorem d_Mo_mark_90 : decode b_Mo_mark 90 = .ok (.iconst 5, 1) := by decide +kernel
theorem d_Mo_mark_91 : decode b_Mo_mark 91 = .ok (.iload_n 1, 1) := by decide +kernel
theorem d_Mo_mark_92 : decode b_Mo_mark 92 = .ok (.imul, 1) := by decide +kernel
theorem d_Mo_mark_93 : decode b_Mo_mark 93 = .ok (.iconst 1, 1) := by decide +kernel
theorem d_Mo_mark_94 : decode b_Mo_mark 94 = .ok (.iadd, 1) := by decide +kernel
theorem d_Mo_mark_95 : decode b_Mo_mark 95 = .ok (.aload_n 0, 1) := by decide +kernel
theorem d_Mo_mark_96 : decode b_Mo_mark 96 = .ok (.getfield 69, 3) := by decide +kernel
theorem d_Mo_mark_99 : decode b_Mo_mark 99 = .ok (.iastore, 1) := by decide +kernel
theorem d_Mo_mark_100 : decode b_Mo_mark 100 = .ok (.aload_n 0, 1) := by decide +kernel
theorem d_Mo_mark_101 : decode b_Mo_mark 101 = .ok (.getfield 35, 3) := by decide +kernel
theorem d_Mo_mark_104 : decode b_Mo_mark 104 = .ok (.iconst 5, 1) := by decide +kernel
theorem d_Mo_mark_105 : decode b_Mo_mark 105 = .ok (.iload_n 1, 1) := by decide +kernel
theorem d_Mo_mark_106 : decode b_Mo_mark 106 = .ok (.imul, 1) := by decide +kernel
theorem d_Mo_mark_107 : decode b_Mo_mark 107 = .ok (.iconst 2, 1) := by decide +kernel
theorem d_Mo_mark_108 : decode b_Mo_mark 108 = .ok (.iadd, 1) := by decide +kernel
theorem d_Mo_mark_109 : decode b_Mo_mark 109 = .ok (.aload_n 0, 1) := by decide +kernel
theorem d_Mo_mark_110 : decode b_Mo_mark 110 = .ok (.getfield 45, 3) := by decide +kernel
theorem d_Mo_mark_113 : decode b_Mo_mark 113 = .ok (.iastore, 1) := by decide +kernel
theorem d_Mo_mark_114 : decode b_Mo_mark 114 = .ok (.aload_n 0, 1) := by decide +kernel
theorem d_Mo_mark_115 : decode b_Mo_mark 115 = .ok (.getfield 35, 3) := by decide +kernel
theorem d_Mo_mark_118 : decode b_Mo_mark 118 = .ok (.iconst 5, 1) := by decide +kernel
theorem d_Mo_mark_119 : decode b_Mo_mark 119 = .ok (.iload_n 1, 1) := by decide +kernel
theorem d_Mo_mark_120 : decode b_Mo_mark 120 = .ok (.imul, 1) := by decide +kernel
theorem d_Mo_mark_121 : decode b_Mo_mark 121 = .ok (.iconst 3, 1) := by decide +kernel
theorem d_Mo_mark_122 : decode b_Mo_mark 122 = .ok (.iadd, 1) := by decide +kernel
theorem d_Mo_mark_123 : decode b_Mo_mark 123 = .ok (.aload_n 0, 1) := by decide +kernel
theorem d_Mo_mark_124 : decode b_Mo_mark 124 = .ok (.getfield 72, 3) := by decide +kernel
theorem d_Mo_mark_127 : decode b_Mo_mark 127 = .ok (.iastore, 1) := by decide +kernel
theorem d_Mo_mark_128 : decode b_Mo_mark 128 = .ok (.aload_n 0, 1) := by decide +kernel
theorem d_Mo_mark_129 : decode b_Mo_mark 129 = .ok (.getfield 35, 3) := by decide +kernel
theorem d_Mo_mark_132 : decode b_Mo_mark 132 = .ok (.iconst 5, 1) := by decide +kernel
theorem d_Mo_mark_133 : decode b_Mo_mark 133 = .ok (.iload_n 1, 1) := by decide +kernel
theorem d_Mo_mark_134 : decode b_Mo_mark 134 = .ok (.imul, 1) := by decide +kernel
theorem d_Mo_mark_135 : decode b_Mo_mark 135 = .ok (.iconst 4, 1) := by decide +kernel
theorem d_Mo_mark_136 : decode b_Mo_mark 136 = .ok (.iadd, 1) := by decide +kernel
theorem d_Mo_mark_137 : decode b_Mo_mark 137 = .ok (.aload_n 0, 1) := by decide +kernel
theorem d_Mo_mark_138 : decode b_Mo_mark 138 = .ok (.getfield 75, 3) := by decide +kernel
theorem d_Mo_mark_141 : decode b_Mo_mark 141 = .ok (.iastore, 1) := by decide +kernel
theorem d_Mo_mark_142 : decode b_Mo_mark 142 = .ok (.return_, 1) := by decide +kernel
theorem d_Mo_seek_0 : decode b_Mo_seek 0 = .ok (.iload_n 1, 1) := by decide +kernel
theorem d_Mo_seek_1 : decode b_Mo_seek 1 = .ok (.aload_n 0, 1) := by decide +kernel
theorem d_Mo_seek_2 : decode b_Mo_seek 2 = .ok (.getfield 63, 3) := by decide +kernel
theorem d_Mo_seek_5 : decode b_Mo_seek 5 = .ok (.if_icmp .ge 151, 3) := by decide +kernel
theorem d_Mo_seek_8 : decode b_Mo_seek 8 = .ok (.iload_n 1, 1) := by decide +kernel
theorem d_Mo_seek_9 : decode b_Mo_seek 9 = .ok (.sipush 250, 3) := by decide +kernel
theorem d_Mo_seek_12 : decode b_Mo_seek 12 = .ok (.idiv, 1) := by decide +kernel
theorem d_Mo_seek_13 : decode b_Mo_seek 13 = .ok (.istore_n 2, 1) := by decide +kernel
theorem d_Mo_seek_14 : decode b_Mo_seek 14 = .ok (.iconst 0, 1) := by decide +kernel
theorem d_Mo_seek_15 : decode b_Mo_seek 15 = .ok (.istore_n 3, 1) := by decide +kernel
theorem d_Mo_seek_16 : decode b_Mo_seek 16 = .ok (.iload_n 3, 1) := by decide +kernel
theorem d_Mo_seek_17 : decode b_Mo_seek 17 = .ok (.bipush 32, 2) := by decide +kernel
theorem d_Mo_seek_19 : decode b_Mo_seek 19 = .ok (.if_icmp .ge 26, 3) := by decide +kernel
theorem d_Mo_seek_22 : decode b_Mo_seek 22 = .ok (.aload_n 0, 1) := by decide +kernel
theorem d_Mo_seek_23 : decode b_Mo_seek 23 = .ok (.getfield 23, 3) := by decide +kernel
theorem d_Mo_seek_26 : decode b_Mo_seek 26 = .ok (.iload_n 3, 1) := by decide +kernel
theorem d_Mo_seek_27 : decode b_Mo_seek 27 = .ok (.aload_n 0, 1) := by decide +kernel
theorem d_Mo_seek_28 : decode b_Mo_seek 28 = .ok (.getfield 32, 3) := by decide +kernel
theorem d_Mo_seek_31 : decode b_Mo_seek 31 = .ok (.bipush 56, 2) := by decide +kernel
theorem d_Mo_seek_33 : decode b_Mo_seek 33 = .ok (.iload_n 2, 1) := by decide +kernel
theorem d_Mo_seek_34 : decode b_Mo_seek 34 = .ok (.imul, 1) := by decide +kernel
theorem d_Mo_seek_35 : decode b_Mo_seek 35 = .ok (.iload_n 3, 1) := by decide +kernel
theorem d_Mo_seek_36 : decode b_Mo_seek 36 = .ok (.iadd, 1) := by decide +kernel
theorem d_Mo_seek_37 : decode b_Mo_seek 37 = .ok (.iaload, 1) := by decide +kernel
theorem d_Mo_seek_38 : decode b_Mo_seek 38 = .ok (.iastore, 1) := by decide +kernel
theorem d_Mo_seek_39 : decode b_Mo_seek 39 = .ok (.iinc 3 1, 3) := by decide +kernel
theorem d_Mo_seek_42 : decode b_Mo_seek 42 = .ok (.goto (-26), 3) := by decide +kernel
theorem d_Mo_seek_45 : decode b_Mo_seek 45 = .ok (.iconst 0, 1) := by decide +kernel
theorem d_Mo_seek_46 : decode b_Mo_seek 46 = .ok (.istore_n 3, 1) := by decide +kernel
theorem d_Mo_seek_47 : decode b_Mo_seek 47 = .ok (.iload_n 3, 1) := by decide +kernel
theorem d_Mo_seek_48 : decode b_Mo_seek 48 = .ok (.bipush 24, 2) := by decide +kernel
theorem d_Mo_seek_50 : decode b_Mo_seek 50 = .ok (.if_icmp .ge 29, 3) := by decide +kernel
theorem d_Mo_seek_53 : decode b_Mo_seek 53 = .ok (.aload_n 0, 1) := by decide +kernel
theorem d_Mo_seek_54 : decode b_Mo_seek 54 = .ok (.getfield 26, 3) := by decide +kernel
theorem d_Mo_seek_57 : decode b_Mo_seek 57 = .ok (.iload_n 3, 1) := by decide +kernel
theorem d_Mo_seek_58 : decode b_Mo_seek 58 = .ok (.aload_n 0, 1) := by decide +kernel
theorem d_Mo_seek_59 : decode b_Mo_seek 59 = .ok (.getfield 32, 3) := by decide +kernel
theorem d_Mo_seek_62 : decode b_Mo_seek 62 = .ok (.bipush 56, 2) := by decide +kernel
theorem d_Mo_seek_64 : decode b_Mo_seek 64 = .ok (.iload_n 2, 1) := by decide +kernel
theorem d_Mo_seek_65 : decode b_Mo_seek 65 = .ok (.imul, 1) := by decide +kernel
theorem d_Mo_seek_66 : decode b_Mo_seek 66 = .ok (.bipush 32, 2) := by decide +kernel
theorem d_Mo_seek_68 : decode b_Mo_seek 68 = .ok (.iadd, 1) := by decide +kernel
theorem d_Mo_seek_69 : decode b_Mo_seek 69 = .ok (.iload_n 3, 1) := by decide +kernel
theorem d_Mo_seek_70 : decode b_Mo_seek 70 = .ok (.iadd, 1) := by decide +kernel
theorem d_Mo_seek_71 : decode b_Mo_seek 71 = .ok (.iaload, 1) := by decide +kernel
theorem d_Mo_seek_72 : decode b_Mo_seek 72 = .ok (.iastore, 1) := by decide +kernel
theorem d_Mo_seek_73 : decode b_Mo_seek 73 = .ok (.iinc 3 1, 3) := by decide +kernel
theorem d_Mo_seek_76 : decode b_Mo_seek 76 = .ok (.goto (-29), 3) := by decide +kernel
theorem d_Mo_seek_79 : decode b_Mo_seek 79 = .ok (.aload_n 0, 1) := by decide +kernel
theorem d_Mo_seek_80 : decode b_Mo_seek 80 = .ok (.aload_n 0, 1) := by decide +kernel
theorem d_Mo_seek_81 : decode b_Mo_seek 81 = .ok (.getfield 35, 3) := by decide +kernel
theorem d_Mo_seek_84 : decode b_Mo_seek 84 = .ok (.iconst 5, 1) := by decide +kernel
theorem d_Mo_seek_85 : decode b_Mo_seek 85 = .ok (.iload_n 2, 1) := by decide +kernel
theorem d_Mo_seek_86 : decode b_Mo_seek 86 = .ok (.imul, 1) := by decide +kernel
theorem d_Mo_seek_87 : decode b_Mo_seek 87 = .ok (.iaload, 1) := by decide +kernel
theorem d_Mo_seek_88 : decode b_Mo_seek 88 = .ok (.putfield 66, 3) := by decide +kernel
theorem d_Mo_seek_91 : decode b_Mo_seek 91 = .ok (.aload_n 0, 1) := by decide +kernel
theorem d_Mo_seek_92 : decode b_Mo_seek 92 = .ok (.aload_n 0, 1) := by decide +kernel
theorem d_Mo_seek_93 : decode b_Mo_seek 93 = .ok (.getfield 35, 3) := by decide +kernel
theorem d_Mo_seek_96 : decode b_Mo_seek 96 = .ok (.iconst 5, 1) := by decide +kernel
theorem d_Mo_seek_97 : decode b_Mo_seek 97 = .ok (.iload_n 2, 1) := by decide +kernel
theorem d_Mo_seek_98 : decode b_Mo_seek 98 = .ok (.imul, 1) := by decide +kernel
theorem d_Mo_seek_99 : decode b_Mo_seek 99 = .ok (.iconst 1, 1) := by decide +kernel
theorem d_Mo_seek_100 : decode b_Mo_seek 100 = .ok (.iadd, 1) := by decide +kernel
theorem d_Mo_seek_101 : decode b_Mo_seek 101 = .ok (.iaload, 1) := by decide +kernel
theorem d_Mo_seek_102 : decode b_Mo_seek 102 = .ok (.putfield 69, 3) := by decide +kernel
theorem d_Mo_seek_105 : decode b_Mo_seek 105 = .ok (.aload_n 0, 1) := by decide +kernel
theorem d_Mo_seek_106 : decode b_Mo_seek 106 = .ok (.aload_n 0, 1) := by decide +kernel
theorem d_Mo_seek_107 : decode b_Mo_seek 107 = .ok (.getfield 35, 3) := by decide +kernel
theorem d_Mo_seek_110 : decode b_Mo_seek 110 = .ok (.iconst 5, 1) := by decide +kernel
theorem d_Mo_seek_111 : decode b_Mo_seek 111 = .ok (.iload_n 2, 1) := by decide +kernel
theorem d_Mo_seek_112 : decode b_Mo_seek 112 = .ok (.imul, 1) := by decide +kernel
theorem d_Mo_seek_113 : decode b_Mo_seek 113 = .ok (.iconst 2, 1) := by decide +kernel
theorem d_Mo_seek_114 : decode b_Mo_seek 114 = .ok (.iadd, 1) := by decide +kernel
theorem d_Mo_seek_115 : decode b_Mo_seek 115 = .ok (.iaload, 1) := by decide +kernel
theorem d_Mo_seek_116 : decode b_Mo_seek 116 = .ok (.putfield 45, 3) := by decide +kernel
theorem d_Mo_seek_119 : decode b_Mo_seek 119 = .ok (.aload_n 0, 1) := by decide +kernel
theorem d_Mo_seek_120 : decode b_Mo_seek 120 = .ok (.aload_n 0, 1) := by decide +kernel
theorem d_Mo_seek_121 : decode b_Mo_seek 121 = .ok (.getfield 35, 3) := by decide +kernel
theorem d_Mo_seek_124 : decode b_Mo_seek 124 = .ok (.iconst 5, 1) := by decide +kernel
theorem d_Mo_seek_125 : decode b_Mo_seek 125 = .ok (.iload_n 2, 1) := by decide +kernel
theorem d_Mo_seek_126 : decode b_Mo_seek 126 = .ok (.imul, 1) := by decide +kernel
theorem d_Mo_seek_127 : decode b_Mo_seek 127 = .ok (.iconst 3, 1) := by decide +kernel
theorem d_Mo_seek_128 : decode b_Mo_seek 128 = .ok (.iadd, 1) := by decide +kernel
theorem d_Mo_seek_129 : decode b_Mo_seek 129 = .ok (.iaload, 1) := by decide +kernel
theorem d_Mo_seek_130 : decode b_Mo_seek 130 = .ok (.putfield 72, 3) := by decide +kernel
theorem d_Mo_seek_133 : decode b_Mo_seek 133 = .ok (.aload_n 0, 1) := by decide +kernel
theorem d_Mo_seek_134 : decode b_Mo_seek 134 = .ok (.aload_n 0, 1) := by decide +kernel
theorem d_Mo_seek_135 : decode b_Mo_seek 135 = .ok (.getfield 35, 3) := by decide +kernel
theorem d_Mo_seek_138 : decode b_Mo_seek 138 = .ok (.iconst 5, 1) := by decide +kernel
theorem d_Mo_seek_139 : decode b_Mo_seek 139 = .ok (.iload_n 2, 1) := by decide +kernel
theorem d_Mo_seek_140 : decode b_Mo_seek 140 = .ok (.imul, 1) := by decide +kernel
theorem d_Mo_seek_141 : decode b_Mo_seek 141 = .ok (.iconst 4, 1) := by decide +kernel
theorem d_Mo_seek_142 : decode b_Mo_seek 142 = .ok (.iadd, 1) := by decide +kernel
theorem d_Mo_seek_143 : decode b_Mo_seek 143 = .ok (.iaload, 1) := by decide +kernel
theorem d_Mo_seek_144 : decode b_Mo_seek 144 = .ok (.putfield 75, 3) := by decide +kernel
theorem d_Mo_seek_147 : decode b_Mo_seek 147 = .ok (.aload_n 0, 1) := by decide +kernel
theorem d_Mo_seek_148 : decode b_Mo_seek 148 = .ok (.sipush 250, 3) := by decide +kernel
theorem d_Mo_seek_151 : decode b_Mo_seek 151 = .ok (.iload_n 2, 1) := by decide +kernel
theorem d_Mo_seek_152 : decode b_Mo_seek 152 = .ok (.imul, 1) := by decide +kernel
theorem d_Mo_seek_153 : decode b_Mo_seek 153 = .ok (.putfield 63, 3) := by decide +kernel
theorem d_Mo_seek_156 : decode b_Mo_seek 156 = .ok (.aload_n 0, 1) := by decide +kernel
theorem d_Mo_seek_157 : decode b_Mo_seek 157 = .ok (.getfield 63, 3) := by decide +kernel
theorem d_Mo_seek_160 : decode b_Mo_seek 160 = .ok (.iload_n 1, 1) := by decide +kernel
theorem d_Mo_seek_161 : decode b_Mo_seek 161 = .ok (.if_icmp .ge 10, 3) := by decide +kernel
theorem d_Mo_seek_164 : decode b_Mo_seek 164 = .ok (.aload_n 0, 1) := by decide +kernel
theorem d_Mo_seek_165 : decode b_Mo_seek 165 = .ok (.invokevirtual 78, 3) := by decide +kernel
theorem d_Mo_seek_168 : decode b_Mo_seek 168 = .ok (.goto (-12), 3) := by decide +kernel
theorem d_Mo_seek_171 : decode b_Mo_seek 171 = .ok (.return_, 1) := by decide +kernel
theorem d_Mo_needs_0 : decode b_Mo_needs 0 = .ok (.iload_n 0, 1) := by decide +kernel
theorem d_Mo_needs_1 : decode b_Mo_needs 1 = .ok (.tableswitch 79 2 16 #[75, 75, 77, 77, 77, 77, 77, 77, 75, 77, 79, 75, 75, 79, 75], 75) := by decide +kernel
theorem d_Mo_needs_76 : decode b_Mo_needs 76 = .ok (.iconst 1, 1) := by decide +kernel
theorem d_Mo_needs_77 : decode b_Mo_needs 77 = .ok (.ireturn, 1) := by decide +kernel
theorem d_Mo_needs_78 : decode b_Mo_needs 78 = .ok (.iconst 2, 1) := by decide +kernel
theorem d_Mo_needs_79 : decode b_Mo_needs 79 = .ok (.ireturn, 1) := by decide +kernel
theorem d_Mo_needs_80 : decode b_Mo_needs 80 = .ok (.iconst 0, 1) := by decide +kernel
theorem d_Mo_needs_81 : decode b_Mo_needs 81 = .ok (.ireturn, 1) := by decide +kernel
theorem d_Mo_grows_0 : decode b_Mo_grows 0 = .ok (.iload_n 0, 1) := by decide +kernel
theorem d_Mo_grows_1 : decode b_Mo_grows 1 = .ok (.tableswitch 104 1 20 #[95, 99, 95, 104, 99, 99, 99, 99, 99, 104, 101, 104, 99, 99, 97, 104, 95, 95, 95, 95], 95) := by decide +kernel
theorem d_Mo_grows_96 : decode b_Mo_grows 96 = .ok (.iconst 1, 1) := by decide +kernel
theorem d_Mo_grows_97 : decode b_Mo_grows 97 = .ok (.ireturn, 1) := by decide +kernel
theorem d_Mo_grows_98 : decode b_Mo_grows 98 = .ok (.iconst 2, 1) := by decide +kernel
theorem d_Mo_grows_99 : decode b_Mo_grows 99 = .ok (.ireturn, 1) := by decide +kernel
theorem d_Mo_grows_100 : decode b_Mo_grows 100 = .ok (.iconst (-1), 1) := by decide +kernel
theorem d_Mo_grows_101 : decode b_Mo_grows 101 = .ok (.ireturn, 1) := by decide +kernel
theorem d_Mo_grows_102 : decode b_Mo_grows 102 = .ok (.bipush (-2), 2) := by decide +kernel
theorem d_Mo_grows_104 : decode b_Mo_grows 104 = .ok (.ireturn, 1) := by decide +kernel
theorem d_Mo_grows_105 : decode b_Mo_grows 105 = .ok (.iconst 0, 1) := by decide +kernel
theorem d_Mo_grows_106 : decode b_Mo_grows 106 = .ok (.ireturn, 1) := by decide +kernel
theorem d_Mo_isArgument_0 : decode b_Mo_isArgument 0 = .ok (.aload_n 0, 1) := by decide +kernel
theorem d_Mo_isArgument_1 : decode b_Mo_isArgument 1 = .ok (.getfield 69, 3) := by decide +kernel
theorem d_Mo_isArgument_4 : decode b_Mo_isArgument 4 = .ok (.iconst 3, 1) := by decide +kernel
theorem d_Mo_isArgument_5 : decode b_Mo_isArgument 5 = .ok (.isub, 1) := by decide +kernel
theorem d_Mo_isArgument_6 : decode b_Mo_isArgument 6 = .ok (.istore_n 2, 1) := by decide +kernel
theorem d_Mo_isArgument_7 : decode b_Mo_isArgument 7 = .ok (.iload_n 1, 1) := by decide +kernel
theorem d_Mo_isArgument_8 : decode b_Mo_isArgument 8 = .ok (.iload_n 2, 1) := by decide +kernel
theorem d_Mo_isArgument_9 : decode b_Mo_isArgument 9 = .ok (.if_icmp .gt 17, 3) := by decide +kernel
theorem d_Mo_isArgument_12 : decode b_Mo_isArgument 12 = .ok (.iload_n 1, 1) := by decide +kernel
theorem d_Mo_isArgument_13 : decode b_Mo_isArgument 13 = .ok (.iload_n 2, 1) := by decide +kernel
theorem d_Mo_isArgument_14 : decode b_Mo_isArgument 14 = .ok (.aload_n 0, 1) := by decide +kernel
theorem d_Mo_isArgument_15 : decode b_Mo_isArgument 15 = .ok (.getfield 75, 3) := by decide +kernel
theorem d_Mo_isArgument_18 : decode b_Mo_isArgument 18 = .ok (.isub, 1) := by decide +kernel
theorem d_Mo_isArgument_19 : decode b_Mo_isArgument 19 = .ok (.if_icmp .le 7, 3) := by decide +kernel
theorem d_Mo_isArgument_22 : decode b_Mo_isArgument 22 = .ok (.iconst 1, 1) := by decide +kernel
theorem d_Mo_isArgument_23 : decode b_Mo_isArgument 23 = .ok (.goto 4, 3) := by decide +kernel
theorem d_Mo_isArgument_26 : decode b_Mo_isArgument 26 = .ok (.iconst 0, 1) := by decide +kernel
theorem d_Mo_isArgument_27 : decode b_Mo_isArgument 27 = .ok (.ireturn, 1) := by decide +kernel
theorem d_Mo_check_0 : decode b_Mo_check 0 = .ok (.aload_n 0, 1) := by decide +kernel
theorem d_Mo_check_1 : decode b_Mo_check 1 = .ok (.getfield 66, 3) := by decide +kernel
theorem d_Mo_check_4 : decode b_Mo_check 4 = .ok (.ifCond .lt 12, 3) := by decide +kernel
theorem d_Mo_check_7 : decode b_Mo_check 7 = .ok (.aload_n 0, 1) := by decide +kernel
theorem d_Mo_check_8 : decode b_Mo_check 8 = .ok (.getfield 66, 3) := by decide +kernel
theorem d_Mo_check_11 : decode b_Mo_check 11 = .ok (.bipush 64, 2) := by decide +kernel
theorem d_Mo_check_13 : decode b_Mo_check 13 = .ok (.if_icmp .lt 5, 3) := by decide +kernel
theorem d_Mo_check_16 : decode b_Mo_check 16 = .ok (.iconst 4, 1) := by decide +kernel
theorem d_Mo_check_17 : decode b_Mo_check 17 = .ok (.ireturn, 1) := by decide +kernel
theorem d_Mo_check_18 : decode b_Mo_check 18 = .ok (.aload_n 0, 1) := by decide +kernel
theorem d_Mo_check_19 : decode b_Mo_check 19 = .ok (.getfield 7, 3) := by decide +kernel
theorem d_Mo_check_22 : decode b_Mo_check 22 = .ok (.aload_n 0, 1) := by decide +kernel
theorem d_Mo_check_23 : decode b_Mo_check 23 = .ok (.getfield 66, 3) := by decide +kernel
theorem d_Mo_check_26 : decode b_Mo_check 26 = .ok (.iaload, 1) := by decide +kernel
theorem d_Mo_check_27 : decode b_Mo_check 27 = .ok (.bipush 31, 2) := by decide +kernel
theorem d_Mo_check_29 : decode b_Mo_check 29 = .ok (.iand, 1) := by decide +kernel
theorem d_Mo_check_30 : decode b_Mo_check 30 = .ok (.istore_n 1, 1) := by decide +kernel
theorem d_Mo_check_31 : decode b_Mo_check 31 = .ok (.aload_n 0, 1) := by decide +kernel
theorem d_Mo_check_32 : decode b_Mo_check 32 = .ok (.getfield 7, 3) := by decide +kernel
theorem d_Mo_check_35 : decode b_Mo_check 35 = .ok (.aload_n 0, 1) := by decide +kernel
theorem d_Mo_check_36 : decode b_Mo_check 36 = .ok (.getfield 66, 3) := by decide +kernel
theorem d_Mo_check_39 : decode b_Mo_check 39 = .ok (.iaload, 1) := by decide +kernel
theorem d_Mo_check_40 : decode b_Mo_check 40 = .ok (.iconst 5, 1) := by decide +kernel
theorem d_Mo_check_41 : decode b_Mo_check 41 = .ok (.ishr, 1) := by decide +kernel
theorem d_Mo_check_42 : decode b_Mo_check 42 = .ok (.istore_n 2, 1) := by decide +kernel
theorem d_Mo_check_43 : decode b_Mo_check 43 = .ok (.iload_n 1, 1) := by decide +kernel
theorem d_Mo_check_44 : decode b_Mo_check 44 = .ok (.bipush 20, 2) := by decide +kernel
theorem d_Mo_check_46 : decode b_Mo_check 46 = .ok (.if_icmp .le 5, 3) := by decide +kernel
theorem d_Mo_check_49 : decode b_Mo_check 49 = .ok (.iconst 5, 1) := by decide +kernel
theorem d_Mo_check_50 : decode b_Mo_check 50 = .ok (.ireturn, 1) := by decide +kernel
theorem d_Mo_check_51 : decode b_Mo_check 51 = .ok (.iload_n 1, 1) := by decide +kernel
theorem d_Mo_check_52 : decode b_Mo_check 52 = .ok (.ifCond .ne 5, 3) := by decide +kernel
theorem d_Mo_check_55 : decode b_Mo_check 55 = .ok (.iconst 1, 1) := by decide +kernel
theorem d_Mo_check_56 : decode b_Mo_check 56 = .ok (.ireturn, 1) := by decide +kernel
theorem d_Mo_check_57 : decode b_Mo_check 57 = .ok (.aload_n 0, 1) := by decide +kernel
theorem d_Mo_check_58 : decode b_Mo_check 58 = .ok (.getfield 75, 3) := by decide +kernel
theorem d_Mo_check_61 : decode b_Mo_check 61 = .ok (.iload_n 1, 1) := by decide +kernel
theorem d_Mo_check_62 : decode b_Mo_check 62 = .ok (.invokestatic 81, 3) := by decide +kernel
theorem d_Mo_check_65 : decode b_Mo_check 65 = .ok (.if_icmp .lt 42, 3) := by decide +kernel
theorem d_Mo_check_68 : decode b_Mo_check 68 = .ok (.iload_n 1, 1) := by decide +kernel
theorem d_Mo_check_69 : decode b_Mo_check 69 = .ok (.bipush 16, 2) := by decide +kernel
theorem d_Mo_check_71 : decode b_Mo_check 71 = .ok (.if_icmp .ne 22, 3) := by decide +kernel
theorem d_Mo_check_74 : decode b_Mo_check 74 = .ok (.aload_n 0, 1) := by decide +kernel
theorem d_Mo_check_75 : decode b_Mo_check 75 = .ok (.getfield 69, 3) := by decide +kernel
theorem d_Mo_check_78 : decode b_Mo_check 78 = .ok (.iconst 2, 1) := by decide +kernel
theorem d_Mo_check_79 : decode b_Mo_check 79 = .ok (.if_icmp .lt 28, 3) := by decide +kernel
theorem d_Mo_check_82 : decode b_Mo_check 82 = .ok (.aload_n 0, 1) := by decide +kernel
theorem d_Mo_check_83 : decode b_Mo_check 83 = .ok (.getfield 69, 3) := by decide +kernel
theorem d_Mo_check_86 : decode b_Mo_check 86 = .ok (.aload_n 0, 1) := by decide +kernel
theorem d_Mo_check_87 : decode b_Mo_check 87 = .ok (.getfield 75, 3) := by decide +kernel
theorem d_Mo_check_90 : decode b_Mo_check 90 = .ok (.if_icmp .ge 17, 3) := by decide +kernel
theorem d_Mo_check_93 : decode b_Mo_check 93 = .ok (.iload_n 1, 1) := by decide +kernel
theorem d_Mo_check_94 : decode b_Mo_check 94 = .ok (.bipush 17, 2) := by decide +kernel
theorem d_Mo_check_96 : decode b_Mo_check 96 = .ok (.if_icmp .ne 13, 3) := by decide +kernel
theorem d_Mo_check_99 : decode b_Mo_check 99 = .ok (.aload_n 0, 1) := by decide +kernel
theorem d_Mo_check_100 : decode b_Mo_check 100 = .ok (.iload_n 2, 1) := by decide +kernel
theorem d_Mo_check_101 : decode b_Mo_check 101 = .ok (.invokevirtual 85, 3) := by decide +kernel
theorem d_Mo_check_104 : decode b_Mo_check 104 = .ok (.ifCond .ne 5, 3) := by decide +kernel
theorem d_Mo_check_107 : decode b_Mo_check 107 = .ok (.iconst 2, 1) := by decide +kernel
theorem d_Mo_check_108 : decode b_Mo_check 108 = .ok (.ireturn, 1) := by decide +kernel
theorem d_Mo_check_109 : decode b_Mo_check 109 = .ok (.aload_n 0, 1) := by decide +kernel
theorem d_Mo_check_110 : decode b_Mo_check 110 = .ok (.getfield 75, 3) := by decide +kernel
theorem d_Mo_check_113 : decode b_Mo_check 113 = .ok (.ifCond .le 17, 3) := by decide +kernel
theorem d_Mo_check_116 : decode b_Mo_check 116 = .ok (.aload_n 0, 1) := by decide +kernel
theorem d_Mo_check_117 : decode b_Mo_check 117 = .ok (.getfield 26, 3) := by decide +kernel
theorem d_Mo_check_120 : decode b_Mo_check 120 = .ok (.aload_n 0, 1) := by decide +kernel
theorem d_Mo_check_121 : decode b_Mo_check 121 = .ok (.getfield 75, 3) := by decide +kernel
theorem d_Mo_check_124 : decode b_Mo_check 124 = .ok (.iconst 1, 1) := by decide +kernel
theorem d_Mo_check_125 : decode b_Mo_check 125 = .ok (.isub, 1) := by decide +kernel
theorem d_Mo_check_126 : decode b_Mo_check 126 = .ok (.iaload, 1) := by decide +kernel
theorem d_Mo_check_127 : decode b_Mo_check 127 = .ok (.goto 4, 3) := by decide +kernel
theorem d_Mo_check_130 : decode b_Mo_check 130 = .ok (.iconst 0, 1) := by decide +kernel
theorem d_Mo_check_131 : decode b_Mo_check 131 = .ok (.istore_n 3, 1) := by decide +kernel
theorem d_Mo_check_132 : decode b_Mo_check 132 = .ok (.iload_n 1, 1) := by decide +kernel
theorem d_Mo_check_133 : decode b_Mo_check 133 = .ok (.bipush 10, 2) := by decide +kernel
theorem d_Mo_check_135 : decode b_Mo_check 135 = .ok (.if_icmp .eq 9, 3) := by decide +kernel
theorem d_Mo_check_138 : decode b_Mo_check 138 = .ok (.iload_n 1, 1) := by decide +kernel
theorem d_Mo_check_139 : decode b_Mo_check 139 = .ok (.bipush 11, 2) := by decide +kernel
theorem d_Mo_check_141 : decode b_Mo_check 141 = .ok (.if_icmp .ne 15, 3) := by decide +kernel
theorem d_Mo_check_144 : decode b_Mo_check 144 = .ok (.iload_n 3, 1) := by decide +kernel
theorem d_Mo_check_145 : decode b_Mo_check 145 = .ok (.ifCond .lt 9, 3) := by decide +kernel
theorem d_Mo_check_148 : decode b_Mo_check 148 = .ok (.iload_n 3, 1) := by decide +kernel
theorem d_Mo_check_149 : decode b_Mo_check 149 = .ok (.bipush 32, 2) := by decide +kernel
theorem d_Mo_check_151 : decode b_Mo_check 151 = .ok (.if_icmp .lt 5, 3) := by decide +kernel
theorem d_Mo_check_154 : decode b_Mo_check 154 = .ok (.iconst 4, 1) := by decide +kernel
theorem d_Mo_check_155 : decode b_Mo_check 155 = .ok (.ireturn, 1) := by decide +kernel
theorem d_Mo_check_156 : decode b_Mo_check 156 = .ok (.iload_n 1, 1) := by decide +kernel
theorem d_Mo_check_157 : decode b_Mo_check 157 = .ok (.bipush 8, 2) := by decide +kernel
theorem d_Mo_check_159 : decode b_Mo_check 159 = .ok (.if_icmp .ne 7, 3) := by decide +kernel
theorem d_Mo_check_162 : decode b_Mo_check 162 = .ok (.iload_n 3, 1) := by decide +kernel
theorem d_Mo_check_163 : decode b_Mo_check 163 = .ok (.ifCond .eq 14, 3) := by decide +kernel
theorem d_Mo_check_166 : decode b_Mo_check 166 = .ok (.iload_n 1, 1) := by decide +kernel
theorem d_Mo_check_167 : decode b_Mo_check 167 = .ok (.bipush 19, 2) := by decide +kernel
theorem d_Mo_check_169 : decode b_Mo_check 169 = .ok (.if_icmp .ne 11, 3) := by decide +kernel
theorem d_Mo_check_172 : decode b_Mo_check 172 = .ok (.iload_n 2, 1) := by decide +kernel
theorem d_Mo_check_173 : decode b_Mo_check 173 = .ok (.iconst 1, 1) := by decide +kernel
theorem d_Mo_check_174 : decode b_Mo_check 174 = .ok (.if_icmp .ge 6, 3) := by decide +kernel
theorem d_Mo_check_177 : decode b_Mo_check 177 = .ok (.bipush 6, 2) := by decide +kernel
theorem d_Mo_check_179 : decode b_Mo_check 179 = .ok (.ireturn, 1) := by decide +kernel
theorem d_Mo_check_180 : decode b_Mo_check 180 = .ok (.iload_n 1, 1) := by decide +kernel
theorem d_Mo_check_181 : decode b_Mo_check 181 = .ok (.bipush 18, 2) := by decide +kernel
theorem d_Mo_check_183 : decode b_Mo_check 183 = .ok (.if_icmp .ne 17, 3) := by decide +kernel
theorem d_Mo_check_186 : decode b_Mo_check 186 = .ok (.aload_n 0, 1) := by decide +kernel
theorem d_Mo_check_187 : decode b_Mo_check 187 = .ok (.getfield 72, 3) := by decide +kernel
theorem d_Mo_check_190 : decode b_Mo_check 190 = .ok (.aload_n 0, 1) := by decide +kernel
theorem d_Mo_check_191 : decode b_Mo_check 191 = .ok (.getfield 60, 3) := by decide +kernel
theorem d_Mo_check_194 : decode b_Mo_check 194 = .ok (.if_icmp .ne 6, 3) := by decide +kernel
theorem d_Mo_check_197 : decode b_Mo_check 197 = .ok (.bipush 7, 2) := by decide +kernel
theorem d_Mo_check_199 : decode b_Mo_check 199 = .ok (.ireturn, 1) := by decide +kernel
theorem d_Mo_check_200 : decode b_Mo_check 200 = .ok (.aload_n 0, 1) := by decide +kernel
theorem d_Mo_check_201 : decode b_Mo_check 201 = .ok (.getfield 75, 3) := by decide +kernel
theorem d_Mo_check_204 : decode b_Mo_check 204 = .ok (.iload_n 1, 1) := by decide +kernel
theorem d_Mo_check_205 : decode b_Mo_check 205 = .ok (.invokestatic 89, 3) := by decide +kernel
theorem d_Mo_check_208 : decode b_Mo_check 208 = .ok (.iadd, 1) := by decide +kernel
theorem d_Mo_check_209 : decode b_Mo_check 209 = .ok (.bipush 24, 2) := by decide +kernel
theorem d_Mo_check_211 : decode b_Mo_check 211 = .ok (.if_icmp .le 7, 3) := by decide +kernel
theorem d_Mo_check_214 : decode b_Mo_check 214 = .ok (.iconst 3, 1) := by decide +kernel
theorem d_Mo_check_215 : decode b_Mo_check 215 = .ok (.goto 4, 3) := by decide +kernel
theorem d_Mo_check_218 : decode b_Mo_check 218 = .ok (.iconst 0, 1) := by decide +kernel
theorem d_Mo_check_219 : decode b_Mo_check 219 = .ok (.ireturn, 1) := by decide +kernel
theorem d_Mo_push_0 : decode b_Mo_push 0 = .ok (.aload_n 0, 1) := by decide +kernel
theorem d_Mo_push_1 : decode b_Mo_push 1 = .ok (.getfield 26, 3) := by decide +kernel
theorem d_Mo_push_4 : decode b_Mo_push 4 = .ok (.aload_n 0, 1) := by decide +kernel
theorem d_Mo_push_5 : decode b_Mo_push 5 = .ok (.getfield 75, 3) := by decide +kernel
theorem d_Mo_push_8 : decode b_Mo_push 8 = .ok (.iload_n 1, 1) := by decide +kernel
theorem d_Mo_push_9 : decode b_Mo_push 9 = .ok (.iastore, 1) := by decide +kernel
theorem d_Mo_push_10 : decode b_Mo_push 10 = .ok (.aload_n 0, 1) := by decide +kernel
theorem d_Mo_push_11 : decode b_Mo_push 11 = .ok (.dup, 1) := by decide +kernel
theorem d_Mo_push_12 : decode b_Mo_push 12 = .ok (.getfield 75, 3) := by decide +kernel
theorem d_Mo_push_15 : decode b_Mo_push 15 = .ok (.iconst 1, 1) := by decide +kernel
theorem d_Mo_push_16 : decode b_Mo_push 16 = .ok (.iadd, 1) := by decide +kernel
theorem d_Mo_push_17 : decode b_Mo_push 17 = .ok (.putfield 75, 3) := by decide +kernel
theorem d_Mo_push_20 : decode b_Mo_push 20 = .ok (.return_, 1) := by decide +kernel
theorem d_Mo_pop_0 : decode b_Mo_pop 0 = .ok (.aload_n 0, 1) := by decide +kernel
theorem d_Mo_pop_1 : decode b_Mo_pop 1 = .ok (.dup, 1) := by decide +kernel
theorem d_Mo_pop_2 : decode b_Mo_pop 2 = .ok (.getfield 75, 3) := by decide +kernel
theorem d_Mo_pop_5 : decode b_Mo_pop 5 = .ok (.iconst 1, 1) := by decide +kernel
theorem d_Mo_pop_6 : decode b_Mo_pop 6 = .ok (.isub, 1) := by decide +kernel
theorem d_Mo_pop_7 : decode b_Mo_pop 7 = .ok (.putfield 75, 3) := by decide +kernel
theorem d_Mo_pop_10 : decode b_Mo_pop 10 = .ok (.aload_n 0, 1) := by decide +kernel
theorem d_Mo_pop_11 : decode b_Mo_pop 11 = .ok (.getfield 26, 3) := by decide +kernel
theorem d_Mo_pop_14 : decode b_Mo_pop 14 = .ok (.aload_n 0, 1) := by decide +kernel
theorem d_Mo_pop_15 : decode b_Mo_pop 15 = .ok (.getfield 75, 3) := by decide +kernel
theorem d_Mo_pop_18 : decode b_Mo_pop 18 = .ok (.iaload, 1) := by decide +kernel
theorem d_Mo_pop_19 : decode b_Mo_pop 19 = .ok (.ireturn, 1) := by decide +kernel
theorem d_Mo_reckon_0 : decode b_Mo_reckon 0 = .ok (.iload_n 0, 1) := by decide +kernel
theorem d_Mo_reckon_1 : decode b_Mo_reckon 1 = .ok (.tableswitch 47 5 8 #[31, 35, 39, 43], 31) := by decide +kernel
theorem d_Mo_reckon_32 : decode b_Mo_reckon 32 = .ok (.iload_n 1, 1) := by decide +kernel
theorem d_Mo_reckon_33 : decode b_Mo_reckon 33 = .ok (.iload_n 2, 1) := by decide +kernel
theorem d_Mo_reckon_34 : decode b_Mo_reckon 34 = .ok (.iadd, 1) := by decide +kernel
theorem d_Mo_reckon_35 : decode b_Mo_reckon 35 = .ok (.ireturn, 1) := by decide +kernel
theorem d_Mo_reckon_36 : decode b_Mo_reckon 36 = .ok (.iload_n 1, 1) := by decide +kernel
theorem d_Mo_reckon_37 : decode b_Mo_reckon 37 = .ok (.iload_n 2, 1) := by decide +kernel
theorem d_Mo_reckon_38 : decode b_Mo_reckon 38 = .ok (.isub, 1) := by decide +kernel
theorem d_Mo_reckon_39 : decode b_Mo_reckon 39 = .ok (.ireturn, 1) := by decide +kernel
theorem d_Mo_reckon_40 : decode b_Mo_reckon 40 = .ok (.iload_n 1, 1) := by decide +kernel
theorem d_Mo_reckon_41 : decode b_Mo_reckon 41 = .ok (.iload_n 2, 1) := by decide +kernel
theorem d_Mo_reckon_42 : decode b_Mo_reckon 42 = .ok (.imul, 1) := by decide +kernel
theorem d_Mo_reckon_43 : decode b_Mo_reckon 43 = .ok (.ireturn, 1) := by decide +kernel
theorem d_Mo_reckon_44 : decode b_Mo_reckon 44 = .ok (.iload_n 1, 1) := by decide +kernel
theorem d_Mo_reckon_45 : decode b_Mo_reckon 45 = .ok (.iload_n 2, 1) := by decide +kernel
theorem d_Mo_reckon_46 : decode b_Mo_reckon 46 = .ok (.idiv, 1) := by decide +kernel
theorem d_Mo_reckon_47 : decode b_Mo_reckon 47 = .ok (.ireturn, 1) := by decide +kernel
theorem d_Mo_reckon_48 : decode b_Mo_reckon 48 = .ok (.iload_n 1, 1) := by decide +kernel
theorem d_Mo_reckon_49 : decode b_Mo_reckon 49 = .ok (.iload_n 2, 1) := by decide +kernel
theorem d_Mo_reckon_50 : decode b_Mo_reckon 50 = .ok (.if_icmp .ge 7, 3) := by decide +kernel
theorem d_Mo_reckon_53 : decode b_Mo_reckon 53 = .ok (.iconst 1, 1) := by decide +kernel
theorem d_Mo_reckon_54 : decode b_Mo_reckon 54 = .ok (.goto 4, 3) := by decide +kernel
theorem d_Mo_reckon_57 : decode b_Mo_reckon 57 = .ok (.iconst 0, 1) := by decide +kernel
theorem d_Mo_reckon_58 : decode b_Mo_reckon 58 = .ok (.ireturn, 1) := by decide +kernel
theorem d_Mo_branch_0 : decode b_Mo_branch 0 = .ok (.iload_n 1, 1) := by decide +kernel
theorem d_Mo_branch_1 : decode b_Mo_branch 1 = .ok (.bipush 12, 2) := by decide +kernel
theorem d_Mo_branch_3 : decode b_Mo_branch 3 = .ok (.if_icmp .ne 7, 3) := by decide +kernel
theorem d_Mo_branch_6 : decode b_Mo_branch 6 = .ok (.iconst 0, 1) := by decide +kernel
theorem d_Mo_branch_7 : decode b_Mo_branch 7 = .ok (.goto 7, 3) := by decide +kernel
theorem d_Mo_branch_10 : decode b_Mo_branch 10 = .ok (.aload_n 0, 1) := by decide +kernel
theorem d_Mo_branch_11 : decode b_Mo_branch 11 = .ok (.invokevirtual 92, 3) := by decide +kernel
theorem d_Mo_branch_14 : decode b_Mo_branch 14 = .ok (.istore_n 3, 1) := by decide +kernel
theorem d_Mo_branch_15 : decode b_Mo_branch 15 = .ok (.iload_n 1, 1) := by decide +kernel
theorem d_Mo_branch_16 : decode b_Mo_branch 16 = .ok (.bipush 12, 2) := by decide +kernel
theorem d_Mo_branch_18 : decode b_Mo_branch 18 = .ok (.if_icmp .eq 23, 3) := by decide +kernel
theorem d_Mo_branch_21 : decode b_Mo_branch 21 = .ok (.iload_n 1, 1) := by decide +kernel
theorem d_Mo_branch_22 : decode b_Mo_branch 22 = .ok (.bipush 13, 2) := by decide +kernel
theorem d_Mo_branch_24 : decode b_Mo_branch 24 = .ok (.if_icmp .ne 7, 3) := by decide +kernel
theorem d_Mo_branch_27 : decode b_Mo_branch 27 = .ok (.iload_n 3, 1) := by decide +kernel
theorem d_Mo_branch_28 : decode b_Mo_branch 28 = .ok (.ifCond .eq 13, 3) := by decide +kernel
theorem d_Mo_branch_31 : decode b_Mo_branch 31 = .ok (.iload_n 1, 1) := by decide +kernel
theorem d_Mo_branch_32 : decode b_Mo_branch 32 = .ok (.bipush 14, 2) := by decide +kernel
theorem d_Mo_branch_34 : decode b_Mo_branch 34 = .ok (.if_icmp .ne 12, 3) := by decide +kernel
theorem d_Mo_branch_37 : decode b_Mo_branch 37 = .ok (.iload_n 3, 1) := by decide +kernel
theorem d_Mo_branch_38 : decode b_Mo_branch 38 = .ok (.ifCond .ge 8, 3) := by decide +kernel
theorem d_Mo_branch_41 : decode b_Mo_branch 41 = .ok (.aload_n 0, 1) := by decide +kernel
theorem d_Mo_branch_42 : decode b_Mo_branch 42 = .ok (.iload_n 2, 1) := by decide +kernel
theorem d_Mo_branch_43 : decode b_Mo_branch 43 = .ok (.putfield 66, 3) := by decide +kernel
theorem d_Mo_branch_46 : decode b_Mo_branch 46 = .ok (.return_, 1) := by decide +kernel
theorem d_Mo_giveBack_0 : decode b_Mo_giveBack 0 = .ok (.aload_n 0, 1) := by decide +kernel
theorem d_Mo_giveBack_1 : decode b_Mo_giveBack 1 = .ok (.getfield 26, 3) := by decide +kernel
theorem d_Mo_giveBack_4 : decode b_Mo_giveBack 4 = .ok (.aload_n 0, 1) := by decide +kernel
theorem d_Mo_giveBack_5 : decode b_Mo_giveBack 5 = .ok (.getfield 75, 3) := by decide +kernel
theorem d_Mo_giveBack_8 : decode b_Mo_giveBack 8 = .ok (.iconst 1, 1) := by decide +kernel
theorem d_Mo_giveBack_9 : decode b_Mo_giveBack 9 = .ok (.isub, 1) := by decide +kernel
theorem d_Mo_giveBack_10 : decode b_Mo_giveBack 10 = .ok (.iaload, 1) := by decide +kernel
theorem d_Mo_giveBack_11 : decode b_Mo_giveBack 11 = .ok (.istore_n 1, 1) := by decide +kernel
theorem d_Mo_giveBack_12 : decode b_Mo_giveBack 12 = .ok (.aload_n 0, 1) := by decide +kernel
theorem d_Mo_giveBack_13 : decode b_Mo_giveBack 13 = .ok (.aload_n 0, 1) := by decide +kernel
theorem d_Mo_giveBack_14 : decode b_Mo_giveBack 14 = .ok (.getfield 69, 3) := by decide +kernel
theorem d_Mo_giveBack_17 : decode b_Mo_giveBack 17 = .ok (.putfield 75, 3) := by decide +kernel
theorem d_Mo_giveBack_20 : decode b_Mo_giveBack 20 = .ok (.aload_n 0, 1) := by decide +kernel
theorem d_Mo_giveBack_21 : decode b_Mo_giveBack 21 = .ok (.aload_n 0, 1) := by decide +kernel
theorem d_Mo_giveBack_22 : decode b_Mo_giveBack 22 = .ok (.invokevirtual 92, 3) := by decide +kernel
theorem d_Mo_giveBack_25 : decode b_Mo_giveBack 25 = .ok (.putfield 69, 3) := by decide +kernel
theorem d_Mo_giveBack_28 : decode b_Mo_giveBack 28 = .ok (.aload_n 0, 1) := by decide +kernel
theorem d_Mo_giveBack_29 : decode b_Mo_giveBack 29 = .ok (.aload_n 0, 1) := by decide +kernel
theorem d_Mo_giveBack_30 : decode b_Mo_giveBack 30 = .ok (.invokevirtual 92, 3) := by decide +kernel
theorem d_Mo_giveBack_33 : decode b_Mo_giveBack 33 = .ok (.putfield 66, 3) := by decide +kernel
theorem d_Mo_giveBack_36 : decode b_Mo_giveBack 36 = .ok (.aload_n 0, 1) := by decide +kernel
theorem d_Mo_giveBack_37 : decode b_Mo_giveBack 37 = .ok (.iload_n 1, 1) := by decide +kernel
theorem d_Mo_giveBack_38 : decode b_Mo_giveBack 38 = .ok (.invokevirtual 96, 3) := by decide +kernel
theorem d_Mo_giveBack_41 : decode b_Mo_giveBack 41 = .ok (.return_, 1) := by decide +kernel
theorem d_Mo_call_0 : decode b_Mo_call 0 = .ok (.aload_n 0, 1) := by decide +kernel
theorem d_Mo_call_1 : decode b_Mo_call 1 = .ok (.aload_n 0, 1) := by decide +kernel
theorem d_Mo_call_2 : decode b_Mo_call 2 = .ok (.getfield 66, 3) := by decide +kernel
theorem d_Mo_call_5 : decode b_Mo_call 5 = .ok (.invokevirtual 96, 3) := by decide +kernel
theorem d_Mo_call_8 : decode b_Mo_call 8 = .ok (.aload_n 0, 1) := by decide +kernel
theorem d_Mo_call_9 : decode b_Mo_call 9 = .ok (.aload_n 0, 1) := by decide +kernel
theorem d_Mo_call_10 : decode b_Mo_call 10 = .ok (.getfield 69, 3) := by decide +kernel
theorem d_Mo_call_13 : decode b_Mo_call 13 = .ok (.invokevirtual 96, 3) := by decide +kernel
theorem d_Mo_call_16 : decode b_Mo_call 16 = .ok (.aload_n 0, 1) := by decide +kernel
theorem d_Mo_call_17 : decode b_Mo_call 17 = .ok (.aload_n 0, 1) := by decide +kernel
theorem d_Mo_call_18 : decode b_Mo_call 18 = .ok (.getfield 75, 3) := by decide +kernel
theorem d_Mo_call_21 : decode b_Mo_call 21 = .ok (.putfield 69, 3) := by decide +kernel
theorem d_Mo_call_24 : decode b_Mo_call 24 = .ok (.aload_n 0, 1) := by decide +kernel
theorem d_Mo_call_25 : decode b_Mo_call 25 = .ok (.iload_n 1, 1) := by decide +kernel
theorem d_Mo_call_26 : decode b_Mo_call 26 = .ok (.putfield 66, 3) := by decide +kernel
theorem d_Mo_call_29 : decode b_Mo_call 29 = .ok (.return_, 1) := by decide +kernel
theorem d_Mo_draw_0 : decode b_Mo_draw 0 = .ok (.aload_n 0, 1) := by decide +kernel
theorem d_Mo_draw_1 : decode b_Mo_draw 1 = .ok (.ldc 100, 2) := by decide +kernel
theorem d_Mo_draw_3 : decode b_Mo_draw 3 = .ok (.aload_n 0, 1) := by decide +kernel
theorem d_Mo_draw_4 : decode b_Mo_draw 4 = .ok (.getfield 45, 3) := by decide +kernel
theorem d_Mo_draw_7 : decode b_Mo_draw 7 = .ok (.imul, 1) := by decide +kernel
theorem d_Mo_draw_8 : decode b_Mo_draw 8 = .ok (.sipush 12345, 3) := by decide +kernel
theorem d_Mo_draw_11 : decode b_Mo_draw 11 = .ok (.iadd, 1) := by decide +kernel
theorem d_Mo_draw_12 : decode b_Mo_draw 12 = .ok (.putfield 45, 3) := by decide +kernel
theorem d_Mo_draw_15 : decode b_Mo_draw 15 = .ok (.aload_n 0, 1) := by decide +kernel
theorem d_Mo_draw_16 : decode b_Mo_draw 16 = .ok (.getfield 45, 3) := by decide +kernel
theorem d_Mo_draw_19 : decode b_Mo_draw 19 = .ok (.bipush 16, 2) := by decide +kernel
theorem d_Mo_draw_21 : decode b_Mo_draw 21 = .ok (.ishr, 1) := by decide +kernel
theorem d_Mo_draw_22 : decode b_Mo_draw 22 = .ok (.ldc 101, 2) := by decide +kernel
theorem d_Mo_draw_24 : decode b_Mo_draw 24 = .ok (.iand, 1) := by decide +kernel
theorem d_Mo_draw_25 : decode b_Mo_draw 25 = .ok (.iload_n 1, 1) := by decide +kernel
theorem d_Mo_draw_26 : decode b_Mo_draw 26 = .ok (.irem, 1) := by decide +kernel
theorem d_Mo_draw_27 : decode b_Mo_draw 27 = .ok (.ireturn, 1) := by decide +kernel
theorem d_Mo_perform_0 : decode b_Mo_perform 0 = .ok (.aload_n 0, 1) := by decide +kernel
theorem d_Mo_perform_1 : decode b_Mo_perform 1 = .ok (.getfield 7, 3) := by decide +kernel
theorem d_Mo_perform_4 : decode b_Mo_perform 4 = .ok (.aload_n 0, 1) := by decide +kernel
theorem d_Mo_perform_5 : decode b_Mo_perform 5 = .ok (.getfield 66, 3) := by decide +kernel
theorem d_Mo_perform_8 : decode b_Mo_perform 8 = .ok (.iaload, 1) := by decide +kernel
theorem d_Mo_perform_9 : decode b_Mo_perform 9 = .ok (.bipush 31, 2) := by decide +kernel
theorem d_Mo_perform_11 : decode b_Mo_perform 11 = .ok (.iand, 1) := by decide +kernel
theorem d_Mo_perform_12 : decode b_Mo_perform 12 = .ok (.istore_n 1, 1) := by decide +kernel
theorem d_Mo_perform_13 : decode b_Mo_perform 13 = .ok (.aload_n 0, 1) := by decide +kernel
theorem d_Mo_perform_14 : decode b_Mo_perform 14 = .ok (.getfield 7, 3) := by decide +kernel
theorem d_Mo_perform_17 : decode b_Mo_perform 17 = .ok (.aload_n 0, 1) := by decide +kernel
theorem d_Mo_perform_18 : decode b_Mo_perform 18 = .ok (.getfield 66, 3) := by decide +kernel
theorem d_Mo_perform_21 : decode b_Mo_perform 21 = .ok (.iaload, 1) := by decide +kernel
theorem d_Mo_perform_22 : decode b_Mo_perform 22 = .ok (.iconst 5, 1) := by decide +kernel
theorem d_Mo_perform_23 : decode b_Mo_perform 23 = .ok (.ishr, 1) := by decide +kernel
theorem d_Mo_perform_24 : decode b_Mo_perform 24 = .ok (.istore_n 2, 1) := by decide +kernel
theorem d_Mo_perform_25 : decode b_Mo_perform 25 = .ok (.aload_n 0, 1) := by decide +kernel
theorem d_Mo_perform_26 : decode b_Mo_perform 26 = .ok (.dup, 1) := by decide +kernel
theorem d_Mo_perform_27 : decode b_Mo_perform 27 = .ok (.getfield 66, 3) := by decide +kernel
theorem d_Mo_perform_30 : decode b_Mo_perform 30 = .ok (.iconst 1, 1) := by decide +kernel
theorem d_Mo_perform_31 : decode b_Mo_perform 31 = .ok (.iadd, 1) := by decide +kernel
theorem d_Mo_perform_32 : decode b_Mo_perform 32 = .ok (.putfield 66, 3) := by decide +kernel
theorem d_Mo_perform_35 : decode b_Mo_perform 35 = .ok (.aload_n 0, 1) := by decide +kernel
theorem d_Mo_perform_36 : decode b_Mo_perform 36 = .ok (.dup, 1) := by decide +kernel
theorem d_Mo_perform_37 : decode b_Mo_perform 37 = .ok (.getfield 63, 3) := by decide +kernel
theorem d_Mo_perform_40 : decode b_Mo_perform 40 = .ok (.iconst 1, 1) := by decide +kernel
theorem d_Mo_perform_41 : decode b_Mo_perform 41 = .ok (.iadd, 1) := by decide +kernel
theorem d_Mo_perform_42 : decode b_Mo_perform 42 = .ok (.putfield 63, 3) := by decide +kernel
theorem d_Mo_perform_45 : decode b_Mo_perform 45 = .ok (.iload_n 1, 1) := by decide +kernel
theorem d_Mo_perform_46 : decode b_Mo_perform 46 = .ok (.tableswitch 311 1 20 #[94, 102, 115, 133, 311, 311, 311, 311, 311, 182, 198, 216, 216, 216, 225, 233, 240, 260, 288, 300], 94) := by decide +kernel
theorem d_Mo_perform_140 : decode b_Mo_perform 140 = .ok (.aload_n 0, 1) := by decide +kernel
theorem d_Mo_perform_141 : decode b_Mo_perform 141 = .ok (.iload_n 2, 1) := by decide +kernel
theorem d_Mo_perform_142 : decode b_Mo_perform 142 = .ok (.invokevirtual 96, 3) := by decide +kernel
theorem d_Mo_perform_145 : decode b_Mo_perform 145 = .ok (.goto 230, 3) := by decide +kernel
theorem d_Mo_perform_148 : decode b_Mo_perform 148 = .ok (.aload_n 0, 1) := by decide +kernel
theorem d_Mo_perform_149 : decode b_Mo_perform 149 = .ok (.dup, 1) := by decide +kernel
theorem d_Mo_perform_150 : decode b_Mo_perform 150 = .ok (.getfield 75, 3) := by decide +kernel
theorem d_Mo_perform_153 : decode b_Mo_perform 153 = .ok (.iconst 1, 1) := by decide +kernel
theorem d_Mo_perform_154 : decode b_Mo_perform 154 = .ok (.isub, 1) := by decide +kernel
theorem d_Mo_perform_155 : decode b_Mo_perform 155 = .ok (.putfield 75, 3) := by decide +kernel
theorem d_Mo_perform_158 : decode b_Mo_perform 158 = .ok (.goto 217, 3) := by decide +kernel
theorem d_Mo_perform_161 : decode b_Mo_perform 161 = .ok (.aload_n 0, 1) := by decide +kernel
theorem d_Mo_perform_162 : decode b_Mo_perform 162 = .ok (.aload_n 0, 1) := by decide +kernel
theorem d_Mo_perform_163 : decode b_Mo_perform 163 = .ok (.getfield 26, 3) := by decide +kernel
theorem d_Mo_perform_166 : decode b_Mo_perform 166 = .ok (.aload_n 0, 1) := by decide +kernel
theorem d_Mo_perform_167 : decode b_Mo_perform 167 = .ok (.getfield 75, 3) := by decide +kernel
theorem d_Mo_perform_170 : decode b_Mo_perform 170 = .ok (.iconst 1, 1) := by decide +kernel
theorem d_Mo_perform_171 : decode b_Mo_perform 171 = .ok (.isub, 1) := by decide +kernel
theorem d_Mo_perform_172 : decode b_Mo_perform 172 = .ok (.iaload, 1) := by decide +kernel
theorem d_Mo_perform_173 : decode b_Mo_perform 173 = .ok (.invokevirtual 96, 3) := by decide +kernel
theorem d_Mo_perform_176 : decode b_Mo_perform 176 = .ok (.goto 199, 3) := by decide +kernel
theorem d_Mo_perform_179 : decode b_Mo_perform 179 = .ok (.aload_n 0, 1) := by decide +kernel
theorem d_Mo_perform_180 : decode b_Mo_perform 180 = .ok (.getfield 26, 3) := by decide +kernel
theorem d_Mo_perform_183 : decode b_Mo_perform 183 = .ok (.aload_n 0, 1) := by decide +kernel
theorem d_Mo_perform_184 : decode b_Mo_perform 184 = .ok (.getfield 75, 3) := by decide +kernel
theorem d_Mo_perform_187 : decode b_Mo_perform 187 = .ok (.iconst 1, 1) := by decide +kernel
theorem d_Mo_perform_188 : decode b_Mo_perform 188 = .ok (.isub, 1) := by decide +kernel
theorem d_Mo_perform_189 : decode b_Mo_perform 189 = .ok (.iaload, 1) := by decide +kernel
theorem d_Mo_perform_190 : decode b_Mo_perform 190 = .ok (.istore_n 3, 1) := by decide +kernel
theorem d_Mo_perform_191 : decode b_Mo_perform 191 = .ok (.aload_n 0, 1) := by decide +kernel
theorem d_Mo_perform_192 : decode b_Mo_perform 192 = .ok (.getfield 26, 3) := by decide +kernel
theorem d_Mo_perform_195 : decode b_Mo_perform 195 = .ok (.aload_n 0, 1) := by decide +kernel
theorem d_Mo_perform_196 : decode b_Mo_perform 196 = .ok (.getfield 75, 3) := by decide +kernel
theorem d_Mo_perform_199 : decode b_Mo_perform 199 = .ok (.iconst 1, 1) := by decide +kernel
theorem d_Mo_perform_200 : decode b_Mo_perform 200 = .ok (.isub, 1) := by decide +kernel
theorem d_Mo_perform_201 : decode b_Mo_perform 201 = .ok (.aload_n 0, 1) := by decide +kernel
theorem d_Mo_perform_202 : decode b_Mo_perform 202 = .ok (.getfield 26, 3) := by decide +kernel
theorem d_Mo_perform_205 : decode b_Mo_perform 205 = .ok (.aload_n 0, 1) := by decide +kernel
theorem d_Mo_perform_206 : decode b_Mo_perform 206 = .ok (.getfield 75, 3) := by decide +kernel
theorem d_Mo_perform_209 : decode b_Mo_perform 209 = .ok (.iconst 2, 1) := by decide +kernel
theorem d_Mo_perform_210 : decode b_Mo_perform 210 = .ok (.isub, 1) := by decide +kernel
theorem d_Mo_perform_211 : decode b_Mo_perform 211 = .ok (.iaload, 1) := by decide +kernel
theorem d_Mo_perform_212 : decode b_Mo_perform 212 = .ok (.iastore, 1) := by decide +kernel
theorem d_Mo_perform_213 : decode b_Mo_perform 213 = .ok (.aload_n 0, 1) := by decide +kernel
theorem d_Mo_perform_214 : decode b_Mo_perform 214 = .ok (.getfield 26, 3) := by decide +kernel
theorem d_Mo_perform_217 : decode b_Mo_perform 217 = .ok (.aload_n 0, 1) := by decide +kernel
theorem d_Mo_perform_218 : decode b_Mo_perform 218 = .ok (.getfield 75, 3) := by decide +kernel
theorem d_Mo_perform_221 : decode b_Mo_perform 221 = .ok (.iconst 2, 1) := by decide +kernel
theorem d_Mo_perform_222 : decode b_Mo_perform 222 = .ok (.isub, 1) := by decide +kernel
theorem d_Mo_perform_223 : decode b_Mo_perform 223 = .ok (.iload_n 3, 1) := by decide +kernel
theorem d_Mo_perform_224 : decode b_Mo_perform 224 = .ok (.iastore, 1) := by decide +kernel
theorem d_Mo_perform_225 : decode b_Mo_perform 225 = .ok (.goto 150, 3) := by decide +kernel
theorem d_Mo_perform_228 : decode b_Mo_perform 228 = .ok (.aload_n 0, 1) := by decide +kernel
theorem d_Mo_perform_229 : decode b_Mo_perform 229 = .ok (.aload_n 0, 1) := by decide +kernel
theorem d_Mo_perform_230 : decode b_Mo_perform 230 = .ok (.getfield 23, 3) := by decide +kernel
theorem d_Mo_perform_233 : decode b_Mo_perform 233 = .ok (.aload_n 0, 1) := by decide +kernel
theorem d_Mo_perform_234 : decode b_Mo_perform 234 = .ok (.invokevirtual 92, 3) := by decide +kernel
theorem d_Mo_perform_237 : decode b_Mo_perform 237 = .ok (.iaload, 1) := by decide +kernel
theorem d_Mo_perform_238 : decode b_Mo_perform 238 = .ok (.invokevirtual 96, 3) := by decide +kernel
theorem d_Mo_perform_241 : decode b_Mo_perform 241 = .ok (.goto 134, 3) := by decide +kernel
theorem d_Mo_perform_244 : decode b_Mo_perform 244 = .ok (.aload_n 0, 1) := by decide +kernel
theorem d_Mo_perform_245 : decode b_Mo_perform 245 = .ok (.invokevirtual 92, 3) := by decide +kernel
theorem d_Mo_perform_248 : decode b_Mo_perform 248 = .ok (.istore_n 3, 1) := by decide +kernel
theorem d_Mo_perform_249 : decode b_Mo_perform 249 = .ok (.aload_n 0, 1) := by decide +kernel
theorem d_Mo_perform_250 : decode b_Mo_perform 250 = .ok (.getfield 23, 3) := by decide +kernel
theorem d_Mo_perform_253 : decode b_Mo_perform 253 = .ok (.iload_n 3, 1) := by decide +kernel
theorem d_Mo_perform_254 : decode b_Mo_perform 254 = .ok (.aload_n 0, 1) := by decide +kernel
theorem d_Mo_perform_255 : decode b_Mo_perform 255 = .ok (.invokevirtual 92, 3) := by decide +kernel
theorem d_Mo_perform_258 : decode b_Mo_perform 258 = .ok (.iastore, 1) := by decide +kernel
theorem d_Mo_perform_259 : decode b_Mo_perform 259 = .ok (.goto 116, 3) := by decide +kernel
theorem d_Mo_perform_262 : decode b_Mo_perform 262 = .ok (.aload_n 0, 1) := by decide +kernel
theorem d_Mo_perform_263 : decode b_Mo_perform 263 = .ok (.iload_n 1, 1) := by decide +kernel
theorem d_Mo_perform_264 : decode b_Mo_perform 264 = .ok (.iload_n 2, 1) := by decide +kernel
theorem d_Mo_perform_265 : decode b_Mo_perform 265 = .ok (.invokevirtual 102, 3) := by decide +kernel
theorem d_Mo_perform_268 : decode b_Mo_perform 268 = .ok (.goto 107, 3) := by decide +kernel
theorem d_Mo_perform_271 : decode b_Mo_perform 271 = .ok (.aload_n 0, 1) := by decide +kernel
theorem d_Mo_perform_272 : decode b_Mo_perform 272 = .ok (.iload_n 2, 1) := by decide +kernel
theorem d_Mo_perform_273 : decode b_Mo_perform 273 = .ok (.invokevirtual 106, 3) := by decide +kernel
theorem d_Mo_perform_276 : decode b_Mo_perform 276 = .ok (.goto 99, 3) := by decide +kernel
theorem d_Mo_perform_279 : decode b_Mo_perform 279 = .ok (.aload_n 0, 1) := by decide +kernel
theorem d_Mo_perform_280 : decode b_Mo_perform 280 = .ok (.invokevirtual 109, 3) := by decide +kernel
theorem d_Mo_perform_283 : decode b_Mo_perform 283 = .ok (.goto 92, 3) := by decide +kernel
theorem d_Mo_perform_286 : decode b_Mo_perform 286 = .ok (.aload_n 0, 1) := by decide +kernel
theorem d_Mo_perform_287 : decode b_Mo_perform 287 = .ok (.aload_n 0, 1) := by decide +kernel
theorem d_Mo_perform_288 : decode b_Mo_perform 288 = .ok (.getfield 26, 3) := by decide +kernel
theorem d_Mo_perform_291 : decode b_Mo_perform 291 = .ok (.aload_n 0, 1) := by decide +kernel
theorem d_Mo_perform_292 : decode b_Mo_perform 292 = .ok (.getfield 69, 3) := by decide +kernel
theorem d_Mo_perform_295 : decode b_Mo_perform 295 = .ok (.iconst 3, 1) := by decide +kernel
theorem d_Mo_perform_296 : decode b_Mo_perform 296 = .ok (.isub, 1) := by decide +kernel
theorem d_Mo_perform_297 : decode b_Mo_perform 297 = .ok (.iload_n 2, 1) := by decide +kernel
theorem d_Mo_perform_298 : decode b_Mo_perform 298 = .ok (.isub, 1) := by decide +kernel
theorem d_Mo_perform_299 : decode b_Mo_perform 299 = .ok (.iaload, 1) := by decide +kernel
theorem d_Mo_perform_300 : decode b_Mo_perform 300 = .ok (.invokevirtual 96, 3) := by decide +kernel
theorem d_Mo_perform_303 : decode b_Mo_perform 303 = .ok (.goto 72, 3) := by decide +kernel
theorem d_Mo_perform_306 : decode b_Mo_perform 306 = .ok (.aload_n 0, 1) := by decide +kernel
theorem d_Mo_perform_307 : decode b_Mo_perform 307 = .ok (.dup, 1) := by decide +kernel
theorem d_Mo_perform_308 : decode b_Mo_perform 308 = .ok (.getfield 72, 3) := by decide +kernel
theorem d_Mo_perform_311 : decode b_Mo_perform 311 = .ok (.iconst 1, 1) := by decide +kernel
theorem d_Mo_perform_312 : decode b_Mo_perform 312 = .ok (.iadd, 1) := by decide +kernel
theorem d_Mo_perform_313 : decode b_Mo_perform 313 = .ok (.putfield 72, 3) := by decide +kernel
theorem d_Mo_perform_316 : decode b_Mo_perform 316 = .ok (.aload_n 0, 1) := by decide +kernel
theorem d_Mo_perform_317 : decode b_Mo_perform 317 = .ok (.aload_n 0, 1) := by decide +kernel
theorem d_Mo_perform_318 : decode b_Mo_perform 318 = .ok (.getfield 13, 3) := by decide +kernel
theorem d_Mo_perform_321 : decode b_Mo_perform 321 = .ok (.aload_n 0, 1) := by decide +kernel
theorem d_Mo_perform_322 : decode b_Mo_perform 322 = .ok (.getfield 72, 3) := by decide +kernel
theorem d_Mo_perform_325 : decode b_Mo_perform 325 = .ok (.iconst 1, 1) := by decide +kernel
theorem d_Mo_perform_326 : decode b_Mo_perform 326 = .ok (.isub, 1) := by decide +kernel
theorem d_Mo_perform_327 : decode b_Mo_perform 327 = .ok (.iaload, 1) := by decide +kernel
theorem d_Mo_perform_328 : decode b_Mo_perform 328 = .ok (.invokevirtual 96, 3) := by decide +kernel
theorem d_Mo_perform_331 : decode b_Mo_perform 331 = .ok (.goto 44, 3) := by decide +kernel
theorem d_Mo_perform_334 : decode b_Mo_perform 334 = .ok (.aload_n 0, 1) := by decide +kernel
theorem d_Mo_perform_335 : decode b_Mo_perform 335 = .ok (.aload_n 0, 1) := by decide +kernel
theorem d_Mo_perform_336 : decode b_Mo_perform 336 = .ok (.iload_n 2, 1) := by decide +kernel
theorem d_Mo_perform_337 : decode b_Mo_perform 337 = .ok (.invokevirtual 112, 3) := by decide +kernel
theorem d_Mo_perform_340 : decode b_Mo_perform 340 = .ok (.invokevirtual 96, 3) := by decide +kernel
theorem d_Mo_perform_343 : decode b_Mo_perform 343 = .ok (.goto 32, 3) := by decide +kernel
theorem d_Mo_perform_346 : decode b_Mo_perform 346 = .ok (.aload_n 0, 1) := by decide +kernel
theorem d_Mo_perform_347 : decode b_Mo_perform 347 = .ok (.aload_n 0, 1) := by decide +kernel
theorem d_Mo_perform_348 : decode b_Mo_perform 348 = .ok (.getfield 69, 3) := by decide +kernel
theorem d_Mo_perform_351 : decode b_Mo_perform 351 = .ok (.invokevirtual 96, 3) := by decide +kernel
theorem d_Mo_perform_354 : decode b_Mo_perform 354 = .ok (.goto 21, 3) := by decide +kernel
theorem d_Mo_perform_357 : decode b_Mo_perform 357 = .ok (.aload_n 0, 1) := by decide +kernel
theorem d_Mo_perform_358 : decode b_Mo_perform 358 = .ok (.invokevirtual 92, 3) := by decide +kernel
theorem d_Mo_perform_361 : decode b_Mo_perform 361 = .ok (.istore_n 3, 1) := by decide +kernel
theorem d_Mo_perform_362 : decode b_Mo_perform 362 = .ok (.aload_n 0, 1) := by decide +kernel
theorem d_Mo_perform_363 : decode b_Mo_perform 363 = .ok (.iload_n 1, 1) := by decide +kernel
theorem d_Mo_perform_364 : decode b_Mo_perform 364 = .ok (.aload_n 0, 1) := by decide +kernel
theorem d_Mo_perform_365 : decode b_Mo_perform 365 = .ok (.invokevirtual 92, 3) := by decide +kernel
theorem d_Mo_perform_368 : decode b_Mo_perform 368 = .ok (.iload_n 3, 1) := by decide +kernel
theorem d_Mo_perform_369 : decode b_Mo_perform 369 = .ok (.invokestatic 115, 3) := by decide +kernel
theorem d_Mo_perform_372 : decode b_Mo_perform 372 = .ok (.invokevirtual 96, 3) := by decide +kernel
theorem d_Mo_perform_375 : decode b_Mo_perform 375 = .ok (.return_, 1) := by decide +kernel
theorem d_Mo_advance_0 : decode b_Mo_advance 0 = .ok (.aload_n 0, 1) := by decide +kernel
theorem d_Mo_advance_1 : decode b_Mo_advance 1 = .ok (.invokevirtual 119, 3) := by decide +kernel
theorem d_Mo_advance_4 : decode b_Mo_advance 4 = .ok (.istore_n 1, 1) := by decide +kernel
theorem d_Mo_advance_5 : decode b_Mo_advance 5 = .ok (.iload_n 1, 1) := by decide +kernel
theorem d_Mo_advance_6 : decode b_Mo_advance 6 = .ok (.ifCond .eq 5, 3) := by decide +kernel
theorem d_Mo_advance_9 : decode b_Mo_advance 9 = .ok (.iload_n 1, 1) := by decide +kernel
theorem d_Mo_advance_10 : decode b_Mo_advance 10 = .ok (.ireturn, 1) := by decide +kernel
theorem d_Mo_advance_11 : decode b_Mo_advance 11 = .ok (.aload_n 0, 1) := by decide +kernel
theorem d_Mo_advance_12 : decode b_Mo_advance 12 = .ok (.getfield 63, 3) := by decide +kernel
theorem d_Mo_advance_15 : decode b_Mo_advance 15 = .ok (.sipush 3000, 3) := by decide +kernel
theorem d_Mo_advance_18 : decode b_Mo_advance 18 = .ok (.if_icmp .ne 6, 3) := by decide +kernel
theorem d_Mo_advance_21 : decode b_Mo_advance 21 = .ok (.bipush 8, 2) := by decide +kernel
theorem d_Mo_advance_23 : decode b_Mo_advance 23 = .ok (.ireturn, 1) := by decide +kernel
theorem d_Mo_advance_24 : decode b_Mo_advance 24 = .ok (.aload_n 0, 1) := by decide +kernel
theorem d_Mo_advance_25 : decode b_Mo_advance 25 = .ok (.invokevirtual 78, 3) := by decide +kernel
theorem d_Mo_advance_28 : decode b_Mo_advance 28 = .ok (.aload_n 0, 1) := by decide +kernel
theorem d_Mo_advance_29 : decode b_Mo_advance 29 = .ok (.aload_n 0, 1) := by decide +kernel
theorem d_Mo_advance_30 : decode b_Mo_advance 30 = .ok (.getfield 122, 3) := by decide +kernel
theorem d_Mo_advance_33 : decode b_Mo_advance 33 = .ok (.bipush 32, 2) := by decide +kernel
theorem d_Mo_advance_35 : decode b_Mo_advance 35 = .ok (.if_icmp .ge 12, 3) := by decide +kernel
theorem d_Mo_advance_38 : decode b_Mo_advance 38 = .ok (.aload_n 0, 1) := by decide +kernel
theorem d_Mo_advance_39 : decode b_Mo_advance 39 = .ok (.getfield 122, 3) := by decide +kernel
theorem d_Mo_advance_42 : decode b_Mo_advance 42 = .ok (.iconst 1, 1) := by decide +kernel
theorem d_Mo_advance_43 : decode b_Mo_advance 43 = .ok (.iadd, 1) := by decide +kernel
theorem d_Mo_advance_44 : decode b_Mo_advance 44 = .ok (.goto 5, 3) := by decide +kernel
theorem d_Mo_advance_47 : decode b_Mo_advance 47 = .ok (.bipush 32, 2) := by decide +kernel
theorem d_Mo_advance_49 : decode b_Mo_advance 49 = .ok (.putfield 122, 3) := by decide +kernel
theorem d_Mo_advance_52 : decode b_Mo_advance 52 = .ok (.aload_n 0, 1) := by decide +kernel
theorem d_Mo_advance_53 : decode b_Mo_advance 53 = .ok (.getfield 63, 3) := by decide +kernel
theorem d_Mo_advance_56 : decode b_Mo_advance 56 = .ok (.aload_n 0, 1) := by decide +kernel
theorem d_Mo_advance_57 : decode b_Mo_advance 57 = .ok (.getfield 57, 3) := by decide +kernel
theorem d_Mo_advance_60 : decode b_Mo_advance 60 = .ok (.if_icmp .le 7, 3) := by decide +kernel
theorem d_Mo_advance_63 : decode b_Mo_advance 63 = .ok (.aload_n 0, 1) := by decide +kernel
theorem d_Mo_advance_64 : decode b_Mo_advance 64 = .ok (.invokevirtual 125, 3) := by decide +kernel
theorem d_Mo_advance_67 : decode b_Mo_advance 67 = .ok (.iconst 0, 1) := by decide +kernel
theorem d_Mo_advance_68 : decode b_Mo_advance 68 = .ok (.ireturn, 1) := by decide +kernel
theorem d_Mo_grow_0 : decode b_Mo_grow 0 = .ok (.aload_n 0, 1) := by decide +kernel
theorem d_Mo_grow_1 : decode b_Mo_grow 1 = .ok (.aload_n 0, 1) := by decide +kernel
theorem d_Mo_grow_2 : decode b_Mo_grow 2 = .ok (.getfield 63, 3) := by decide +kernel
theorem d_Mo_grow_5 : decode b_Mo_grow 5 = .ok (.putfield 57, 3) := by decide +kernel
theorem d_Mo_grow_8 : decode b_Mo_grow 8 = .ok (.aload_n 0, 1) := by decide +kernel
theorem d_Mo_grow_9 : decode b_Mo_grow 9 = .ok (.getfield 63, 3) := by decide +kernel
theorem d_Mo_grow_12 : decode b_Mo_grow 12 = .ok (.sipush 250, 3) := by decide +kernel
theorem d_Mo_grow_15 : decode b_Mo_grow 15 = .ok (.irem, 1) := by decide +kernel
theorem d_Mo_grow_16 : decode b_Mo_grow 16 = .ok (.ifCond .ne 7, 3) := by decide +kernel
theorem d_Mo_grow_19 : decode b_Mo_grow 19 = .ok (.aload_n 0, 1) := by decide +kernel
theorem d_Mo_grow_20 : decode b_Mo_grow 20 = .ok (.invokevirtual 48, 3) := by decide +kernel
theorem d_Mo_grow_23 : decode b_Mo_grow 23 = .ok (.aload_n 0, 1) := by decide +kernel
theorem d_Mo_grow_24 : decode b_Mo_grow 24 = .ok (.getfield 63, 3) := by decide +kernel
theorem d_Mo_grow_27 : decode b_Mo_grow 27 = .ok (.aload_n 0, 1) := by decide +kernel
theorem d_Mo_grow_28 : decode b_Mo_grow 28 = .ok (.getfield 38, 3) := by decide +kernel
theorem d_Mo_grow_31 : decode b_Mo_grow 31 = .ok (.irem, 1) := by decide +kernel
theorem d_Mo_grow_32 : decode b_Mo_grow 32 = .ok (.ifCond .eq 4, 3) := by decide +kernel
theorem d_Mo_grow_35 : decode b_Mo_grow 35 = .ok (.return_, 1) := by decide +kernel
theorem d_Mo_grow_36 : decode b_Mo_grow 36 = .ok (.aload_n 0, 1) := by decide +kernel
theorem d_Mo_grow_37 : decode b_Mo_grow 37 = .ok (.getfield 42, 3) := by decide +kernel
theorem d_Mo_grow_40 : decode b_Mo_grow 40 = .ok (.aload_n 0, 1) := by decide +kernel
theorem d_Mo_grow_41 : decode b_Mo_grow 41 = .ok (.getfield 51, 3) := by decide +kernel
theorem d_Mo_grow_44 : decode b_Mo_grow 44 = .ok (.aload_n 0, 1) := by decide +kernel
theorem d_Mo_grow_45 : decode b_Mo_grow 45 = .ok (.getfield 63, 3) := by decide +kernel
theorem d_Mo_grow_48 : decode b_Mo_grow 48 = .ok (.iastore, 1) := by decide +kernel
theorem d_Mo_grow_49 : decode b_Mo_grow 49 = .ok (.aload_n 0, 1) := by decide +kernel
theorem d_Mo_grow_50 : decode b_Mo_grow 50 = .ok (.dup, 1) := by decide +kernel
theorem d_Mo_grow_51 : decode b_Mo_grow 51 = .ok (.getfield 51, 3) := by decide +kernel
theorem d_Mo_grow_54 : decode b_Mo_grow 54 = .ok (.iconst 1, 1) := by decide +kernel
theorem d_Mo_grow_55 : decode b_Mo_grow 55 = .ok (.iadd, 1) := by decide +kernel
theorem d_Mo_grow_56 : decode b_Mo_grow 56 = .ok (.putfield 51, 3) := by decide +kernel
theorem d_Mo_grow_59 : decode b_Mo_grow 59 = .ok (.aload_n 0, 1) := by decide +kernel
theorem d_Mo_grow_60 : decode b_Mo_grow 60 = .ok (.getfield 51, 3) := by decide +kernel
theorem d_Mo_grow_63 : decode b_Mo_grow 63 = .ok (.bipush 9, 2) := by decide +kernel
theorem d_Mo_grow_65 : decode b_Mo_grow 65 = .ok (.if_icmp .ge 4, 3) := by decide +kernel
theorem d_Mo_grow_68 : decode b_Mo_grow 68 = .ok (.return_, 1) := by decide +kernel
theorem d_Mo_grow_69 : decode b_Mo_grow 69 = .ok (.aload_n 0, 1) := by decide +kernel
theorem d_Mo_grow_70 : decode b_Mo_grow 70 = .ok (.iconst 2, 1) := by decide +kernel
theorem d_Mo_grow_71 : decode b_Mo_grow 71 = .ok (.aload_n 0, 1) := by decide +kernel
theorem d_Mo_grow_72 : decode b_Mo_grow 72 = .ok (.getfield 38, 3) := by decide +kernel
theorem d_Mo_grow_75 : decode b_Mo_grow 75 = .ok (.imul, 1) := by decide +kernel
theorem d_Mo_grow_76 : decode b_Mo_grow 76 = .ok (.putfield 38, 3) := by decide +kernel
theorem d_Mo_grow_79 : decode b_Mo_grow 79 = .ok (.aload_n 0, 1) := by decide +kernel
theorem d_Mo_grow_80 : decode b_Mo_grow 80 = .ok (.iconst 0, 1) := by decide +kernel
theorem d_Mo_grow_81 : decode b_Mo_grow 81 = .ok (.putfield 51, 3) := by decide +kernel
theorem d_Mo_grow_84 : decode b_Mo_grow 84 = .ok (.iconst 0, 1) := by decide +kernel
theorem d_Mo_grow_85 : decode b_Mo_grow 85 = .ok (.istore_n 1, 1) := by decide +kernel
theorem d_Mo_grow_86 : decode b_Mo_grow 86 = .ok (.iload_n 1, 1) := by decide +kernel
theorem d_Mo_grow_87 : decode b_Mo_grow 87 = .ok (.bipush 9, 2) := by decide +kernel
theorem d_Mo_grow_89 : decode b_Mo_grow 89 = .ok (.if_icmp .ge 51, 3) := by decide +kernel
theorem d_Mo_grow_92 : decode b_Mo_grow 92 = .ok (.aload_n 0, 1) := by decide +kernel
theorem d_Mo_grow_93 : decode b_Mo_grow 93 = .ok (.getfield 42, 3) := by decide +kernel
theorem d_Mo_grow_96 : decode b_Mo_grow 96 = .ok (.iload_n 1, 1) := by decide +kernel
theorem d_Mo_grow_97 : decode b_Mo_grow 97 = .ok (.iaload, 1) := by decide +kernel
theorem d_Mo_grow_98 : decode b_Mo_grow 98 = .ok (.aload_n 0, 1) := by decide +kernel
theorem d_Mo_grow_99 : decode b_Mo_grow 99 = .ok (.getfield 38, 3) := by decide +kernel
theorem d_Mo_grow_102 : decode b_Mo_grow 102 = .ok (.irem, 1) := by decide +kernel
theorem d_Mo_grow_103 : decode b_Mo_grow 103 = .ok (.ifCond .eq 6, 3) := by decide +kernel
theorem d_Mo_grow_106 : decode b_Mo_grow 106 = .ok (.goto 28, 3) := by decide +kernel
theorem d_Mo_grow_109 : decode b_Mo_grow 109 = .ok (.aload_n 0, 1) := by decide +kernel
theorem d_Mo_grow_110 : decode b_Mo_grow 110 = .ok (.getfield 42, 3) := by decide +kernel
theorem d_Mo_grow_113 : decode b_Mo_grow 113 = .ok (.aload_n 0, 1) := by decide +kernel
theorem d_Mo_grow_114 : decode b_Mo_grow 114 = .ok (.getfield 51, 3) := by decide +kernel
theorem d_Mo_grow_117 : decode b_Mo_grow 117 = .ok (.aload_n 0, 1) := by decide +kernel
theorem d_Mo_grow_118 : decode b_Mo_grow 118 = .ok (.getfield 42, 3) := by decide +kernel
theorem d_Mo_grow_121 : decode b_Mo_grow 121 = .ok (.iload_n 1, 1) := by decide +kernel
theorem d_Mo_grow_122 : decode b_Mo_grow 122 = .ok (.iaload, 1) := by decide +kernel
theorem d_Mo_grow_123 : decode b_Mo_grow 123 = .ok (.iastore, 1) := by decide +kernel
theorem d_Mo_grow_124 : decode b_Mo_grow 124 = .ok (.aload_n 0, 1) := by decide +kernel
theorem d_Mo_grow_125 : decode b_Mo_grow 125 = .ok (.dup, 1) := by decide +kernel
theorem d_Mo_grow_126 : decode b_Mo_grow 126 = .ok (.getfield 51, 3) := by decide +kernel
theorem d_Mo_grow_129 : decode b_Mo_grow 129 = .ok (.iconst 1, 1) := by decide +kernel
theorem d_Mo_grow_130 : decode b_Mo_grow 130 = .ok (.iadd, 1) := by decide +kernel
theorem d_Mo_grow_131 : decode b_Mo_grow 131 = .ok (.putfield 51, 3) := by decide +kernel
theorem d_Mo_grow_134 : decode b_Mo_grow 134 = .ok (.iinc 1 1, 3) := by decide +kernel
theorem d_Mo_grow_137 : decode b_Mo_grow 137 = .ok (.goto (-51), 3) := by decide +kernel
theorem d_Mo_grow_140 : decode b_Mo_grow 140 = .ok (.return_, 1) := by decide +kernel
theorem d_Mo_step_0 : decode b_Mo_step 0 = .ok (.aload_n 0, 1) := by decide +kernel
theorem d_Mo_step_1 : decode b_Mo_step 1 = .ok (.iconst 0, 1) := by decide +kernel
theorem d_Mo_step_2 : decode b_Mo_step 2 = .ok (.putfield 54, 3) := by decide +kernel
theorem d_Mo_step_5 : decode b_Mo_step 5 = .ok (.aload_n 0, 1) := by decide +kernel
theorem d_Mo_step_6 : decode b_Mo_step 6 = .ok (.iconst 0, 1) := by decide +kernel
theorem d_Mo_step_7 : decode b_Mo_step 7 = .ok (.putfield 128, 3) := by decide +kernel
theorem d_Mo_step_10 : decode b_Mo_step 10 = .ok (.aload_n 0, 1) := by decide +kernel
theorem d_Mo_step_11 : decode b_Mo_step 11 = .ok (.invokevirtual 131, 3) := by decide +kernel
theorem d_Mo_step_14 : decode b_Mo_step 14 = .ok (.ireturn, 1) := by decide +kernel
theorem d_Mo_remember_0 : decode b_Mo_remember 0 = .ok (.iconst 0, 1) := by decide +kernel
theorem d_Mo_remember_1 : decode b_Mo_remember 1 = .ok (.istore_n 1, 1) := by decide +kernel
theorem d_Mo_remember_2 : decode b_Mo_remember 2 = .ok (.iload_n 1, 1) := by decide +kernel
theorem d_Mo_remember_3 : decode b_Mo_remember 3 = .ok (.bipush 32, 2) := by decide +kernel
theorem d_Mo_remember_5 : decode b_Mo_remember 5 = .ok (.if_icmp .ge 21, 3) := by decide +kernel
theorem d_Mo_remember_8 : decode b_Mo_remember 8 = .ok (.aload_n 0, 1) := by decide +kernel
theorem d_Mo_remember_9 : decode b_Mo_remember 9 = .ok (.getfield 29, 3) := by decide +kernel
theorem d_Mo_remember_12 : decode b_Mo_remember 12 = .ok (.iload_n 1, 1) := by decide +kernel
theorem d_Mo_remember_13 : decode b_Mo_remember 13 = .ok (.aload_n 0, 1) := by decide +kernel
theorem d_Mo_remember_14 : decode b_Mo_remember 14 = .ok (.getfield 23, 3) := by decide +kernel
theorem d_Mo_remember_17 : decode b_Mo_remember 17 = .ok (.iload_n 1, 1) := by decide +kernel
theorem d_Mo_remember_18 : decode b_Mo_remember 18 = .ok (.iaload, 1) := by decide +kernel
theorem d_Mo_remember_19 : decode b_Mo_remember 19 = .ok (.iastore, 1) := by decide +kernel
theorem d_Mo_remember_20 : decode b_Mo_remember 20 = .ok (.iinc 1 1, 3) := by decide +kernel
theorem d_Mo_remember_23 : decode b_Mo_remember 23 = .ok (.goto (-21), 3) := by decide +kernel
theorem d_Mo_remember_26 : decode b_Mo_remember 26 = .ok (.return_, 1) := by decide +kernel
theorem d_Mo_stop_0 : decode b_Mo_stop 0 = .ok (.aload_n 0, 1) := by decide +kernel
theorem d_Mo_stop_1 : decode b_Mo_stop 1 = .ok (.getfield 66, 3) := by decide +kernel
theorem d_Mo_stop_4 : decode b_Mo_stop 4 = .ok (.ifCond .lt 27, 3) := by decide +kernel
theorem d_Mo_stop_7 : decode b_Mo_stop 7 = .ok (.aload_n 0, 1) := by decide +kernel
theorem d_Mo_stop_8 : decode b_Mo_stop 8 = .ok (.getfield 66, 3) := by decide +kernel
theorem d_Mo_stop_11 : decode b_Mo_stop 11 = .ok (.bipush 64, 2) := by decide +kernel
theorem d_Mo_stop_13 : decode b_Mo_stop 13 = .ok (.if_icmp .ge 18, 3) := by decide +kernel
theorem d_Mo_stop_16 : decode b_Mo_stop 16 = .ok (.aload_n 0, 1) := by decide +kernel
theorem d_Mo_stop_17 : decode b_Mo_stop 17 = .ok (.getfield 16, 3) := by decide +kernel
theorem d_Mo_stop_20 : decode b_Mo_stop 20 = .ok (.aload_n 0, 1) := by decide +kernel
theorem d_Mo_stop_21 : decode b_Mo_stop 21 = .ok (.getfield 66, 3) := by decide +kernel
theorem d_Mo_stop_24 : decode b_Mo_stop 24 = .ok (.baload, 1) := by decide +kernel
theorem d_Mo_stop_25 : decode b_Mo_stop 25 = .ok (.ifCond .eq 6, 3) := by decide +kernel
theorem d_Mo_stop_28 : decode b_Mo_stop 28 = .ok (.bipush 9, 2) := by decide +kernel
theorem d_Mo_stop_30 : decode b_Mo_stop 30 = .ok (.ireturn, 1) := by decide +kernel
theorem d_Mo_stop_31 : decode b_Mo_stop 31 = .ok (.iconst 0, 1) := by decide +kernel
theorem d_Mo_stop_32 : decode b_Mo_stop 32 = .ok (.istore_n 1, 1) := by decide +kernel
theorem d_Mo_stop_33 : decode b_Mo_stop 33 = .ok (.iconst 0, 1) := by decide +kernel
theorem d_Mo_stop_34 : decode b_Mo_stop 34 = .ok (.istore_n 2, 1) := by decide +kernel
theorem d_Mo_stop_35 : decode b_Mo_stop 35 = .ok (.iload_n 2, 1) := by decide +kernel
theorem d_Mo_stop_36 : decode b_Mo_stop 36 = .ok (.bipush 32, 2) := by decide +kernel
theorem d_Mo_stop_38 : decode b_Mo_stop 38 = .ok (.if_icmp .ge 43, 3) := by decide +kernel
theorem d_Mo_stop_41 : decode b_Mo_stop 41 = .ok (.iload_n 1, 1) := by decide +kernel
theorem d_Mo_stop_42 : decode b_Mo_stop 42 = .ok (.ifCond .ne 27, 3) := by decide +kernel
theorem d_Mo_stop_45 : decode b_Mo_stop 45 = .ok (.aload_n 0, 1) := by decide +kernel
theorem d_Mo_stop_46 : decode b_Mo_stop 46 = .ok (.getfield 20, 3) := by decide +kernel
theorem d_Mo_stop_49 : decode b_Mo_stop 49 = .ok (.iload_n 2, 1) := by decide +kernel
theorem d_Mo_stop_50 : decode b_Mo_stop 50 = .ok (.baload, 1) := by decide +kernel
theorem d_Mo_stop_51 : decode b_Mo_stop 51 = .ok (.ifCond .eq 22, 3) := by decide +kernel
theorem d_Mo_stop_54 : decode b_Mo_stop 54 = .ok (.aload_n 0, 1) := by decide +kernel
theorem d_Mo_stop_55 : decode b_Mo_stop 55 = .ok (.getfield 23, 3) := by decide +kernel
theorem d_Mo_stop_58 : decode b_Mo_stop 58 = .ok (.iload_n 2, 1) := by decide +kernel
theorem d_Mo_stop_59 : decode b_Mo_stop 59 = .ok (.iaload, 1) := by decide +kernel
theorem d_Mo_stop_60 : decode b_Mo_stop 60 = .ok (.aload_n 0, 1) := by decide +kernel
theorem d_Mo_stop_61 : decode b_Mo_stop 61 = .ok (.getfield 29, 3) := by decide +kernel
theorem d_Mo_stop_64 : decode b_Mo_stop 64 = .ok (.iload_n 2, 1) := by decide +kernel
theorem d_Mo_stop_65 : decode b_Mo_stop 65 = .ok (.iaload, 1) := by decide +kernel
theorem d_Mo_stop_66 : decode b_Mo_stop 66 = .ok (.if_icmp .eq 7, 3) := by decide +kernel
theorem d_Mo_stop_69 : decode b_Mo_stop 69 = .ok (.iconst 1, 1) := by decide +kernel
theorem d_Mo_stop_70 : decode b_Mo_stop 70 = .ok (.goto 4, 3) := by decide +kernel
theorem d_Mo_stop_73 : decode b_Mo_stop 73 = .ok (.iconst 0, 1) := by decide +kernel
theorem d_Mo_stop_74 : decode b_Mo_stop 74 = .ok (.istore_n 1, 1) := by decide +kernel
theorem d_Mo_stop_75 : decode b_Mo_stop 75 = .ok (.iinc 2 1, 3) := by decide +kernel
theorem d_Mo_stop_78 : decode b_Mo_stop 78 = .ok (.goto (-43), 3) := by decide +kernel
theorem d_Mo_stop_81 : decode b_Mo_stop 81 = .ok (.iload_n 1, 1) := by decide +kernel
theorem d_Mo_stop_82 : decode b_Mo_stop 82 = .ok (.ifCond .eq 8, 3) := by decide +kernel
theorem d_Mo_stop_85 : decode b_Mo_stop 85 = .ok (.bipush 10, 2) := by decide +kernel
theorem d_Mo_stop_87 : decode b_Mo_stop 87 = .ok (.goto 4, 3) := by decide +kernel
theorem d_Mo_stop_90 : decode b_Mo_stop 90 = .ok (.iconst 0, 1) := by decide +kernel
theorem d_Mo_stop_91 : decode b_Mo_stop 91 = .ok (.ireturn, 1) := by decide +kernel
theorem d_Mo_forth_0 : decode b_Mo_forth 0 = .ok (.aload_n 0, 1) := by decide +kernel
theorem d_Mo_forth_1 : decode b_Mo_forth 1 = .ok (.iload_n 1, 1) := by decide +kernel
theorem d_Mo_forth_2 : decode b_Mo_forth 2 = .ok (.ifCond .lt 10, 3) := by decide +kernel
theorem d_Mo_forth_5 : decode b_Mo_forth 5 = .ok (.iload_n 1, 1) := by decide +kernel
theorem d_Mo_forth_6 : decode b_Mo_forth 6 = .ok (.sipush 1000, 3) := by decide +kernel
theorem d_Mo_forth_9 : decode b_Mo_forth 9 = .ok (.if_icmp .le 7, 3) := by decide +kernel
theorem d_Mo_forth_12 : decode b_Mo_forth 12 = .ok (.iconst 1, 1) := by decide +kernel
theorem d_Mo_forth_13 : decode b_Mo_forth 13 = .ok (.goto 4, 3) := by decide +kernel
theorem d_Mo_forth_16 : decode b_Mo_forth 16 = .ok (.iconst 0, 1) := by decide +kernel
theorem d_Mo_forth_17 : decode b_Mo_forth 17 = .ok (.putfield 54, 3) := by decide +kernel
theorem d_Mo_forth_20 : decode b_Mo_forth 20 = .ok (.aload_n 0, 1) := by decide +kernel
theorem d_Mo_forth_21 : decode b_Mo_forth 21 = .ok (.getfield 54, 3) := by decide +kernel
theorem d_Mo_forth_24 : decode b_Mo_forth 24 = .ok (.ifCond .le 5, 3) := by decide +kernel
theorem d_Mo_forth_27 : decode b_Mo_forth 27 = .ok (.iconst 0, 1) := by decide +kernel
theorem d_Mo_forth_28 : decode b_Mo_forth 28 = .ok (.ireturn, 1) := by decide +kernel
theorem d_Mo_forth_29 : decode b_Mo_forth 29 = .ok (.aload_n 0, 1) := by decide +kernel
theorem d_Mo_forth_30 : decode b_Mo_forth 30 = .ok (.iconst 0, 1) := by decide +kernel
theorem d_Mo_forth_31 : decode b_Mo_forth 31 = .ok (.putfield 128, 3) := by decide +kernel
theorem d_Mo_forth_34 : decode b_Mo_forth 34 = .ok (.iconst 0, 1) := by decide +kernel
theorem d_Mo_forth_35 : decode b_Mo_forth 35 = .ok (.istore_n 2, 1) := by decide +kernel
theorem d_Mo_forth_36 : decode b_Mo_forth 36 = .ok (.iconst 0, 1) := by decide +kernel
theorem d_Mo_forth_37 : decode b_Mo_forth 37 = .ok (.istore_n 3, 1) := by decide +kernel
theorem d_Mo_forth_38 : decode b_Mo_forth 38 = .ok (.iload_n 3, 1) := by decide +kernel
theorem d_Mo_forth_39 : decode b_Mo_forth 39 = .ok (.iload_n 1, 1) := by decide +kernel
theorem d_Mo_forth_40 : decode b_Mo_forth 40 = .ok (.if_icmp .ge 31, 3) := by decide +kernel
theorem d_Mo_forth_43 : decode b_Mo_forth 43 = .ok (.iload_n 2, 1) := by decide +kernel
theorem d_Mo_forth_44 : decode b_Mo_forth 44 = .ok (.ifCond .ne 27, 3) := by decide +kernel
theorem d_Mo_forth_47 : decode b_Mo_forth 47 = .ok (.aload_n 0, 1) := by decide +kernel
theorem d_Mo_forth_48 : decode b_Mo_forth 48 = .ok (.invokevirtual 134, 3) := by decide +kernel
theorem d_Mo_forth_51 : decode b_Mo_forth 51 = .ok (.aload_n 0, 1) := by decide +kernel
theorem d_Mo_forth_52 : decode b_Mo_forth 52 = .ok (.invokevirtual 131, 3) := by decide +kernel
theorem d_Mo_forth_55 : decode b_Mo_forth 55 = .ok (.istore_n 2, 1) := by decide +kernel
theorem d_Mo_forth_56 : decode b_Mo_forth 56 = .ok (.iload_n 2, 1) := by decide +kernel
theorem d_Mo_forth_57 : decode b_Mo_forth 57 = .ok (.ifCond .ne 8, 3) := by decide +kernel
theorem d_Mo_forth_60 : decode b_Mo_forth 60 = .ok (.aload_n 0, 1) := by decide +kernel
theorem d_Mo_forth_61 : decode b_Mo_forth 61 = .ok (.invokevirtual 137, 3) := by decide +kernel
theorem d_Mo_forth_64 : decode b_Mo_forth 64 = .ok (.istore_n 2, 1) := by decide +kernel
theorem d_Mo_forth_65 : decode b_Mo_forth 65 = .ok (.iinc 3 1, 3) := by decide +kernel
theorem d_Mo_forth_68 : decode b_Mo_forth 68 = .ok (.goto (-30), 3) := by decide +kernel
theorem d_Mo_forth_71 : decode b_Mo_forth 71 = .ok (.iload_n 2, 1) := by decide +kernel
theorem d_Mo_forth_72 : decode b_Mo_forth 72 = .ok (.ifCond .ne 8, 3) := by decide +kernel
theorem d_Mo_forth_75 : decode b_Mo_forth 75 = .ok (.bipush 11, 2) := by decide +kernel
theorem d_Mo_forth_77 : decode b_Mo_forth 77 = .ok (.goto 4, 3) := by decide +kernel
theorem d_Mo_forth_80 : decode b_Mo_forth 80 = .ok (.iload_n 2, 1) := by decide +kernel
theorem d_Mo_forth_81 : decode b_Mo_forth 81 = .ok (.ireturn, 1) := by decide +kernel
theorem d_Mo_account_0 : decode b_Mo_account 0 = .ok (.iload_n 1, 1) := by decide +kernel
theorem d_Mo_account_1 : decode b_Mo_account 1 = .ok (.aload_n 0, 1) := by decide +kernel
theorem d_Mo_account_2 : decode b_Mo_account 2 = .ok (.getfield 63, 3) := by decide +kernel
theorem d_Mo_account_5 : decode b_Mo_account 5 = .ok (.if_icmp .ge 32, 3) := by decide +kernel
theorem d_Mo_account_8 : decode b_Mo_account 8 = .ok (.aload_n 0, 1) := by decide +kernel
theorem d_Mo_account_9 : decode b_Mo_account 9 = .ok (.getfield 63, 3) := by decide +kernel
theorem d_Mo_account_12 : decode b_Mo_account 12 = .ok (.iload_n 1, 1) := by decide +kernel
theorem d_Mo_account_13 : decode b_Mo_account 13 = .ok (.isub, 1) := by decide +kernel
theorem d_Mo_account_14 : decode b_Mo_account 14 = .ok (.aload_n 0, 1) := by decide +kernel
theorem d_Mo_account_15 : decode b_Mo_account 15 = .ok (.getfield 122, 3) := by decide +kernel
theorem d_Mo_account_18 : decode b_Mo_account 18 = .ok (.if_icmp .gt 19, 3) := by decide +kernel
theorem d_Mo_account_21 : decode b_Mo_account 21 = .ok (.aload_n 0, 1) := by decide +kernel
theorem d_Mo_account_22 : decode b_Mo_account 22 = .ok (.dup, 1) := by decide +kernel
theorem d_Mo_account_23 : decode b_Mo_account 23 = .ok (.getfield 122, 3) := by decide +kernel
theorem d_Mo_account_26 : decode b_Mo_account 26 = .ok (.aload_n 0, 1) := by decide +kernel
theorem d_Mo_account_27 : decode b_Mo_account 27 = .ok (.getfield 63, 3) := by decide +kernel
theorem d_Mo_account_30 : decode b_Mo_account 30 = .ok (.iload_n 1, 1) := by decide +kernel
theorem d_Mo_account_31 : decode b_Mo_account 31 = .ok (.isub, 1) := by decide +kernel
theorem d_Mo_account_32 : decode b_Mo_account 32 = .ok (.isub, 1) := by decide +kernel
theorem d_Mo_account_33 : decode b_Mo_account 33 = .ok (.putfield 122, 3) := by decide +kernel
theorem d_Mo_account_36 : decode b_Mo_account 36 = .ok (.return_, 1) := by decide +kernel
theorem d_Mo_account_37 : decode b_Mo_account 37 = .ok (.iconst 0, 1) := by decide +kernel
theorem d_Mo_account_38 : decode b_Mo_account 38 = .ok (.istore_n 2, 1) := by decide +kernel
theorem d_Mo_account_39 : decode b_Mo_account 39 = .ok (.iconst 0, 1) := by decide +kernel
theorem d_Mo_account_40 : decode b_Mo_account 40 = .ok (.istore_n 3, 1) := by decide +kernel
theorem d_Mo_account_41 : decode b_Mo_account 41 = .ok (.iload_n 3, 1) := by decide +kernel
theorem d_Mo_account_42 : decode b_Mo_account 42 = .ok (.aload_n 0, 1) := by decide +kernel
theorem d_Mo_account_43 : decode b_Mo_account 43 = .ok (.getfield 51, 3) := by decide +kernel
theorem d_Mo_account_46 : decode b_Mo_account 46 = .ok (.if_icmp .ge 30, 3) := by decide +kernel
theorem d_Mo_account_49 : decode b_Mo_account 49 = .ok (.aload_n 0, 1) := by decide +kernel
theorem d_Mo_account_50 : decode b_Mo_account 50 = .ok (.getfield 42, 3) := by decide +kernel
theorem d_Mo_account_53 : decode b_Mo_account 53 = .ok (.iload_n 3, 1) := by decide +kernel
theorem d_Mo_account_54 : decode b_Mo_account 54 = .ok (.iaload, 1) := by decide +kernel
theorem d_Mo_account_55 : decode b_Mo_account 55 = .ok (.iload_n 1, 1) := by decide +kernel
theorem d_Mo_account_56 : decode b_Mo_account 56 = .ok (.if_icmp .gt 12, 3) := by decide +kernel
theorem d_Mo_account_59 : decode b_Mo_account 59 = .ok (.aload_n 0, 1) := by decide +kernel
theorem d_Mo_account_60 : decode b_Mo_account 60 = .ok (.getfield 42, 3) := by decide +kernel
theorem d_Mo_account_63 : decode b_Mo_account 63 = .ok (.iload_n 3, 1) := by decide +kernel
theorem d_Mo_account_64 : decode b_Mo_account 64 = .ok (.iaload, 1) := by decide +kernel
theorem d_Mo_account_65 : decode b_Mo_account 65 = .ok (.goto 4, 3) := by decide +kernel
theorem d_Mo_account_68 : decode b_Mo_account 68 = .ok (.iload_n 2, 1) := by decide +kernel
theorem d_Mo_account_69 : decode b_Mo_account 69 = .ok (.istore_n 2, 1) := by decide +kernel
theorem d_Mo_account_70 : decode b_Mo_account 70 = .ok (.iinc 3 1, 3) := by decide +kernel
theorem d_Mo_account_73 : decode b_Mo_account 73 = .ok (.goto (-32), 3) := by decide +kernel
theorem d_Mo_account_76 : decode b_Mo_account 76 = .ok (.iload_n 1, 1) := by decide +kernel
theorem d_Mo_account_77 : decode b_Mo_account 77 = .ok (.aload_n 0, 1) := by decide +kernel
theorem d_Mo_account_78 : decode b_Mo_account 78 = .ok (.getfield 63, 3) := by decide +kernel
theorem d_Mo_account_81 : decode b_Mo_account 81 = .ok (.if_icmp .lt 11, 3) := by decide +kernel
theorem d_Mo_account_84 : decode b_Mo_account 84 = .ok (.iload_n 2, 1) := by decide +kernel
theorem d_Mo_account_85 : decode b_Mo_account 85 = .ok (.aload_n 0, 1) := by decide +kernel
theorem d_Mo_account_86 : decode b_Mo_account 86 = .ok (.getfield 63, 3) := by decide +kernel
theorem d_Mo_account_89 : decode b_Mo_account 89 = .ok (.if_icmp .le 7, 3) := by decide +kernel
theorem d_Mo_account_92 : decode b_Mo_account 92 = .ok (.iconst 1, 1) := by decide +kernel
theorem d_Mo_account_93 : decode b_Mo_account 93 = .ok (.goto 4, 3) := by decide +kernel
theorem d_Mo_account_96 : decode b_Mo_account 96 = .ok (.iconst 0, 1) := by decide +kernel
theorem d_Mo_account_97 : decode b_Mo_account 97 = .ok (.istore_n 3, 1) := by decide +kernel
theorem d_Mo_account_98 : decode b_Mo_account 98 = .ok (.iload_n 3, 1) := by decide +kernel
theorem d_Mo_account_99 : decode b_Mo_account 99 = .ok (.ifCond .eq 9, 3) := by decide +kernel
theorem d_Mo_account_102 : decode b_Mo_account 102 = .ok (.iload_n 1, 1) := by decide +kernel
theorem d_Mo_account_103 : decode b_Mo_account 103 = .ok (.iload_n 2, 1) := by decide +kernel
theorem d_Mo_account_104 : decode b_Mo_account 104 = .ok (.isub, 1) := by decide +kernel
theorem d_Mo_account_105 : decode b_Mo_account 105 = .ok (.goto 9, 3) := by decide +kernel
theorem d_Mo_account_108 : decode b_Mo_account 108 = .ok (.iload_n 1, 1) := by decide +kernel
theorem d_Mo_account_109 : decode b_Mo_account 109 = .ok (.aload_n 0, 1) := by decide +kernel
theorem d_Mo_account_110 : decode b_Mo_account 110 = .ok (.getfield 63, 3) := by decide +kernel
theorem d_Mo_account_113 : decode b_Mo_account 113 = .ok (.isub, 1) := by decide +kernel
theorem d_Mo_account_114 : decode b_Mo_account 114 = .ok (.istore 4, 2) := by decide +kernel
theorem d_Mo_account_116 : decode b_Mo_account 116 = .ok (.aload_n 0, 1) := by decide +kernel
theorem d_Mo_account_117 : decode b_Mo_account 117 = .ok (.iload_n 3, 1) := by decide +kernel
theorem d_Mo_account_118 : decode b_Mo_account 118 = .ok (.ifCond .eq 7, 3) := by decide +kernel
theorem d_Mo_account_121 : decode b_Mo_account 121 = .ok (.iconst 0, 1) := by decide +kernel
theorem d_Mo_account_122 : decode b_Mo_account 122 = .ok (.goto 7, 3) := by decide +kernel
theorem d_Mo_account_125 : decode b_Mo_account 125 = .ok (.aload_n 0, 1) := by decide +kernel
theorem d_Mo_account_126 : decode b_Mo_account 126 = .ok (.getfield 122, 3) := by decide +kernel
theorem d_Mo_account_129 : decode b_Mo_account 129 = .ok (.iload 4, 2) := by decide +kernel
theorem d_Mo_account_131 : decode b_Mo_account 131 = .ok (.iadd, 1) := by decide +kernel
theorem d_Mo_account_132 : decode b_Mo_account 132 = .ok (.putfield 122, 3) := by decide +kernel
theorem d_Mo_account_135 : decode b_Mo_account 135 = .ok (.aload_n 0, 1) := by decide +kernel
theorem d_Mo_account_136 : decode b_Mo_account 136 = .ok (.aload_n 0, 1) := by decide +kernel
theorem d_Mo_account_137 : decode b_Mo_account 137 = .ok (.getfield 122, 3) := by decide +kernel
theorem d_Mo_account_140 : decode b_Mo_account 140 = .ok (.bipush 32, 2) := by decide +kernel
theorem d_Mo_account_142 : decode b_Mo_account 142 = .ok (.if_icmp .le 8, 3) := by decide +kernel
theorem d_Mo_account_145 : decode b_Mo_account 145 = .ok (.bipush 32, 2) := by decide +kernel
theorem d_Mo_account_147 : decode b_Mo_account 147 = .ok (.goto 7, 3) := by decide +kernel
theorem d_Mo_account_150 : decode b_Mo_account 150 = .ok (.aload_n 0, 1) := by decide +kernel
theorem d_Mo_account_151 : decode b_Mo_account 151 = .ok (.getfield 122, 3) := by decide +kernel
theorem d_Mo_account_154 : decode b_Mo_account 154 = .ok (.putfield 122, 3) := by decide +kernel
theorem d_Mo_account_157 : decode b_Mo_account 157 = .ok (.aload_n 0, 1) := by decide +kernel
theorem d_Mo_account_158 : decode b_Mo_account 158 = .ok (.dup, 1) := by decide +kernel
theorem d_Mo_account_159 : decode b_Mo_account 159 = .ok (.getfield 128, 3) := by decide +kernel
theorem d_Mo_account_162 : decode b_Mo_account 162 = .ok (.iload 4, 2) := by decide +kernel
theorem d_Mo_account_164 : decode b_Mo_account 164 = .ok (.iadd, 1) := by decide +kernel
theorem d_Mo_account_165 : decode b_Mo_account 165 = .ok (.putfield 128, 3) := by decide +kernel
theorem d_Mo_account_168 : decode b_Mo_account 168 = .ok (.return_, 1) := by decide +kernel
theorem d_Mo_go_0 : decode b_Mo_go 0 = .ok (.aload_n 0, 1) := by decide +kernel
theorem d_Mo_go_1 : decode b_Mo_go 1 = .ok (.iload_n 1, 1) := by decide +kernel
theorem d_Mo_go_2 : decode b_Mo_go 2 = .ok (.ifCond .lt 11, 3) := by decide +kernel
theorem d_Mo_go_5 : decode b_Mo_go 5 = .ok (.iload_n 1, 1) := by decide +kernel
theorem d_Mo_go_6 : decode b_Mo_go 6 = .ok (.aload_n 0, 1) := by decide +kernel
theorem d_Mo_go_7 : decode b_Mo_go 7 = .ok (.getfield 57, 3) := by decide +kernel
theorem d_Mo_go_10 : decode b_Mo_go 10 = .ok (.if_icmp .le 7, 3) := by decide +kernel
theorem d_Mo_go_13 : decode b_Mo_go 13 = .ok (.iconst 1, 1) := by decide +kernel
theorem d_Mo_go_14 : decode b_Mo_go 14 = .ok (.goto 4, 3) := by decide +kernel
theorem d_Mo_go_17 : decode b_Mo_go 17 = .ok (.iconst 0, 1) := by decide +kernel
theorem d_Mo_go_18 : decode b_Mo_go 18 = .ok (.putfield 54, 3) := by decide +kernel
theorem d_Mo_go_21 : decode b_Mo_go 21 = .ok (.aload_n 0, 1) := by decide +kernel
theorem d_Mo_go_22 : decode b_Mo_go 22 = .ok (.getfield 54, 3) := by decide +kernel
theorem d_Mo_go_25 : decode b_Mo_go 25 = .ok (.ifCond .le 4, 3) := by decide +kernel
theorem d_Mo_go_28 : decode b_Mo_go 28 = .ok (.return_, 1) := by decide +kernel
theorem d_Mo_go_29 : decode b_Mo_go 29 = .ok (.aload_n 0, 1) := by decide +kernel
theorem d_Mo_go_30 : decode b_Mo_go 30 = .ok (.iconst 0, 1) := by decide +kernel
theorem d_Mo_go_31 : decode b_Mo_go 31 = .ok (.putfield 128, 3) := by decide +kernel
theorem d_Mo_go_34 : decode b_Mo_go 34 = .ok (.iload_n 1, 1) := by decide +kernel
theorem d_Mo_go_35 : decode b_Mo_go 35 = .ok (.aload_n 0, 1) := by decide +kernel
theorem d_Mo_go_36 : decode b_Mo_go 36 = .ok (.getfield 63, 3) := by decide +kernel
theorem d_Mo_go_39 : decode b_Mo_go 39 = .ok (.if_icmp .eq 8, 3) := by decide +kernel
theorem d_Mo_go_42 : decode b_Mo_go 42 = .ok (.aload_n 0, 1) := by decide +kernel
theorem d_Mo_go_43 : decode b_Mo_go 43 = .ok (.iload_n 1, 1) := by decide +kernel
theorem d_Mo_go_44 : decode b_Mo_go 44 = .ok (.invokevirtual 140, 3) := by decide +kernel
theorem d_Mo_go_47 : decode b_Mo_go 47 = .ok (.aload_n 0, 1) := by decide +kernel
theorem d_Mo_go_48 : decode b_Mo_go 48 = .ok (.iload_n 1, 1) := by decide +kernel
theorem d_Mo_go_49 : decode b_Mo_go 49 = .ok (.invokevirtual 143, 3) := by decide +kernel
theorem d_Mo_go_52 : decode b_Mo_go 52 = .ok (.return_, 1) := by decide +kernel
theorem d_Mo_backOne_0 : decode b_Mo_backOne 0 = .ok (.aload_n 0, 1) := by decide +kernel
theorem d_Mo_backOne_1 : decode b_Mo_backOne 1 = .ok (.getfield 63, 3) := by decide +kernel
theorem d_Mo_backOne_4 : decode b_Mo_backOne 4 = .ok (.iconst 1, 1) := by decide +kernel
theorem d_Mo_backOne_5 : decode b_Mo_backOne 5 = .ok (.isub, 1) := by decide +kernel
theorem d_Mo_backOne_6 : decode b_Mo_backOne 6 = .ok (.istore_n 1, 1) := by decide +kernel
theorem d_Mo_backOne_7 : decode b_Mo_backOne 7 = .ok (.aload_n 0, 1) := by decide +kernel
theorem d_Mo_backOne_8 : decode b_Mo_backOne 8 = .ok (.iload_n 1, 1) := by decide +kernel
theorem d_Mo_backOne_9 : decode b_Mo_backOne 9 = .ok (.invokevirtual 140, 3) := by decide +kernel
theorem d_Mo_backOne_12 : decode b_Mo_backOne 12 = .ok (.iload_n 1, 1) := by decide +kernel
theorem d_Mo_backOne_13 : decode b_Mo_backOne 13 = .ok (.ifCond .ne 11, 3) := by decide +kernel
theorem d_Mo_backOne_16 : decode b_Mo_backOne 16 = .ok (.aload_n 0, 1) := by decide +kernel
theorem d_Mo_backOne_17 : decode b_Mo_backOne 17 = .ok (.iconst 0, 1) := by decide +kernel
theorem d_Mo_backOne_18 : decode b_Mo_backOne 18 = .ok (.invokevirtual 143, 3) := by decide +kernel
theorem d_Mo_backOne_21 : decode b_Mo_backOne 21 = .ok (.bipush 12, 2) := by decide +kernel
theorem d_Mo_backOne_23 : decode b_Mo_backOne 23 = .ok (.ireturn, 1) := by decide +kernel
theorem d_Mo_backOne_24 : decode b_Mo_backOne 24 = .ok (.aload_n 0, 1) := by decide +kernel
theorem d_Mo_backOne_25 : decode b_Mo_backOne 25 = .ok (.iload_n 1, 1) := by decide +kernel
theorem d_Mo_backOne_26 : decode b_Mo_backOne 26 = .ok (.iconst 1, 1) := by decide +kernel
theorem d_Mo_backOne_27 : decode b_Mo_backOne 27 = .ok (.isub, 1) := by decide +kernel
theorem d_Mo_backOne_28 : decode b_Mo_backOne 28 = .ok (.invokevirtual 143, 3) := by decide +kernel
theorem d_Mo_backOne_31 : decode b_Mo_backOne 31 = .ok (.aload_n 0, 1) := by decide +kernel
theorem d_Mo_backOne_32 : decode b_Mo_backOne 32 = .ok (.invokevirtual 134, 3) := by decide +kernel
theorem d_Mo_backOne_35 : decode b_Mo_backOne 35 = .ok (.aload_n 0, 1) := by decide +kernel
theorem d_Mo_backOne_36 : decode b_Mo_backOne 36 = .ok (.iload_n 1, 1) := by decide +kernel
theorem d_Mo_backOne_37 : decode b_Mo_backOne 37 = .ok (.invokevirtual 143, 3) := by decide +kernel
theorem d_Mo_backOne_40 : decode b_Mo_backOne 40 = .ok (.aload_n 0, 1) := by decide +kernel
theorem d_Mo_backOne_41 : decode b_Mo_backOne 41 = .ok (.invokevirtual 137, 3) := by decide +kernel
theorem d_Mo_backOne_44 : decode b_Mo_backOne 44 = .ok (.ireturn, 1) := by decide +kernel
theorem d_Mo_back_0 : decode b_Mo_back 0 = .ok (.aload_n 0, 1) := by decide +kernel
theorem d_Mo_back_1 : decode b_Mo_back 1 = .ok (.iload_n 1, 1) := by decide +kernel
theorem d_Mo_back_2 : decode b_Mo_back 2 = .ok (.ifCond .lt 10, 3) := by decide +kernel
theorem d_Mo_back_5 : decode b_Mo_back 5 = .ok (.iload_n 1, 1) := by decide +kernel
theorem d_Mo_back_6 : decode b_Mo_back 6 = .ok (.sipush 1000, 3) := by decide +kernel
theorem d_Mo_back_9 : decode b_Mo_back 9 = .ok (.if_icmp .le 7, 3) := by decide +kernel
theorem d_Mo_back_12 : decode b_Mo_back 12 = .ok (.iconst 1, 1) := by decide +kernel
theorem d_Mo_back_13 : decode b_Mo_back 13 = .ok (.goto 4, 3) := by decide +kernel
theorem d_Mo_back_16 : decode b_Mo_back 16 = .ok (.iconst 0, 1) := by decide +kernel
theorem d_Mo_back_17 : decode b_Mo_back 17 = .ok (.putfield 54, 3) := by decide +kernel
theorem d_Mo_back_20 : decode b_Mo_back 20 = .ok (.aload_n 0, 1) := by decide +kernel
theorem d_Mo_back_21 : decode b_Mo_back 21 = .ok (.getfield 54, 3) := by decide +kernel
theorem d_Mo_back_24 : decode b_Mo_back 24 = .ok (.ifCond .le 5, 3) := by decide +kernel
theorem d_Mo_back_27 : decode b_Mo_back 27 = .ok (.iconst 0, 1) := by decide +kernel
theorem d_Mo_back_28 : decode b_Mo_back 28 = .ok (.ireturn, 1) := by decide +kernel
theorem d_Mo_back_29 : decode b_Mo_back 29 = .ok (.aload_n 0, 1) := by decide +kernel
theorem d_Mo_back_30 : decode b_Mo_back 30 = .ok (.iconst 0, 1) := by decide +kernel
theorem d_Mo_back_31 : decode b_Mo_back 31 = .ok (.putfield 128, 3) := by decide +kernel
theorem d_Mo_back_34 : decode b_Mo_back 34 = .ok (.aload_n 0, 1) := by decide +kernel
theorem d_Mo_back_35 : decode b_Mo_back 35 = .ok (.getfield 63, 3) := by decide +kernel
theorem d_Mo_back_38 : decode b_Mo_back 38 = .ok (.ifCond .ne 8, 3) := by decide +kernel
theorem d_Mo_back_41 : decode b_Mo_back 41 = .ok (.bipush 12, 2) := by decide +kernel
theorem d_Mo_back_43 : decode b_Mo_back 43 = .ok (.goto 4, 3) := by decide +kernel
theorem d_Mo_back_46 : decode b_Mo_back 46 = .ok (.iconst 0, 1) := by decide +kernel
theorem d_Mo_back_47 : decode b_Mo_back 47 = .ok (.istore_n 2, 1) := by decide +kernel
theorem d_Mo_back_48 : decode b_Mo_back 48 = .ok (.iconst 0, 1) := by decide +kernel
theorem d_Mo_back_49 : decode b_Mo_back 49 = .ok (.istore_n 3, 1) := by decide +kernel
theorem d_Mo_back_50 : decode b_Mo_back 50 = .ok (.iload_n 3, 1) := by decide +kernel
theorem d_Mo_back_51 : decode b_Mo_back 51 = .ok (.iload_n 1, 1) := by decide +kernel
theorem d_Mo_back_52 : decode b_Mo_back 52 = .ok (.if_icmp .ge 18, 3) := by decide +kernel
theorem d_Mo_back_55 : decode b_Mo_back 55 = .ok (.iload_n 2, 1) := by decide +kernel
theorem d_Mo_back_56 : decode b_Mo_back 56 = .ok (.ifCond .ne 14, 3) := by decide +kernel
theorem d_Mo_back_59 : decode b_Mo_back 59 = .ok (.aload_n 0, 1) := by decide +kernel
theorem d_Mo_back_60 : decode b_Mo_back 60 = .ok (.invokevirtual 146, 3) := by decide +kernel
theorem d_Mo_back_63 : decode b_Mo_back 63 = .ok (.istore_n 2, 1) := by decide +kernel
theorem d_Mo_back_64 : decode b_Mo_back 64 = .ok (.iinc 3 1, 3) := by decide +kernel
theorem d_Mo_back_67 : decode b_Mo_back 67 = .ok (.goto (-17), 3) := by decide +kernel
theorem d_Mo_back_70 : decode b_Mo_back 70 = .ok (.iload_n 2, 1) := by decide +kernel
theorem d_Mo_back_71 : decode b_Mo_back 71 = .ok (.ifCond .ne 8, 3) := by decide +kernel
theorem d_Mo_back_74 : decode b_Mo_back 74 = .ok (.bipush 11, 2) := by decide +kernel
theorem d_Mo_back_76 : decode b_Mo_back 76 = .ok (.goto 4, 3) := by decide +kernel
theorem d_Mo_back_79 : decode b_Mo_back 79 = .ok (.iload_n 2, 1) := by decide +kernel
theorem d_Mo_back_80 : decode b_Mo_back 80 = .ok (.ireturn, 1) := by decide +kernel
theorem d_Mo_outside_0 : decode b_Mo_outside 0 = .ok (.iload_n 0, 1) := by decide +kernel
theorem d_Mo_outside_1 : decode b_Mo_outside 1 = .ok (.ifCond .lt 8, 3) := by decide +kernel
theorem d_Mo_outside_4 : decode b_Mo_outside 4 = .ok (.iload_n 0, 1) := by decide +kernel
theorem d_Mo_outside_5 : decode b_Mo_outside 5 = .ok (.iload_n 1, 1) := by decide +kernel
theorem d_Mo_outside_6 : decode b_Mo_outside 6 = .ok (.if_icmp .lt 7, 3) := by decide +kernel
theorem d_Mo_outside_9 : decode b_Mo_outside 9 = .ok (.iconst 1, 1) := by decide +kernel
theorem d_Mo_outside_10 : decode b_Mo_outside 10 = .ok (.goto 4, 3) := by decide +kernel
theorem d_Mo_outside_13 : decode b_Mo_outside 13 = .ok (.iconst 0, 1) := by decide +kernel
theorem d_Mo_outside_14 : decode b_Mo_outside 14 = .ok (.ireturn, 1) := by decide +kernel
theorem d_Mo_setBreak_0 : decode b_Mo_setBreak 0 = .ok (.aload_n 0, 1) := by decide +kernel
theorem d_Mo_setBreak_1 : decode b_Mo_setBreak 1 = .ok (.iload_n 1, 1) := by decide +kernel
theorem d_Mo_setBreak_2 : decode b_Mo_setBreak 2 = .ok (.bipush 64, 2) := by decide +kernel
theorem d_Mo_setBreak_4 : decode b_Mo_setBreak 4 = .ok (.invokestatic 149, 3) := by decide +kernel
theorem d_Mo_setBreak_7 : decode b_Mo_setBreak 7 = .ok (.ifCond .eq 7, 3) := by decide +kernel
theorem d_Mo_setBreak_10 : decode b_Mo_setBreak 10 = .ok (.iconst 1, 1) := by decide +kernel
theorem d_Mo_setBreak_11 : decode b_Mo_setBreak 11 = .ok (.goto 4, 3) := by decide +kernel
theorem d_Mo_setBreak_14 : decode b_Mo_setBreak 14 = .ok (.iconst 0, 1) := by decide +kernel
theorem d_Mo_setBreak_15 : decode b_Mo_setBreak 15 = .ok (.putfield 54, 3) := by decide +kernel
theorem d_Mo_setBreak_18 : decode b_Mo_setBreak 18 = .ok (.aload_n 0, 1) := by decide +kernel
theorem d_Mo_setBreak_19 : decode b_Mo_setBreak 19 = .ok (.getfield 54, 3) := by decide +kernel
theorem d_Mo_setBreak_22 : decode b_Mo_setBreak 22 = .ok (.ifCond .gt 12, 3) := by decide +kernel
theorem d_Mo_setBreak_25 : decode b_Mo_setBreak 25 = .ok (.aload_n 0, 1) := by decide +kernel
theorem d_Mo_setBreak_26 : decode b_Mo_setBreak 26 = .ok (.getfield 16, 3) := by decide +kernel
theorem d_Mo_setBreak_29 : decode b_Mo_setBreak 29 = .ok (.iload_n 1, 1) := by decide +kernel
theorem d_Mo_setBreak_30 : decode b_Mo_setBreak 30 = .ok (.baload, 1) := by decide +kernel
theorem d_Mo_setBreak_31 : decode b_Mo_setBreak 31 = .ok (.ifCond .eq 5, 3) := by decide +kernel
theorem d_Mo_setBreak_34 : decode b_Mo_setBreak 34 = .ok (.iconst 0, 1) := by decide +kernel
theorem d_Mo_setBreak_35 : decode b_Mo_setBreak 35 = .ok (.ireturn, 1) := by decide +kernel
theorem d_Mo_setBreak_36 : decode b_Mo_setBreak 36 = .ok (.aload_n 0, 1) := by decide +kernel
theorem d_Mo_setBreak_37 : decode b_Mo_setBreak 37 = .ok (.getfield 16, 3) := by decide +kernel
theorem d_Mo_setBreak_40 : decode b_Mo_setBreak 40 = .ok (.iload_n 1, 1) := by decide +kernel
theorem d_Mo_setBreak_41 : decode b_Mo_setBreak 41 = .ok (.iconst 1, 1) := by decide +kernel
theorem d_Mo_setBreak_42 : decode b_Mo_setBreak 42 = .ok (.bastore, 1) := by decide +kernel
theorem d_Mo_setBreak_43 : decode b_Mo_setBreak 43 = .ok (.iconst 1, 1) := by decide +kernel
theorem d_Mo_setBreak_44 : decode b_Mo_setBreak 44 = .ok (.ireturn, 1) := by decide +kernel
theorem d_Mo_clearBreak_0 : decode b_Mo_clearBreak 0 = .ok (.aload_n 0, 1) := by decide +kernel
theorem d_Mo_clearBreak_1 : decode b_Mo_clearBreak 1 = .ok (.iload_n 1, 1) := by decide +kernel
theorem d_Mo_clearBreak_2 : decode b_Mo_clearBreak 2 = .ok (.bipush 64, 2) := by decide +kernel
theorem d_Mo_clearBreak_4 : decode b_Mo_clearBreak 4 = .ok (.invokestatic 149, 3) := by decide +kernel
theorem d_Mo_clearBreak_7 : decode b_Mo_clearBreak 7 = .ok (.ifCond .eq 7, 3) := by decide +kernel
theorem d_Mo_clearBreak_10 : decode b_Mo_clearBreak 10 = .ok (.iconst 1, 1) := by decide +kernel
theorem d_Mo_clearBreak_11 : decode b_Mo_clearBreak 11 = .ok (.goto 4, 3) := by decide +kernel
theorem d_Mo_clearBreak_14 : decode b_Mo_clearBreak 14 = .ok (.iconst 0, 1) := by decide +kernel
theorem d_Mo_clearBreak_15 : decode b_Mo_clearBreak 15 = .ok (.putfield 54, 3) := by decide +kernel
theorem d_Mo_clearBreak_18 : decode b_Mo_clearBreak 18 = .ok (.aload_n 0, 1) := by decide +kernel
theorem d_Mo_clearBreak_19 : decode b_Mo_clearBreak 19 = .ok (.getfield 54, 3) := by decide +kernel
theorem d_Mo_clearBreak_22 : decode b_Mo_clearBreak 22 = .ok (.ifCond .gt 12, 3) := by decide +kernel
theorem d_Mo_clearBreak_25 : decode b_Mo_clearBreak 25 = .ok (.aload_n 0, 1) := by decide +kernel
theorem d_Mo_clearBreak_26 : decode b_Mo_clearBreak 26 = .ok (.getfield 16, 3) := by decide +kernel
theorem d_Mo_clearBreak_29 : decode b_Mo_clearBreak 29 = .ok (.iload_n 1, 1) := by decide +kernel
theorem d_Mo_clearBreak_30 : decode b_Mo_clearBreak 30 = .ok (.baload, 1) := by decide +kernel
theorem d_Mo_clearBreak_31 : decode b_Mo_clearBreak 31 = .ok (.ifCond .ne 5, 3) := by decide +kernel
theorem d_Mo_clearBreak_34 : decode b_Mo_clearBreak 34 = .ok (.iconst 0, 1) := by decide +kernel
theorem d_Mo_clearBreak_35 : decode b_Mo_clearBreak 35 = .ok (.ireturn, 1) := by decide +kernel
theorem d_Mo_clearBreak_36 : decode b_Mo_clearBreak 36 = .ok (.aload_n 0, 1) := by decide +kernel
theorem d_Mo_clearBreak_37 : decode b_Mo_clearBreak 37 = .ok (.getfield 16, 3) := by decide +kernel
theorem d_Mo_clearBreak_40 : decode b_Mo_clearBreak 40 = .ok (.iload_n 1, 1) := by decide +kernel
theorem d_Mo_clearBreak_41 : decode b_Mo_clearBreak 41 = .ok (.iconst 0, 1) := by decide +kernel
theorem d_Mo_clearBreak_42 : decode b_Mo_clearBreak 42 = .ok (.bastore, 1) := by decide +kernel
theorem d_Mo_clearBreak_43 : decode b_Mo_clearBreak 43 = .ok (.iconst 1, 1) := by decide +kernel
theorem d_Mo_clearBreak_44 : decode b_Mo_clearBreak 44 = .ok (.ireturn, 1) := by decide +kernel
theorem d_Mo_setWatch_0 : decode b_Mo_setWatch 0 = .ok (.aload_n 0, 1) := by decide +kernel
theorem d_Mo_setWatch_1 : decode b_Mo_setWatch 1 = .ok (.iload_n 1, 1) := by decide +kernel
theorem d_Mo_setWatch_2 : decode b_Mo_setWatch 2 = .ok (.bipush 32, 2) := by decide +kernel
theorem d_Mo_setWatch_4 : decode b_Mo_setWatch 4 = .ok (.invokestatic 149, 3) := by decide +kernel
theorem d_Mo_setWatch_7 : decode b_Mo_setWatch 7 = .ok (.ifCond .eq 7, 3) := by decide +kernel
theorem d_Mo_setWatch_10 : decode b_Mo_setWatch 10 = .ok (.iconst 1, 1) := by decide +kernel
theorem d_Mo_setWatch_11 : decode b_Mo_setWatch 11 = .ok (.goto 4, 3) := by decide +kernel
theorem d_Mo_setWatch_14 : decode b_Mo_setWatch 14 = .ok (.iconst 0, 1) := by decide +kernel
theorem d_Mo_setWatch_15 : decode b_Mo_setWatch 15 = .ok (.putfield 54, 3) := by decide +kernel
theorem d_Mo_setWatch_18 : decode b_Mo_setWatch 18 = .ok (.aload_n 0, 1) := by decide +kernel
theorem d_Mo_setWatch_19 : decode b_Mo_setWatch 19 = .ok (.getfield 54, 3) := by decide +kernel
theorem d_Mo_setWatch_22 : decode b_Mo_setWatch 22 = .ok (.ifCond .gt 12, 3) := by decide +kernel
theorem d_Mo_setWatch_25 : decode b_Mo_setWatch 25 = .ok (.aload_n 0, 1) := by decide +kernel
theorem d_Mo_setWatch_26 : decode b_Mo_setWatch 26 = .ok (.getfield 20, 3) := by decide +kernel
theorem d_Mo_setWatch_29 : decode b_Mo_setWatch 29 = .ok (.iload_n 1, 1) := by decide +kernel
theorem d_Mo_setWatch_30 : decode b_Mo_setWatch 30 = .ok (.baload, 1) := by decide +kernel
theorem d_Mo_setWatch_31 : decode b_Mo_setWatch 31 = .ok (.ifCond .eq 5, 3) := by decide +kernel
theorem d_Mo_setWatch_34 : decode b_Mo_setWatch 34 = .ok (.iconst 0, 1) := by decide +kernel
theorem d_Mo_setWatch_35 : decode b_Mo_setWatch 35 = .ok (.ireturn, 1) := by decide +kernel
theorem d_Mo_setWatch_36 : decode b_Mo_setWatch 36 = .ok (.aload_n 0, 1) := by decide +kernel
theorem d_Mo_setWatch_37 : decode b_Mo_setWatch 37 = .ok (.getfield 20, 3) := by decide +kernel
theorem d_Mo_setWatch_40 : decode b_Mo_setWatch 40 = .ok (.iload_n 1, 1) := by decide +kernel
theorem d_Mo_setWatch_41 : decode b_Mo_setWatch 41 = .ok (.iconst 1, 1) := by decide +kernel
theorem d_Mo_setWatch_42 : decode b_Mo_setWatch 42 = .ok (.bastore, 1) := by decide +kernel
theorem d_Mo_setWatch_43 : decode b_Mo_setWatch 43 = .ok (.iconst 1, 1) := by decide +kernel
theorem d_Mo_setWatch_44 : decode b_Mo_setWatch 44 = .ok (.ireturn, 1) := by decide +kernel
theorem d_Mo_clearWatch_0 : decode b_Mo_clearWatch 0 = .ok (.aload_n 0, 1) := by decide +kernel
theorem d_Mo_clearWatch_1 : decode b_Mo_clearWatch 1 = .ok (.iload_n 1, 1) := by decide +kernel
theorem d_Mo_clearWatch_2 : decode b_Mo_clearWatch 2 = .ok (.bipush 32, 2) := by decide +kernel
theorem d_Mo_clearWatch_4 : decode b_Mo_clearWatch 4 = .ok (.invokestatic 149, 3) := by decide +kernel
theorem d_Mo_clearWatch_7 : decode b_Mo_clearWatch 7 = .ok (.ifCond .eq 7, 3) := by decide +kernel
theorem d_Mo_clearWatch_10 : decode b_Mo_clearWatch 10 = .ok (.iconst 1, 1) := by decide +kernel
theorem d_Mo_clearWatch_11 : decode b_Mo_clearWatch 11 = .ok (.goto 4, 3) := by decide +kernel
theorem d_Mo_clearWatch_14 : decode b_Mo_clearWatch 14 = .ok (.iconst 0, 1) := by decide +kernel
theorem d_Mo_clearWatch_15 : decode b_Mo_clearWatch 15 = .ok (.putfield 54, 3) := by decide +kernel
theorem d_Mo_clearWatch_18 : decode b_Mo_clearWatch 18 = .ok (.aload_n 0, 1) := by decide +kernel
theorem d_Mo_clearWatch_19 : decode b_Mo_clearWatch 19 = .ok (.getfield 54, 3) := by decide +kernel
theorem d_Mo_clearWatch_22 : decode b_Mo_clearWatch 22 = .ok (.ifCond .gt 12, 3) := by decide +kernel
theorem d_Mo_clearWatch_25 : decode b_Mo_clearWatch 25 = .ok (.aload_n 0, 1) := by decide +kernel
theorem d_Mo_clearWatch_26 : decode b_Mo_clearWatch 26 = .ok (.getfield 20, 3) := by decide +kernel
theorem d_Mo_clearWatch_29 : decode b_Mo_clearWatch 29 = .ok (.iload_n 1, 1) := by decide +kernel
theorem d_Mo_clearWatch_30 : decode b_Mo_clearWatch 30 = .ok (.baload, 1) := by decide +kernel
theorem d_Mo_clearWatch_31 : decode b_Mo_clearWatch 31 = .ok (.ifCond .ne 5, 3) := by decide +kernel
theorem d_Mo_clearWatch_34 : decode b_Mo_clearWatch 34 = .ok (.iconst 0, 1) := by decide +kernel
theorem d_Mo_clearWatch_35 : decode b_Mo_clearWatch 35 = .ok (.ireturn, 1) := by decide +kernel
theorem d_Mo_clearWatch_36 : decode b_Mo_clearWatch 36 = .ok (.aload_n 0, 1) := by decide +kernel
theorem d_Mo_clearWatch_37 : decode b_Mo_clearWatch 37 = .ok (.getfield 20, 3) := by decide +kernel
theorem d_Mo_clearWatch_40 : decode b_Mo_clearWatch 40 = .ok (.iload_n 1, 1) := by decide +kernel
theorem d_Mo_clearWatch_41 : decode b_Mo_clearWatch 41 = .ok (.iconst 0, 1) := by decide +kernel
theorem d_Mo_clearWatch_42 : decode b_Mo_clearWatch 42 = .ok (.bastore, 1) := by decide +kernel
theorem d_Mo_clearWatch_43 : decode b_Mo_clearWatch 43 = .ok (.iconst 1, 1) := by decide +kernel
theorem d_Mo_clearWatch_44 : decode b_Mo_clearWatch 44 = .ok (.ireturn, 1) := by decide +kernel
theorem d_Mo_state_0 : decode b_Mo_state 0 = .ok (.aload_n 0, 1) := by decide +kernel
theorem d_Mo_state_1 : decode b_Mo_state 1 = .ok (.iconst 0, 1) := by decide +kernel
theorem d_Mo_state_2 : decode b_Mo_state 2 = .ok (.putfield 54, 3) := by decide +kernel
theorem d_Mo_state_5 : decode b_Mo_state 5 = .ok (.iload_n 1, 1) := by decide +kernel
theorem d_Mo_state_6 : decode b_Mo_state 6 = .ok (.tableswitch 113 0 10 #[58, 63, 68, 73, 78, 83, 88, 93, 98, 103, 108], 58) := by decide +kernel
theorem d_Mo_state_64 : decode b_Mo_state 64 = .ok (.aload_n 0, 1) := by decide +kernel
theorem d_Mo_state_65 : decode b_Mo_state 65 = .ok (.getfield 63, 3) := by decide +kernel
theorem d_Mo_state_68 : decode b_Mo_state 68 = .ok (.ireturn, 1) := by decide +kernel
theorem d_Mo_state_69 : decode b_Mo_state 69 = .ok (.aload_n 0, 1) := by decide +kernel
theorem d_Mo_state_70 : decode b_Mo_state 70 = .ok (.getfield 57, 3) := by decide +kernel
theorem d_Mo_state_73 : decode b_Mo_state 73 = .ok (.ireturn, 1) := by decide +kernel
theorem d_Mo_state_74 : decode b_Mo_state 74 = .ok (.aload_n 0, 1) := by decide +kernel
theorem d_Mo_state_75 : decode b_Mo_state 75 = .ok (.getfield 66, 3) := by decide +kernel
theorem d_Mo_state_78 : decode b_Mo_state 78 = .ok (.ireturn, 1) := by decide +kernel
theorem d_Mo_state_79 : decode b_Mo_state 79 = .ok (.aload_n 0, 1) := by decide +kernel
theorem d_Mo_state_80 : decode b_Mo_state 80 = .ok (.getfield 69, 3) := by decide +kernel
theorem d_Mo_state_83 : decode b_Mo_state 83 = .ok (.ireturn, 1) := by decide +kernel
theorem d_Mo_state_84 : decode b_Mo_state 84 = .ok (.aload_n 0, 1) := by decide +kernel
theorem d_Mo_state_85 : decode b_Mo_state 85 = .ok (.getfield 45, 3) := by decide +kernel
theorem d_Mo_state_88 : decode b_Mo_state 88 = .ok (.ireturn, 1) := by decide +kernel
theorem d_Mo_state_89 : decode b_Mo_state 89 = .ok (.aload_n 0, 1) := by decide +kernel
theorem d_Mo_state_90 : decode b_Mo_state 90 = .ok (.getfield 72, 3) := by decide +kernel
theorem d_Mo_state_93 : decode b_Mo_state 93 = .ok (.ireturn, 1) := by decide +kernel
theorem d_Mo_state_94 : decode b_Mo_state 94 = .ok (.aload_n 0, 1) := by decide +kernel
theorem d_Mo_state_95 : decode b_Mo_state 95 = .ok (.getfield 75, 3) := by decide +kernel
theorem d_Mo_state_98 : decode b_Mo_state 98 = .ok (.ireturn, 1) := by decide +kernel
theorem d_Mo_state_99 : decode b_Mo_state 99 = .ok (.aload_n 0, 1) := by decide +kernel
theorem d_Mo_state_100 : decode b_Mo_state 100 = .ok (.getfield 128, 3) := by decide +kernel
theorem d_Mo_state_103 : decode b_Mo_state 103 = .ok (.ireturn, 1) := by decide +kernel
theorem d_Mo_state_104 : decode b_Mo_state 104 = .ok (.aload_n 0, 1) := by decide +kernel
theorem d_Mo_state_105 : decode b_Mo_state 105 = .ok (.getfield 122, 3) := by decide +kernel
theorem d_Mo_state_108 : decode b_Mo_state 108 = .ok (.ireturn, 1) := by decide +kernel
theorem d_Mo_state_109 : decode b_Mo_state 109 = .ok (.aload_n 0, 1) := by decide +kernel
theorem d_Mo_state_110 : decode b_Mo_state 110 = .ok (.getfield 38, 3) := by decide +kernel
theorem d_Mo_state_113 : decode b_Mo_state 113 = .ok (.ireturn, 1) := by decide +kernel
theorem d_Mo_state_114 : decode b_Mo_state 114 = .ok (.aload_n 0, 1) := by decide +kernel
theorem d_Mo_state_115 : decode b_Mo_state 115 = .ok (.getfield 51, 3) := by decide +kernel
theorem d_Mo_state_118 : decode b_Mo_state 118 = .ok (.ireturn, 1) := by decide +kernel
theorem d_Mo_state_119 : decode b_Mo_state 119 = .ok (.aload_n 0, 1) := by decide +kernel
theorem d_Mo_state_120 : decode b_Mo_state 120 = .ok (.iconst 1, 1) := by decide +kernel
theorem d_Mo_state_121 : decode b_Mo_state 121 = .ok (.invokevirtual 153, 3) := by decide +kernel
theorem d_Mo_state_124 : decode b_Mo_state 124 = .ok (.ireturn, 1) := by decide +kernel
theorem d_Mo_cell_0 : decode b_Mo_cell 0 = .ok (.aload_n 0, 1) := by decide +kernel
theorem d_Mo_cell_1 : decode b_Mo_cell 1 = .ok (.iconst 0, 1) := by decide +kernel
theorem d_Mo_cell_2 : decode b_Mo_cell 2 = .ok (.putfield 54, 3) := by decide +kernel
theorem d_Mo_cell_5 : decode b_Mo_cell 5 = .ok (.iload_n 1, 1) := by decide +kernel
theorem d_Mo_cell_6 : decode b_Mo_cell 6 = .ok (.bipush 32, 2) := by decide +kernel
theorem d_Mo_cell_8 : decode b_Mo_cell 8 = .ok (.invokestatic 149, 3) := by decide +kernel
theorem d_Mo_cell_11 : decode b_Mo_cell 11 = .ok (.ifCond .eq 7, 3) := by decide +kernel
theorem d_Mo_cell_14 : decode b_Mo_cell 14 = .ok (.iconst 0, 1) := by decide +kernel
theorem d_Mo_cell_15 : decode b_Mo_cell 15 = .ok (.goto 9, 3) := by decide +kernel
theorem d_Mo_cell_18 : decode b_Mo_cell 18 = .ok (.aload_n 0, 1) := by decide +kernel
theorem d_Mo_cell_19 : decode b_Mo_cell 19 = .ok (.getfield 23, 3) := by decide +kernel
theorem d_Mo_cell_22 : decode b_Mo_cell 22 = .ok (.iload_n 1, 1) := by decide +kernel
theorem d_Mo_cell_23 : decode b_Mo_cell 23 = .ok (.iaload, 1) := by decide +kernel
theorem d_Mo_cell_24 : decode b_Mo_cell 24 = .ok (.ireturn, 1) := by decide +kernel
theorem d_Mo_stack_0 : decode b_Mo_stack 0 = .ok (.aload_n 0, 1) := by decide +kernel
theorem d_Mo_stack_1 : decode b_Mo_stack 1 = .ok (.iconst 0, 1) := by decide +kernel
theorem d_Mo_stack_2 : decode b_Mo_stack 2 = .ok (.putfield 54, 3) := by decide +kernel
theorem d_Mo_stack_5 : decode b_Mo_stack 5 = .ok (.iload_n 1, 1) := by decide +kernel
theorem d_Mo_stack_6 : decode b_Mo_stack 6 = .ok (.aload_n 0, 1) := by decide +kernel
theorem d_Mo_stack_7 : decode b_Mo_stack 7 = .ok (.getfield 75, 3) := by decide +kernel
theorem d_Mo_stack_10 : decode b_Mo_stack 10 = .ok (.invokestatic 149, 3) := by decide +kernel
theorem d_Mo_stack_13 : decode b_Mo_stack 13 = .ok (.ifCond .eq 11, 3) := by decide +kernel
theorem d_Mo_stack_16 : decode b_Mo_stack 16 = .ok (.aload_n 0, 1) := by decide +kernel
theorem d_Mo_stack_17 : decode b_Mo_stack 17 = .ok (.iconst 1, 1) := by decide +kernel
theorem d_Mo_stack_18 : decode b_Mo_stack 18 = .ok (.invokevirtual 153, 3) := by decide +kernel
theorem d_Mo_stack_21 : decode b_Mo_stack 21 = .ok (.goto 9, 3) := by decide +kernel
theorem d_Mo_stack_24 : decode b_Mo_stack 24 = .ok (.aload_n 0, 1) := by decide +kernel
theorem d_Mo_stack_25 : decode b_Mo_stack 25 = .ok (.getfield 26, 3) := by decide +kernel
theorem d_Mo_stack_28 : decode b_Mo_stack 28 = .ok (.iload_n 1, 1) := by decide +kernel
theorem d_Mo_stack_29 : decode b_Mo_stack 29 = .ok (.iaload, 1) := by decide +kernel
theorem d_Mo_stack_30 : decode b_Mo_stack 30 = .ok (.ireturn, 1) := by decide +kernel
theorem d_Mo_checkpoint_0 : decode b_Mo_checkpoint 0 = .ok (.aload_n 0, 1) := by decide +kernel
theorem d_Mo_checkpoint_1 : decode b_Mo_checkpoint 1 = .ok (.iconst 0, 1) := by decide +kernel
theorem d_Mo_checkpoint_2 : decode b_Mo_checkpoint 2 = .ok (.putfield 54, 3) := by decide +kernel
theorem d_Mo_checkpoint_5 : decode b_Mo_checkpoint 5 = .ok (.iload_n 1, 1) := by decide +kernel
theorem d_Mo_checkpoint_6 : decode b_Mo_checkpoint 6 = .ok (.aload_n 0, 1) := by decide +kernel
theorem d_Mo_checkpoint_7 : decode b_Mo_checkpoint 7 = .ok (.getfield 51, 3) := by decide +kernel
theorem d_Mo_checkpoint_10 : decode b_Mo_checkpoint 10 = .ok (.invokestatic 149, 3) := by decide +kernel
theorem d_Mo_checkpoint_13 : decode b_Mo_checkpoint 13 = .ok (.ifCond .eq 11, 3) := by decide +kernel
theorem d_Mo_checkpoint_16 : decode b_Mo_checkpoint 16 = .ok (.aload_n 0, 1) := by decide +kernel
theorem d_Mo_checkpoint_17 : decode b_Mo_checkpoint 17 = .ok (.iconst 1, 1) := by decide +kernel
theorem d_Mo_checkpoint_18 : decode b_Mo_checkpoint 18 = .ok (.invokevirtual 153, 3) := by decide +kernel
theorem d_Mo_checkpoint_21 : decode b_Mo_checkpoint 21 = .ok (.goto 9, 3) := by decide +kernel
theorem d_Mo_checkpoint_24 : decode b_Mo_checkpoint 24 = .ok (.aload_n 0, 1) := by decide +kernel
theorem d_Mo_checkpoint_25 : decode b_Mo_checkpoint 25 = .ok (.getfield 42, 3) := by decide +kernel
theorem d_Mo_checkpoint_28 : decode b_Mo_checkpoint 28 = .ok (.iload_n 1, 1) := by decide +kernel
theorem d_Mo_checkpoint_29 : decode b_Mo_checkpoint 29 = .ok (.iaload, 1) := by decide +kernel
theorem d_Mo_checkpoint_30 : decode b_Mo_checkpoint 30 = .ok (.ireturn, 1) := by decide +kernel
