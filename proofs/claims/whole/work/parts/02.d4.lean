theorem dX4_init_0 : decode cX4_init 0 = .ok (.aload_n 0, 1) := by decide +kernel
theorem dX4_init_1 : decode cX4_init 1 = .ok (.invokespecial 1, 3) := by decide +kernel
theorem dX4_init_4 : decode cX4_init 4 = .ok (.aload_n 0, 1) := by decide +kernel
theorem dX4_init_5 : decode cX4_init 5 = .ok (.bipush 109, 2) := by decide +kernel
theorem dX4_init_7 : decode cX4_init 7 = .ok (.newarray .int, 2) := by decide +kernel
theorem dX4_init_9 : decode cX4_init 9 = .ok (.putfield 7, 3) := by decide +kernel
theorem dX4_init_12 : decode cX4_init 12 = .ok (.aload_n 0, 1) := by decide +kernel
theorem dX4_init_13 : decode cX4_init 13 = .ok (.sipush 654, 3) := by decide +kernel
theorem dX4_init_16 : decode cX4_init 16 = .ok (.newarray .int, 2) := by decide +kernel
theorem dX4_init_18 : decode cX4_init 18 = .ok (.putfield 13, 3) := by decide +kernel
theorem dX4_init_21 : decode cX4_init 21 = .ok (.aload_n 0, 1) := by decide +kernel
theorem dX4_init_22 : decode cX4_init 22 = .ok (.sipush 218, 3) := by decide +kernel
theorem dX4_init_25 : decode cX4_init 25 = .ok (.newarray .int, 2) := by decide +kernel
theorem dX4_init_27 : decode cX4_init 27 = .ok (.putfield 16, 3) := by decide +kernel
theorem dX4_init_30 : decode cX4_init 30 = .ok (.aload_n 0, 1) := by decide +kernel
theorem dX4_init_31 : decode cX4_init 31 = .ok (.iconst 2, 1) := by decide +kernel
theorem dX4_init_32 : decode cX4_init 32 = .ok (.newarray .boolean, 2) := by decide +kernel
theorem dX4_init_34 : decode cX4_init 34 = .ok (.putfield 19, 3) := by decide +kernel
theorem dX4_init_37 : decode cX4_init 37 = .ok (.aload_n 0, 1) := by decide +kernel
theorem dX4_init_38 : decode cX4_init 38 = .ok (.bipush 109, 2) := by decide +kernel
theorem dX4_init_40 : decode cX4_init 40 = .ok (.newarray .int, 2) := by decide +kernel
theorem dX4_init_42 : decode cX4_init 42 = .ok (.putfield 23, 3) := by decide +kernel
theorem dX4_init_45 : decode cX4_init 45 = .ok (.aload_n 0, 1) := by decide +kernel
theorem dX4_init_46 : decode cX4_init 46 = .ok (.bipush 60, 2) := by decide +kernel
theorem dX4_init_48 : decode cX4_init 48 = .ok (.newarray .int, 2) := by decide +kernel
theorem dX4_init_50 : decode cX4_init 50 = .ok (.putfield 26, 3) := by decide +kernel
theorem dX4_init_53 : decode cX4_init 53 = .ok (.iconst 0, 1) := by decide +kernel
theorem dX4_init_54 : decode cX4_init 54 = .ok (.istore_n 1, 1) := by decide +kernel
theorem dX4_init_55 : decode cX4_init 55 = .ok (.iload_n 1, 1) := by decide +kernel
theorem dX4_init_56 : decode cX4_init 56 = .ok (.bipush 6, 2) := by decide +kernel
theorem dX4_init_58 : decode cX4_init 58 = .ok (.if_icmp .ge 28, 3) := by decide +kernel
theorem dX4_init_61 : decode cX4_init 61 = .ok (.aload_n 0, 1) := by decide +kernel
theorem dX4_init_62 : decode cX4_init 62 = .ok (.getfield 7, 3) := by decide +kernel
theorem dX4_init_65 : decode cX4_init 65 = .ok (.iload_n 1, 1) := by decide +kernel
theorem dX4_init_66 : decode cX4_init 66 = .ok (.bipush 100, 2) := by decide +kernel
theorem dX4_init_68 : decode cX4_init 68 = .ok (.iastore, 1) := by decide +kernel
theorem dX4_init_69 : decode cX4_init 69 = .ok (.aload_n 0, 1) := by decide +kernel
theorem dX4_init_70 : decode cX4_init 70 = .ok (.getfield 7, 3) := by decide +kernel
theorem dX4_init_73 : decode cX4_init 73 = .ok (.bipush 6, 2) := by decide +kernel
theorem dX4_init_75 : decode cX4_init 75 = .ok (.iload_n 1, 1) := by decide +kernel
theorem dX4_init_76 : decode cX4_init 76 = .ok (.iadd, 1) := by decide +kernel
theorem dX4_init_77 : decode cX4_init 77 = .ok (.bipush 20, 2) := by decide +kernel
theorem dX4_init_79 : decode cX4_init 79 = .ok (.iastore, 1) := by decide +kernel
theorem dX4_init_80 : decode cX4_init 80 = .ok (.iinc 1 1, 3) := by decide +kernel
theorem dX4_init_83 : decode cX4_init 83 = .ok (.goto (-28), 3) := by decide +kernel
theorem dX4_init_86 : decode cX4_init 86 = .ok (.aload_n 0, 1) := by decide +kernel
theorem dX4_init_87 : decode cX4_init 87 = .ok (.getfield 7, 3) := by decide +kernel
theorem dX4_init_90 : decode cX4_init 90 = .ok (.bipush 98, 2) := by decide +kernel
theorem dX4_init_92 : decode cX4_init 92 = .ok (.bipush 10, 2) := by decide +kernel
theorem dX4_init_94 : decode cX4_init 94 = .ok (.iastore, 1) := by decide +kernel
theorem dX4_init_95 : decode cX4_init 95 = .ok (.aload_n 0, 1) := by decide +kernel
theorem dX4_init_96 : decode cX4_init 96 = .ok (.getfield 7, 3) := by decide +kernel
theorem dX4_init_99 : decode cX4_init 99 = .ok (.bipush 99, 2) := by decide +kernel
theorem dX4_init_101 : decode cX4_init 101 = .ok (.bipush 6, 2) := by decide +kernel
theorem dX4_init_103 : decode cX4_init 103 = .ok (.iastore, 1) := by decide +kernel
theorem dX4_init_104 : decode cX4_init 104 = .ok (.aload_n 0, 1) := by decide +kernel
theorem dX4_init_105 : decode cX4_init 105 = .ok (.getfield 7, 3) := by decide +kernel
theorem dX4_init_108 : decode cX4_init 108 = .ok (.bipush 100, 2) := by decide +kernel
theorem dX4_init_110 : decode cX4_init 110 = .ok (.iconst 5, 1) := by decide +kernel
theorem dX4_init_111 : decode cX4_init 111 = .ok (.iastore, 1) := by decide +kernel
theorem dX4_init_112 : decode cX4_init 112 = .ok (.return_, 1) := by decide +kernel
theorem dX4_thrown_0 : decode cX4_thrown 0 = .ok (.aload_n 0, 1) := by decide +kernel
theorem dX4_thrown_1 : decode cX4_thrown 1 = .ok (.getfield 29, 3) := by decide +kernel
theorem dX4_thrown_4 : decode cX4_thrown 4 = .ok (.ireturn, 1) := by decide +kernel
theorem dX4_throwing_0 : decode cX4_throwing 0 = .ok (.aload_n 0, 1) := by decide +kernel
theorem dX4_throwing_1 : decode cX4_throwing 1 = .ok (.iload_n 1, 1) := by decide +kernel
theorem dX4_throwing_2 : decode cX4_throwing 2 = .ok (.putfield 29, 3) := by decide +kernel
theorem dX4_throwing_5 : decode cX4_throwing 5 = .ok (.iconst 0, 1) := by decide +kernel
theorem dX4_throwing_6 : decode cX4_throwing 6 = .ok (.ireturn, 1) := by decide +kernel
theorem dX4_in_0 : decode cX4_in 0 = .ok (.iload_n 0, 1) := by decide +kernel
theorem dX4_in_1 : decode cX4_in 1 = .ok (.iload_n 1, 1) := by decide +kernel
theorem dX4_in_2 : decode cX4_in 2 = .ok (.if_icmp .lt 12, 3) := by decide +kernel
theorem dX4_in_5 : decode cX4_in 5 = .ok (.iload_n 0, 1) := by decide +kernel
theorem dX4_in_6 : decode cX4_in 6 = .ok (.iload_n 2, 1) := by decide +kernel
theorem dX4_in_7 : decode cX4_in 7 = .ok (.if_icmp .gt 7, 3) := by decide +kernel
theorem dX4_in_10 : decode cX4_in 10 = .ok (.iconst 1, 1) := by decide +kernel
theorem dX4_in_11 : decode cX4_in 11 = .ok (.goto 4, 3) := by decide +kernel
theorem dX4_in_14 : decode cX4_in 14 = .ok (.iconst 0, 1) := by decide +kernel
theorem dX4_in_15 : decode cX4_in 15 = .ok (.ireturn, 1) := by decide +kernel
theorem dX4_isKind_0 : decode cX4_isKind 0 = .ok (.iload_n 0, 1) := by decide +kernel
theorem dX4_isKind_1 : decode cX4_isKind 1 = .ok (.iconst 0, 1) := by decide +kernel
theorem dX4_isKind_2 : decode cX4_isKind 2 = .ok (.iconst 5, 1) := by decide +kernel
theorem dX4_isKind_3 : decode cX4_isKind 3 = .ok (.invokestatic 33, 3) := by decide +kernel
theorem dX4_isKind_6 : decode cX4_isKind 6 = .ok (.ireturn, 1) := by decide +kernel
theorem dX4_isClient_0 : decode cX4_isClient 0 = .ok (.iload_n 0, 1) := by decide +kernel
theorem dX4_isClient_1 : decode cX4_isClient 1 = .ok (.iconst 0, 1) := by decide +kernel
theorem dX4_isClient_2 : decode cX4_isClient 2 = .ok (.bipush 7, 2) := by decide +kernel
theorem dX4_isClient_4 : decode cX4_isClient 4 = .ok (.invokestatic 33, 3) := by decide +kernel
theorem dX4_isClient_7 : decode cX4_isClient 7 = .ok (.ireturn, 1) := by decide +kernel
theorem dX4_save_0 : decode cX4_save 0 = .ok (.aload_n 0, 1) := by decide +kernel
theorem dX4_save_1 : decode cX4_save 1 = .ok (.getfield 37, 3) := by decide +kernel
theorem dX4_save_4 : decode cX4_save 4 = .ok (.bipush 6, 2) := by decide +kernel
theorem dX4_save_6 : decode cX4_save 6 = .ok (.if_icmp .ne 43, 3) := by decide +kernel
theorem dX4_save_9 : decode cX4_save 9 = .ok (.iconst 0, 1) := by decide +kernel
theorem dX4_save_10 : decode cX4_save 10 = .ok (.istore_n 1, 1) := by decide +kernel
theorem dX4_save_11 : decode cX4_save 11 = .ok (.iload_n 1, 1) := by decide +kernel
theorem dX4_save_12 : decode cX4_save 12 = .ok (.sipush 545, 3) := by decide +kernel
theorem dX4_save_15 : decode cX4_save 15 = .ok (.if_icmp .ge 24, 3) := by decide +kernel
theorem dX4_save_18 : decode cX4_save 18 = .ok (.aload_n 0, 1) := by decide +kernel
theorem dX4_save_19 : decode cX4_save 19 = .ok (.getfield 13, 3) := by decide +kernel
theorem dX4_save_22 : decode cX4_save 22 = .ok (.iload_n 1, 1) := by decide +kernel
theorem dX4_save_23 : decode cX4_save 23 = .ok (.aload_n 0, 1) := by decide +kernel
theorem dX4_save_24 : decode cX4_save 24 = .ok (.getfield 13, 3) := by decide +kernel
theorem dX4_save_27 : decode cX4_save 27 = .ok (.bipush 109, 2) := by decide +kernel
theorem dX4_save_29 : decode cX4_save 29 = .ok (.iload_n 1, 1) := by decide +kernel
theorem dX4_save_30 : decode cX4_save 30 = .ok (.iadd, 1) := by decide +kernel
theorem dX4_save_31 : decode cX4_save 31 = .ok (.iaload, 1) := by decide +kernel
theorem dX4_save_32 : decode cX4_save 32 = .ok (.iastore, 1) := by decide +kernel
theorem dX4_save_33 : decode cX4_save 33 = .ok (.iinc 1 1, 3) := by decide +kernel
theorem dX4_save_36 : decode cX4_save 36 = .ok (.goto (-25), 3) := by decide +kernel
theorem dX4_save_39 : decode cX4_save 39 = .ok (.aload_n 0, 1) := by decide +kernel
theorem dX4_save_40 : decode cX4_save 40 = .ok (.dup, 1) := by decide +kernel
theorem dX4_save_41 : decode cX4_save 41 = .ok (.getfield 37, 3) := by decide +kernel
theorem dX4_save_44 : decode cX4_save 44 = .ok (.iconst 1, 1) := by decide +kernel
theorem dX4_save_45 : decode cX4_save 45 = .ok (.isub, 1) := by decide +kernel
theorem dX4_save_46 : decode cX4_save 46 = .ok (.putfield 37, 3) := by decide +kernel
theorem dX4_save_49 : decode cX4_save 49 = .ok (.iconst 0, 1) := by decide +kernel
theorem dX4_save_50 : decode cX4_save 50 = .ok (.istore_n 1, 1) := by decide +kernel
theorem dX4_save_51 : decode cX4_save 51 = .ok (.iload_n 1, 1) := by decide +kernel
theorem dX4_save_52 : decode cX4_save 52 = .ok (.bipush 109, 2) := by decide +kernel
theorem dX4_save_54 : decode cX4_save 54 = .ok (.if_icmp .ge 29, 3) := by decide +kernel
theorem dX4_save_57 : decode cX4_save 57 = .ok (.aload_n 0, 1) := by decide +kernel
theorem dX4_save_58 : decode cX4_save 58 = .ok (.getfield 13, 3) := by decide +kernel
theorem dX4_save_61 : decode cX4_save 61 = .ok (.bipush 109, 2) := by decide +kernel
theorem dX4_save_63 : decode cX4_save 63 = .ok (.aload_n 0, 1) := by decide +kernel
theorem dX4_save_64 : decode cX4_save 64 = .ok (.getfield 37, 3) := by decide +kernel
theorem dX4_save_67 : decode cX4_save 67 = .ok (.imul, 1) := by decide +kernel
theorem dX4_save_68 : decode cX4_save 68 = .ok (.iload_n 1, 1) := by decide +kernel
theorem dX4_save_69 : decode cX4_save 69 = .ok (.iadd, 1) := by decide +kernel
theorem dX4_save_70 : decode cX4_save 70 = .ok (.aload_n 0, 1) := by decide +kernel
theorem dX4_save_71 : decode cX4_save 71 = .ok (.getfield 7, 3) := by decide +kernel
theorem dX4_save_74 : decode cX4_save 74 = .ok (.iload_n 1, 1) := by decide +kernel
theorem dX4_save_75 : decode cX4_save 75 = .ok (.iaload, 1) := by decide +kernel
theorem dX4_save_76 : decode cX4_save 76 = .ok (.iastore, 1) := by decide +kernel
theorem dX4_save_77 : decode cX4_save 77 = .ok (.iinc 1 1, 3) := by decide +kernel
theorem dX4_save_80 : decode cX4_save 80 = .ok (.goto (-29), 3) := by decide +kernel
theorem dX4_save_83 : decode cX4_save 83 = .ok (.aload_n 0, 1) := by decide +kernel
theorem dX4_save_84 : decode cX4_save 84 = .ok (.dup, 1) := by decide +kernel
theorem dX4_save_85 : decode cX4_save 85 = .ok (.getfield 37, 3) := by decide +kernel
theorem dX4_save_88 : decode cX4_save 88 = .ok (.iconst 1, 1) := by decide +kernel
theorem dX4_save_89 : decode cX4_save 89 = .ok (.iadd, 1) := by decide +kernel
theorem dX4_save_90 : decode cX4_save 90 = .ok (.putfield 37, 3) := by decide +kernel
theorem dX4_save_93 : decode cX4_save 93 = .ok (.return_, 1) := by decide +kernel
theorem dX4_keepsAside_0 : decode cX4_keepsAside 0 = .ok (.iconst 0, 1) := by decide +kernel
theorem dX4_keepsAside_1 : decode cX4_keepsAside 1 = .ok (.istore_n 1, 1) := by decide +kernel
theorem dX4_keepsAside_2 : decode cX4_keepsAside 2 = .ok (.iload_n 1, 1) := by decide +kernel
theorem dX4_keepsAside_3 : decode cX4_keepsAside 3 = .ok (.bipush 109, 2) := by decide +kernel
theorem dX4_keepsAside_5 : decode cX4_keepsAside 5 = .ok (.if_icmp .ge 21, 3) := by decide +kernel
theorem dX4_keepsAside_8 : decode cX4_keepsAside 8 = .ok (.aload_n 0, 1) := by decide +kernel
theorem dX4_keepsAside_9 : decode cX4_keepsAside 9 = .ok (.getfield 23, 3) := by decide +kernel
theorem dX4_keepsAside_12 : decode cX4_keepsAside 12 = .ok (.iload_n 1, 1) := by decide +kernel
theorem dX4_keepsAside_13 : decode cX4_keepsAside 13 = .ok (.aload_n 0, 1) := by decide +kernel
theorem dX4_keepsAside_14 : decode cX4_keepsAside 14 = .ok (.getfield 7, 3) := by decide +kernel
theorem dX4_keepsAside_17 : decode cX4_keepsAside 17 = .ok (.iload_n 1, 1) := by decide +kernel
theorem dX4_keepsAside_18 : decode cX4_keepsAside 18 = .ok (.iaload, 1) := by decide +kernel
theorem dX4_keepsAside_19 : decode cX4_keepsAside 19 = .ok (.iastore, 1) := by decide +kernel
theorem dX4_keepsAside_20 : decode cX4_keepsAside 20 = .ok (.iinc 1 1, 3) := by decide +kernel
theorem dX4_keepsAside_23 : decode cX4_keepsAside 23 = .ok (.goto (-21), 3) := by decide +kernel
theorem dX4_keepsAside_26 : decode cX4_keepsAside 26 = .ok (.return_, 1) := by decide +kernel
theorem dX4_putsBack_0 : decode cX4_putsBack 0 = .ok (.iconst 0, 1) := by decide +kernel
theorem dX4_putsBack_1 : decode cX4_putsBack 1 = .ok (.istore_n 1, 1) := by decide +kernel
theorem dX4_putsBack_2 : decode cX4_putsBack 2 = .ok (.iload_n 1, 1) := by decide +kernel
theorem dX4_putsBack_3 : decode cX4_putsBack 3 = .ok (.bipush 109, 2) := by decide +kernel
theorem dX4_putsBack_5 : decode cX4_putsBack 5 = .ok (.if_icmp .ge 21, 3) := by decide +kernel
theorem dX4_putsBack_8 : decode cX4_putsBack 8 = .ok (.aload_n 0, 1) := by decide +kernel
theorem dX4_putsBack_9 : decode cX4_putsBack 9 = .ok (.getfield 7, 3) := by decide +kernel
theorem dX4_putsBack_12 : decode cX4_putsBack 12 = .ok (.iload_n 1, 1) := by decide +kernel
theorem dX4_putsBack_13 : decode cX4_putsBack 13 = .ok (.aload_n 0, 1) := by decide +kernel
theorem dX4_putsBack_14 : decode cX4_putsBack 14 = .ok (.getfield 23, 3) := by decide +kernel
theorem dX4_putsBack_17 : decode cX4_putsBack 17 = .ok (.iload_n 1, 1) := by decide +kernel
theorem dX4_putsBack_18 : decode cX4_putsBack 18 = .ok (.iaload, 1) := by decide +kernel
theorem dX4_putsBack_19 : decode cX4_putsBack 19 = .ok (.iastore, 1) := by decide +kernel
theorem dX4_putsBack_20 : decode cX4_putsBack 20 = .ok (.iinc 1 1, 3) := by decide +kernel
theorem dX4_putsBack_23 : decode cX4_putsBack 23 = .ok (.goto (-21), 3) := by decide +kernel
theorem dX4_putsBack_26 : decode cX4_putsBack 26 = .ok (.return_, 1) := by decide +kernel
theorem dX4_of_0 : decode cX4_of 0 = .ok (.aload_n 0, 1) := by decide +kernel
theorem dX4_of_1 : decode cX4_of 1 = .ok (.getfield 7, 3) := by decide +kernel
theorem dX4_of_4 : decode cX4_of 4 = .ok (.bipush 18, 2) := by decide +kernel
theorem dX4_of_6 : decode cX4_of 6 = .ok (.bipush 10, 2) := by decide +kernel
theorem dX4_of_8 : decode cX4_of 8 = .ok (.iload_n 1, 1) := by decide +kernel
theorem dX4_of_9 : decode cX4_of 9 = .ok (.imul, 1) := by decide +kernel
theorem dX4_of_10 : decode cX4_of 10 = .ok (.iadd, 1) := by decide +kernel
theorem dX4_of_11 : decode cX4_of 11 = .ok (.iload_n 2, 1) := by decide +kernel
theorem dX4_of_12 : decode cX4_of 12 = .ok (.iadd, 1) := by decide +kernel
theorem dX4_of_13 : decode cX4_of 13 = .ok (.iaload, 1) := by decide +kernel
theorem dX4_of_14 : decode cX4_of 14 = .ok (.ireturn, 1) := by decide +kernel
theorem dX4_lay_0 : decode cX4_lay 0 = .ok (.aload_n 0, 1) := by decide +kernel
theorem dX4_lay_1 : decode cX4_lay 1 = .ok (.getfield 7, 3) := by decide +kernel
theorem dX4_lay_4 : decode cX4_lay 4 = .ok (.bipush 18, 2) := by decide +kernel
theorem dX4_lay_6 : decode cX4_lay 6 = .ok (.bipush 10, 2) := by decide +kernel
theorem dX4_lay_8 : decode cX4_lay 8 = .ok (.iload_n 1, 1) := by decide +kernel
theorem dX4_lay_9 : decode cX4_lay 9 = .ok (.imul, 1) := by decide +kernel
theorem dX4_lay_10 : decode cX4_lay 10 = .ok (.iadd, 1) := by decide +kernel
theorem dX4_lay_11 : decode cX4_lay 11 = .ok (.iload_n 2, 1) := by decide +kernel
theorem dX4_lay_12 : decode cX4_lay 12 = .ok (.iadd, 1) := by decide +kernel
theorem dX4_lay_13 : decode cX4_lay 13 = .ok (.iload_n 3, 1) := by decide +kernel
theorem dX4_lay_14 : decode cX4_lay 14 = .ok (.iastore, 1) := by decide +kernel
theorem dX4_lay_15 : decode cX4_lay 15 = .ok (.return_, 1) := by decide +kernel
theorem dX4_grow_0 : decode cX4_grow 0 = .ok (.aload_n 0, 1) := by decide +kernel
theorem dX4_grow_1 : decode cX4_grow 1 = .ok (.getfield 7, 3) := by decide +kernel
theorem dX4_grow_4 : decode cX4_grow 4 = .ok (.bipush 18, 2) := by decide +kernel
theorem dX4_grow_6 : decode cX4_grow 6 = .ok (.bipush 10, 2) := by decide +kernel
theorem dX4_grow_8 : decode cX4_grow 8 = .ok (.iload_n 1, 1) := by decide +kernel
theorem dX4_grow_9 : decode cX4_grow 9 = .ok (.imul, 1) := by decide +kernel
theorem dX4_grow_10 : decode cX4_grow 10 = .ok (.iadd, 1) := by decide +kernel
theorem dX4_grow_11 : decode cX4_grow 11 = .ok (.iload_n 2, 1) := by decide +kernel
theorem dX4_grow_12 : decode cX4_grow 12 = .ok (.iadd, 1) := by decide +kernel
theorem dX4_grow_13 : decode cX4_grow 13 = .ok (.dup2, 1) := by decide +kernel
theorem dX4_grow_14 : decode cX4_grow 14 = .ok (.iaload, 1) := by decide +kernel
theorem dX4_grow_15 : decode cX4_grow 15 = .ok (.iload_n 3, 1) := by decide +kernel
theorem dX4_grow_16 : decode cX4_grow 16 = .ok (.iadd, 1) := by decide +kernel
theorem dX4_grow_17 : decode cX4_grow 17 = .ok (.iastore, 1) := by decide +kernel
theorem dX4_grow_18 : decode cX4_grow 18 = .ok (.return_, 1) := by decide +kernel
theorem dX4_fallen_0 : decode cX4_fallen 0 = .ok (.iload_n 1, 1) := by decide +kernel
theorem dX4_fallen_1 : decode cX4_fallen 1 = .ok (.bipush 100, 2) := by decide +kernel
theorem dX4_fallen_3 : decode cX4_fallen 3 = .ok (.iload_n 2, 1) := by decide +kernel
theorem dX4_fallen_4 : decode cX4_fallen 4 = .ok (.isub, 1) := by decide +kernel
theorem dX4_fallen_5 : decode cX4_fallen 5 = .ok (.imul, 1) := by decide +kernel
theorem dX4_fallen_6 : decode cX4_fallen 6 = .ok (.bipush 100, 2) := by decide +kernel
theorem dX4_fallen_8 : decode cX4_fallen 8 = .ok (.idiv, 1) := by decide +kernel
theorem dX4_fallen_9 : decode cX4_fallen 9 = .ok (.ireturn, 1) := by decide +kernel
theorem dX4_coverIf_0 : decode cX4_coverIf 0 = .ok (.iconst 0, 1) := by decide +kernel
theorem dX4_coverIf_1 : decode cX4_coverIf 1 = .ok (.istore 4, 2) := by decide +kernel
theorem dX4_coverIf_3 : decode cX4_coverIf 3 = .ok (.iconst 0, 1) := by decide +kernel
theorem dX4_coverIf_4 : decode cX4_coverIf 4 = .ok (.istore 5, 2) := by decide +kernel
theorem dX4_coverIf_6 : decode cX4_coverIf 6 = .ok (.iload 5, 2) := by decide +kernel
theorem dX4_coverIf_8 : decode cX4_coverIf 8 = .ok (.bipush 6, 2) := by decide +kernel
theorem dX4_coverIf_10 : decode cX4_coverIf 10 = .ok (.if_icmp .ge 62, 3) := by decide +kernel
theorem dX4_coverIf_13 : decode cX4_coverIf 13 = .ok (.aload_n 0, 1) := by decide +kernel
theorem dX4_coverIf_14 : decode cX4_coverIf 14 = .ok (.aload_n 0, 1) := by decide +kernel
theorem dX4_coverIf_15 : decode cX4_coverIf 15 = .ok (.getfield 7, 3) := by decide +kernel
theorem dX4_coverIf_18 : decode cX4_coverIf 18 = .ok (.iload 5, 2) := by decide +kernel
theorem dX4_coverIf_20 : decode cX4_coverIf 20 = .ok (.iaload, 1) := by decide +kernel
theorem dX4_coverIf_21 : decode cX4_coverIf 21 = .ok (.iload_n 2, 1) := by decide +kernel
theorem dX4_coverIf_22 : decode cX4_coverIf 22 = .ok (.invokevirtual 40, 3) := by decide +kernel
theorem dX4_coverIf_25 : decode cX4_coverIf 25 = .ok (.istore 6, 2) := by decide +kernel
theorem dX4_coverIf_27 : decode cX4_coverIf 27 = .ok (.iload 4, 2) := by decide +kernel
theorem dX4_coverIf_29 : decode cX4_coverIf 29 = .ok (.aload_n 0, 1) := by decide +kernel
theorem dX4_coverIf_30 : decode cX4_coverIf 30 = .ok (.iload_n 1, 1) := by decide +kernel
theorem dX4_coverIf_31 : decode cX4_coverIf 31 = .ok (.iload 5, 2) := by decide +kernel
theorem dX4_coverIf_33 : decode cX4_coverIf 33 = .ok (.invokevirtual 44, 3) := by decide +kernel
theorem dX4_coverIf_36 : decode cX4_coverIf 36 = .ok (.iload 6, 2) := by decide +kernel
theorem dX4_coverIf_38 : decode cX4_coverIf 38 = .ok (.iload_n 3, 1) := by decide +kernel
theorem dX4_coverIf_39 : decode cX4_coverIf 39 = .ok (.if_icmp .ge 7, 3) := by decide +kernel
theorem dX4_coverIf_42 : decode cX4_coverIf 42 = .ok (.iload_n 3, 1) := by decide +kernel
theorem dX4_coverIf_43 : decode cX4_coverIf 43 = .ok (.goto 5, 3) := by decide +kernel
theorem dX4_coverIf_46 : decode cX4_coverIf 46 = .ok (.iload 6, 2) := by decide +kernel
theorem dX4_coverIf_48 : decode cX4_coverIf 48 = .ok (.imul, 1) := by decide +kernel
theorem dX4_coverIf_49 : decode cX4_coverIf 49 = .ok (.bipush 100, 2) := by decide +kernel
theorem dX4_coverIf_51 : decode cX4_coverIf 51 = .ok (.aload_n 0, 1) := by decide +kernel
theorem dX4_coverIf_52 : decode cX4_coverIf 52 = .ok (.getfield 7, 3) := by decide +kernel
theorem dX4_coverIf_55 : decode cX4_coverIf 55 = .ok (.bipush 6, 2) := by decide +kernel
theorem dX4_coverIf_57 : decode cX4_coverIf 57 = .ok (.iload 5, 2) := by decide +kernel
theorem dX4_coverIf_59 : decode cX4_coverIf 59 = .ok (.iadd, 1) := by decide +kernel
theorem dX4_coverIf_60 : decode cX4_coverIf 60 = .ok (.iaload, 1) := by decide +kernel
theorem dX4_coverIf_61 : decode cX4_coverIf 61 = .ok (.isub, 1) := by decide +kernel
theorem dX4_coverIf_62 : decode cX4_coverIf 62 = .ok (.imul, 1) := by decide +kernel
theorem dX4_coverIf_63 : decode cX4_coverIf 63 = .ok (.iadd, 1) := by decide +kernel
theorem dX4_coverIf_64 : decode cX4_coverIf 64 = .ok (.istore 4, 2) := by decide +kernel
theorem dX4_coverIf_66 : decode cX4_coverIf 66 = .ok (.iinc 5 1, 3) := by decide +kernel
theorem dX4_coverIf_69 : decode cX4_coverIf 69 = .ok (.goto (-63), 3) := by decide +kernel
theorem dX4_coverIf_72 : decode cX4_coverIf 72 = .ok (.aload_n 0, 1) := by decide +kernel
theorem dX4_coverIf_73 : decode cX4_coverIf 73 = .ok (.iload_n 1, 1) := by decide +kernel
theorem dX4_coverIf_74 : decode cX4_coverIf 74 = .ok (.bipush 6, 2) := by decide +kernel
theorem dX4_coverIf_76 : decode cX4_coverIf 76 = .ok (.invokevirtual 44, 3) := by decide +kernel
theorem dX4_coverIf_79 : decode cX4_coverIf 79 = .ok (.iload 4, 2) := by decide +kernel
theorem dX4_coverIf_81 : decode cX4_coverIf 81 = .ok (.bipush 100, 2) := by decide +kernel
theorem dX4_coverIf_83 : decode cX4_coverIf 83 = .ok (.idiv, 1) := by decide +kernel
theorem dX4_coverIf_84 : decode cX4_coverIf 84 = .ok (.iadd, 1) := by decide +kernel
theorem dX4_coverIf_85 : decode cX4_coverIf 85 = .ok (.ireturn, 1) := by decide +kernel
theorem dX4_cover_0 : decode cX4_cover 0 = .ok (.aload_n 0, 1) := by decide +kernel
theorem dX4_cover_1 : decode cX4_cover 1 = .ok (.iload_n 1, 1) := by decide +kernel
theorem dX4_cover_2 : decode cX4_cover 2 = .ok (.iconst 0, 1) := by decide +kernel
theorem dX4_cover_3 : decode cX4_cover 3 = .ok (.iconst 1, 1) := by decide +kernel
theorem dX4_cover_4 : decode cX4_cover 4 = .ok (.invokevirtual 47, 3) := by decide +kernel
theorem dX4_cover_7 : decode cX4_cover 7 = .ok (.ireturn, 1) := by decide +kernel
theorem dX4_isCovered_0 : decode cX4_isCovered 0 = .ok (.aload_n 0, 1) := by decide +kernel
theorem dX4_isCovered_1 : decode cX4_isCovered 1 = .ok (.iload_n 1, 1) := by decide +kernel
theorem dX4_isCovered_2 : decode cX4_isCovered 2 = .ok (.bipush 7, 2) := by decide +kernel
theorem dX4_isCovered_4 : decode cX4_isCovered 4 = .ok (.invokevirtual 44, 3) := by decide +kernel
theorem dX4_isCovered_7 : decode cX4_isCovered 7 = .ok (.aload_n 0, 1) := by decide +kernel
theorem dX4_isCovered_8 : decode cX4_isCovered 8 = .ok (.iload_n 1, 1) := by decide +kernel
theorem dX4_isCovered_9 : decode cX4_isCovered 9 = .ok (.invokevirtual 51, 3) := by decide +kernel
theorem dX4_isCovered_12 : decode cX4_isCovered 12 = .ok (.if_icmp .gt 7, 3) := by decide +kernel
theorem dX4_isCovered_15 : decode cX4_isCovered 15 = .ok (.iconst 1, 1) := by decide +kernel
theorem dX4_isCovered_16 : decode cX4_isCovered 16 = .ok (.goto 4, 3) := by decide +kernel
theorem dX4_isCovered_19 : decode cX4_isCovered 19 = .ok (.iconst 0, 1) := by decide +kernel
theorem dX4_isCovered_20 : decode cX4_isCovered 20 = .ok (.ireturn, 1) := by decide +kernel
theorem dX4_called_0 : decode cX4_called 0 = .ok (.aload_n 0, 1) := by decide +kernel
theorem dX4_called_1 : decode cX4_called 1 = .ok (.iload_n 1, 1) := by decide +kernel
theorem dX4_called_2 : decode cX4_called 2 = .ok (.bipush 8, 2) := by decide +kernel
theorem dX4_called_4 : decode cX4_called 4 = .ok (.invokevirtual 44, 3) := by decide +kernel
theorem dX4_called_7 : decode cX4_called 7 = .ok (.ifCond .le 7, 3) := by decide +kernel
theorem dX4_called_10 : decode cX4_called 10 = .ok (.iconst 1, 1) := by decide +kernel
theorem dX4_called_11 : decode cX4_called 11 = .ok (.goto 4, 3) := by decide +kernel
theorem dX4_called_14 : decode cX4_called 14 = .ok (.iconst 0, 1) := by decide +kernel
theorem dX4_called_15 : decode cX4_called 15 = .ok (.ireturn, 1) := by decide +kernel
theorem dX4_looks_0 : decode cX4_looks 0 = .ok (.iconst 0, 1) := by decide +kernel
theorem dX4_looks_1 : decode cX4_looks 1 = .ok (.istore_n 1, 1) := by decide +kernel
theorem dX4_looks_2 : decode cX4_looks 2 = .ok (.iload_n 1, 1) := by decide +kernel
theorem dX4_looks_3 : decode cX4_looks 3 = .ok (.bipush 8, 2) := by decide +kernel
theorem dX4_looks_5 : decode cX4_looks 5 = .ok (.if_icmp .ge 90, 3) := by decide +kernel
theorem dX4_looks_8 : decode cX4_looks 8 = .ok (.aload_n 0, 1) := by decide +kernel
theorem dX4_looks_9 : decode cX4_looks 9 = .ok (.iload_n 1, 1) := by decide +kernel
theorem dX4_looks_10 : decode cX4_looks 10 = .ok (.invokevirtual 55, 3) := by decide +kernel
theorem dX4_looks_13 : decode cX4_looks 13 = .ok (.ifCond .ne 15, 3) := by decide +kernel
theorem dX4_looks_16 : decode cX4_looks 16 = .ok (.aload_n 0, 1) := by decide +kernel
theorem dX4_looks_17 : decode cX4_looks 17 = .ok (.iload_n 1, 1) := by decide +kernel
theorem dX4_looks_18 : decode cX4_looks 18 = .ok (.invokevirtual 59, 3) := by decide +kernel
theorem dX4_looks_21 : decode cX4_looks 21 = .ok (.ifCond .ne 7, 3) := by decide +kernel
theorem dX4_looks_24 : decode cX4_looks 24 = .ok (.iconst 1, 1) := by decide +kernel
theorem dX4_looks_25 : decode cX4_looks 25 = .ok (.goto 4, 3) := by decide +kernel
theorem dX4_looks_28 : decode cX4_looks 28 = .ok (.iconst 0, 1) := by decide +kernel
theorem dX4_looks_29 : decode cX4_looks 29 = .ok (.istore_n 2, 1) := by decide +kernel
theorem dX4_looks_30 : decode cX4_looks 30 = .ok (.aload_n 0, 1) := by decide +kernel
theorem dX4_looks_31 : decode cX4_looks 31 = .ok (.getfield 7, 3) := by decide +kernel
theorem dX4_looks_34 : decode cX4_looks 34 = .ok (.bipush 107, 2) := by decide +kernel
theorem dX4_looks_36 : decode cX4_looks 36 = .ok (.dup2, 1) := by decide +kernel
theorem dX4_looks_37 : decode cX4_looks 37 = .ok (.iaload, 1) := by decide +kernel
theorem dX4_looks_38 : decode cX4_looks 38 = .ok (.iload_n 2, 1) := by decide +kernel
theorem dX4_looks_39 : decode cX4_looks 39 = .ok (.ifCond .eq 7, 3) := by decide +kernel
theorem dX4_looks_42 : decode cX4_looks 42 = .ok (.iconst 1, 1) := by decide +kernel
theorem dX4_looks_43 : decode cX4_looks 43 = .ok (.goto 4, 3) := by decide +kernel
theorem dX4_looks_46 : decode cX4_looks 46 = .ok (.iconst 0, 1) := by decide +kernel
theorem dX4_looks_47 : decode cX4_looks 47 = .ok (.iadd, 1) := by decide +kernel
theorem dX4_looks_48 : decode cX4_looks 48 = .ok (.iastore, 1) := by decide +kernel
theorem dX4_looks_49 : decode cX4_looks 49 = .ok (.aload_n 0, 1) := by decide +kernel
theorem dX4_looks_50 : decode cX4_looks 50 = .ok (.iload_n 1, 1) := by decide +kernel
theorem dX4_looks_51 : decode cX4_looks 51 = .ok (.bipush 8, 2) := by decide +kernel
theorem dX4_looks_53 : decode cX4_looks 53 = .ok (.iload_n 2, 1) := by decide +kernel
theorem dX4_looks_54 : decode cX4_looks 54 = .ok (.ifCond .eq 13, 3) := by decide +kernel
theorem dX4_looks_57 : decode cX4_looks 57 = .ok (.aload_n 0, 1) := by decide +kernel
theorem dX4_looks_58 : decode cX4_looks 58 = .ok (.getfield 7, 3) := by decide +kernel
theorem dX4_looks_61 : decode cX4_looks 61 = .ok (.bipush 99, 2) := by decide +kernel
theorem dX4_looks_63 : decode cX4_looks 63 = .ok (.iaload, 1) := by decide +kernel
theorem dX4_looks_64 : decode cX4_looks 64 = .ok (.goto 22, 3) := by decide +kernel
theorem dX4_looks_67 : decode cX4_looks 67 = .ok (.aload_n 0, 1) := by decide +kernel
theorem dX4_looks_68 : decode cX4_looks 68 = .ok (.iload_n 1, 1) := by decide +kernel
theorem dX4_looks_69 : decode cX4_looks 69 = .ok (.invokevirtual 55, 3) := by decide +kernel
theorem dX4_looks_72 : decode cX4_looks 72 = .ok (.ifCond .eq 7, 3) := by decide +kernel
theorem dX4_looks_75 : decode cX4_looks 75 = .ok (.iconst 0, 1) := by decide +kernel
theorem dX4_looks_76 : decode cX4_looks 76 = .ok (.goto 10, 3) := by decide +kernel
theorem dX4_looks_79 : decode cX4_looks 79 = .ok (.aload_n 0, 1) := by decide +kernel
theorem dX4_looks_80 : decode cX4_looks 80 = .ok (.iload_n 1, 1) := by decide +kernel
theorem dX4_looks_81 : decode cX4_looks 81 = .ok (.bipush 8, 2) := by decide +kernel
theorem dX4_looks_83 : decode cX4_looks 83 = .ok (.invokevirtual 44, 3) := by decide +kernel
theorem dX4_looks_86 : decode cX4_looks 86 = .ok (.invokevirtual 62, 3) := by decide +kernel
theorem dX4_looks_89 : decode cX4_looks 89 = .ok (.iinc 1 1, 3) := by decide +kernel
theorem dX4_looks_92 : decode cX4_looks 92 = .ok (.goto (-90), 3) := by decide +kernel
theorem dX4_looks_95 : decode cX4_looks 95 = .ok (.return_, 1) := by decide +kernel
theorem dX4_isAhead_0 : decode cX4_isAhead 0 = .ok (.aload_n 0, 1) := by decide +kernel
theorem dX4_isAhead_1 : decode cX4_isAhead 1 = .ok (.getfield 7, 3) := by decide +kernel
theorem dX4_isAhead_4 : decode cX4_isAhead 4 = .ok (.bipush 101, 2) := by decide +kernel
theorem dX4_isAhead_6 : decode cX4_isAhead 6 = .ok (.iaload, 1) := by decide +kernel
theorem dX4_isAhead_7 : decode cX4_isAhead 7 = .ok (.ifCond .ne 19, 3) := by decide +kernel
theorem dX4_isAhead_10 : decode cX4_isAhead 10 = .ok (.aload_n 0, 1) := by decide +kernel
theorem dX4_isAhead_11 : decode cX4_isAhead 11 = .ok (.getfield 7, 3) := by decide +kernel
theorem dX4_isAhead_14 : decode cX4_isAhead 14 = .ok (.iload_n 1, 1) := by decide +kernel
theorem dX4_isAhead_15 : decode cX4_isAhead 15 = .ok (.iaload, 1) := by decide +kernel
theorem dX4_isAhead_16 : decode cX4_isAhead 16 = .ok (.aload_n 0, 1) := by decide +kernel
theorem dX4_isAhead_17 : decode cX4_isAhead 17 = .ok (.getfield 7, 3) := by decide +kernel
theorem dX4_isAhead_20 : decode cX4_isAhead 20 = .ok (.iload_n 2, 1) := by decide +kernel
theorem dX4_isAhead_21 : decode cX4_isAhead 21 = .ok (.iaload, 1) := by decide +kernel
theorem dX4_isAhead_22 : decode cX4_isAhead 22 = .ok (.isub, 1) := by decide +kernel
theorem dX4_isAhead_23 : decode cX4_isAhead 23 = .ok (.goto 55, 3) := by decide +kernel
theorem dX4_isAhead_26 : decode cX4_isAhead 26 = .ok (.aload_n 0, 1) := by decide +kernel
theorem dX4_isAhead_27 : decode cX4_isAhead 27 = .ok (.getfield 7, 3) := by decide +kernel
theorem dX4_isAhead_30 : decode cX4_isAhead 30 = .ok (.bipush 101, 2) := by decide +kernel
theorem dX4_isAhead_32 : decode cX4_isAhead 32 = .ok (.iaload, 1) := by decide +kernel
theorem dX4_isAhead_33 : decode cX4_isAhead 33 = .ok (.iconst 1, 1) := by decide +kernel
theorem dX4_isAhead_34 : decode cX4_isAhead 34 = .ok (.if_icmp .ne 25, 3) := by decide +kernel
theorem dX4_isAhead_37 : decode cX4_isAhead 37 = .ok (.aload_n 0, 1) := by decide +kernel
theorem dX4_isAhead_38 : decode cX4_isAhead 38 = .ok (.getfield 7, 3) := by decide +kernel
theorem dX4_isAhead_41 : decode cX4_isAhead 41 = .ok (.bipush 6, 2) := by decide +kernel
theorem dX4_isAhead_43 : decode cX4_isAhead 43 = .ok (.iload_n 2, 1) := by decide +kernel
theorem dX4_isAhead_44 : decode cX4_isAhead 44 = .ok (.iadd, 1) := by decide +kernel
theorem dX4_isAhead_45 : decode cX4_isAhead 45 = .ok (.iaload, 1) := by decide +kernel
theorem dX4_isAhead_46 : decode cX4_isAhead 46 = .ok (.aload_n 0, 1) := by decide +kernel
theorem dX4_isAhead_47 : decode cX4_isAhead 47 = .ok (.getfield 7, 3) := by decide +kernel
theorem dX4_isAhead_50 : decode cX4_isAhead 50 = .ok (.bipush 6, 2) := by decide +kernel
theorem dX4_isAhead_52 : decode cX4_isAhead 52 = .ok (.iload_n 1, 1) := by decide +kernel
theorem dX4_isAhead_53 : decode cX4_isAhead 53 = .ok (.iadd, 1) := by decide +kernel
theorem dX4_isAhead_54 : decode cX4_isAhead 54 = .ok (.iaload, 1) := by decide +kernel
theorem dX4_isAhead_55 : decode cX4_isAhead 55 = .ok (.isub, 1) := by decide +kernel
theorem dX4_isAhead_56 : decode cX4_isAhead 56 = .ok (.goto 22, 3) := by decide +kernel
theorem dX4_isAhead_59 : decode cX4_isAhead 59 = .ok (.aload_n 0, 1) := by decide +kernel
theorem dX4_isAhead_60 : decode cX4_isAhead 60 = .ok (.getfield 7, 3) := by decide +kernel
theorem dX4_isAhead_63 : decode cX4_isAhead 63 = .ok (.bipush 6, 2) := by decide +kernel
theorem dX4_isAhead_65 : decode cX4_isAhead 65 = .ok (.iload_n 1, 1) := by decide +kernel
theorem dX4_isAhead_66 : decode cX4_isAhead 66 = .ok (.iadd, 1) := by decide +kernel
theorem dX4_isAhead_67 : decode cX4_isAhead 67 = .ok (.iaload, 1) := by decide +kernel
theorem dX4_isAhead_68 : decode cX4_isAhead 68 = .ok (.aload_n 0, 1) := by decide +kernel
theorem dX4_isAhead_69 : decode cX4_isAhead 69 = .ok (.getfield 7, 3) := by decide +kernel
theorem dX4_isAhead_72 : decode cX4_isAhead 72 = .ok (.bipush 6, 2) := by decide +kernel
theorem dX4_isAhead_74 : decode cX4_isAhead 74 = .ok (.iload_n 2, 1) := by decide +kernel
theorem dX4_isAhead_75 : decode cX4_isAhead 75 = .ok (.iadd, 1) := by decide +kernel
theorem dX4_isAhead_76 : decode cX4_isAhead 76 = .ok (.iaload, 1) := by decide +kernel
theorem dX4_isAhead_77 : decode cX4_isAhead 77 = .ok (.isub, 1) := by decide +kernel
theorem dX4_isAhead_78 : decode cX4_isAhead 78 = .ok (.istore_n 3, 1) := by decide +kernel
theorem dX4_isAhead_79 : decode cX4_isAhead 79 = .ok (.iload_n 3, 1) := by decide +kernel
theorem dX4_isAhead_80 : decode cX4_isAhead 80 = .ok (.ifCond .le 7, 3) := by decide +kernel
theorem dX4_isAhead_83 : decode cX4_isAhead 83 = .ok (.iconst 1, 1) := by decide +kernel
theorem dX4_isAhead_84 : decode cX4_isAhead 84 = .ok (.goto 4, 3) := by decide +kernel
theorem dX4_isAhead_87 : decode cX4_isAhead 87 = .ok (.iconst 0, 1) := by decide +kernel
theorem dX4_isAhead_88 : decode cX4_isAhead 88 = .ok (.ireturn, 1) := by decide +kernel
theorem dX4_selling_0 : decode cX4_selling 0 = .ok (.iconst (-1), 1) := by decide +kernel
theorem dX4_selling_1 : decode cX4_selling 1 = .ok (.istore_n 2, 1) := by decide +kernel
theorem dX4_selling_2 : decode cX4_selling 2 = .ok (.iconst 0, 1) := by decide +kernel
theorem dX4_selling_3 : decode cX4_selling 3 = .ok (.istore_n 3, 1) := by decide +kernel
theorem dX4_selling_4 : decode cX4_selling 4 = .ok (.iload_n 3, 1) := by decide +kernel
theorem dX4_selling_5 : decode cX4_selling 5 = .ok (.bipush 6, 2) := by decide +kernel
theorem dX4_selling_7 : decode cX4_selling 7 = .ok (.if_icmp .ge 38, 3) := by decide +kernel
theorem dX4_selling_10 : decode cX4_selling 10 = .ok (.aload_n 0, 1) := by decide +kernel
theorem dX4_selling_11 : decode cX4_selling 11 = .ok (.iload_n 1, 1) := by decide +kernel
theorem dX4_selling_12 : decode cX4_selling 12 = .ok (.iload_n 3, 1) := by decide +kernel
theorem dX4_selling_13 : decode cX4_selling 13 = .ok (.invokevirtual 44, 3) := by decide +kernel
theorem dX4_selling_16 : decode cX4_selling 16 = .ok (.ifCond .le 21, 3) := by decide +kernel
theorem dX4_selling_19 : decode cX4_selling 19 = .ok (.iload_n 2, 1) := by decide +kernel
theorem dX4_selling_20 : decode cX4_selling 20 = .ok (.iconst (-1), 1) := by decide +kernel
theorem dX4_selling_21 : decode cX4_selling 21 = .ok (.if_icmp .eq 12, 3) := by decide +kernel
theorem dX4_selling_24 : decode cX4_selling 24 = .ok (.aload_n 0, 1) := by decide +kernel
theorem dX4_selling_25 : decode cX4_selling 25 = .ok (.iload_n 3, 1) := by decide +kernel
theorem dX4_selling_26 : decode cX4_selling 26 = .ok (.iload_n 2, 1) := by decide +kernel
theorem dX4_selling_27 : decode cX4_selling 27 = .ok (.invokevirtual 66, 3) := by decide +kernel
theorem dX4_selling_30 : decode cX4_selling 30 = .ok (.ifCond .eq 7, 3) := by decide +kernel
theorem dX4_selling_33 : decode cX4_selling 33 = .ok (.iload_n 3, 1) := by decide +kernel
theorem dX4_selling_34 : decode cX4_selling 34 = .ok (.goto 4, 3) := by decide +kernel
theorem dX4_selling_37 : decode cX4_selling 37 = .ok (.iload_n 2, 1) := by decide +kernel
theorem dX4_selling_38 : decode cX4_selling 38 = .ok (.istore_n 2, 1) := by decide +kernel
theorem dX4_selling_39 : decode cX4_selling 39 = .ok (.iinc 3 1, 3) := by decide +kernel
theorem dX4_selling_42 : decode cX4_selling 42 = .ok (.goto (-38), 3) := by decide +kernel
theorem dX4_selling_45 : decode cX4_selling 45 = .ok (.iload_n 2, 1) := by decide +kernel
theorem dX4_selling_46 : decode cX4_selling 46 = .ok (.ireturn, 1) := by decide +kernel
theorem dX4_pays_0 : decode cX4_pays 0 = .ok (.iload_n 2, 1) := by decide +kernel
theorem dX4_pays_1 : decode cX4_pays 1 = .ok (.aload_n 0, 1) := by decide +kernel
theorem dX4_pays_2 : decode cX4_pays 2 = .ok (.iload_n 1, 1) := by decide +kernel
theorem dX4_pays_3 : decode cX4_pays 3 = .ok (.bipush 7, 2) := by decide +kernel
theorem dX4_pays_5 : decode cX4_pays 5 = .ok (.invokevirtual 44, 3) := by decide +kernel
theorem dX4_pays_8 : decode cX4_pays 8 = .ok (.if_icmp .ge 7, 3) := by decide +kernel
theorem dX4_pays_11 : decode cX4_pays 11 = .ok (.iload_n 2, 1) := by decide +kernel
theorem dX4_pays_12 : decode cX4_pays 12 = .ok (.goto 10, 3) := by decide +kernel
theorem dX4_pays_15 : decode cX4_pays 15 = .ok (.aload_n 0, 1) := by decide +kernel
theorem dX4_pays_16 : decode cX4_pays 16 = .ok (.iload_n 1, 1) := by decide +kernel
theorem dX4_pays_17 : decode cX4_pays 17 = .ok (.bipush 7, 2) := by decide +kernel
theorem dX4_pays_19 : decode cX4_pays 19 = .ok (.invokevirtual 44, 3) := by decide +kernel
theorem dX4_pays_22 : decode cX4_pays 22 = .ok (.istore_n 3, 1) := by decide +kernel
theorem dX4_pays_23 : decode cX4_pays 23 = .ok (.aload_n 0, 1) := by decide +kernel
theorem dX4_pays_24 : decode cX4_pays 24 = .ok (.iload_n 1, 1) := by decide +kernel
theorem dX4_pays_25 : decode cX4_pays 25 = .ok (.bipush 7, 2) := by decide +kernel
theorem dX4_pays_27 : decode cX4_pays 27 = .ok (.iload_n 3, 1) := by decide +kernel
theorem dX4_pays_28 : decode cX4_pays 28 = .ok (.ineg, 1) := by decide +kernel
theorem dX4_pays_29 : decode cX4_pays 29 = .ok (.invokevirtual 70, 3) := by decide +kernel
theorem dX4_pays_32 : decode cX4_pays 32 = .ok (.aload_n 0, 1) := by decide +kernel
theorem dX4_pays_33 : decode cX4_pays 33 = .ok (.iload_n 1, 1) := by decide +kernel
theorem dX4_pays_34 : decode cX4_pays 34 = .ok (.bipush 6, 2) := by decide +kernel
theorem dX4_pays_36 : decode cX4_pays 36 = .ok (.iload_n 2, 1) := by decide +kernel
theorem dX4_pays_37 : decode cX4_pays 37 = .ok (.iload_n 3, 1) := by decide +kernel
theorem dX4_pays_38 : decode cX4_pays 38 = .ok (.isub, 1) := by decide +kernel
theorem dX4_pays_39 : decode cX4_pays 39 = .ok (.invokevirtual 70, 3) := by decide +kernel
theorem dX4_pays_42 : decode cX4_pays 42 = .ok (.aload_n 0, 1) := by decide +kernel
theorem dX4_pays_43 : decode cX4_pays 43 = .ok (.getfield 7, 3) := by decide +kernel
theorem dX4_pays_46 : decode cX4_pays 46 = .ok (.bipush 105, 2) := by decide +kernel
theorem dX4_pays_48 : decode cX4_pays 48 = .ok (.dup2, 1) := by decide +kernel
theorem dX4_pays_49 : decode cX4_pays 49 = .ok (.iaload, 1) := by decide +kernel
theorem dX4_pays_50 : decode cX4_pays 50 = .ok (.iload_n 3, 1) := by decide +kernel
theorem dX4_pays_51 : decode cX4_pays 51 = .ok (.iadd, 1) := by decide +kernel
theorem dX4_pays_52 : decode cX4_pays 52 = .ok (.iastore, 1) := by decide +kernel
theorem dX4_pays_53 : decode cX4_pays 53 = .ok (.return_, 1) := by decide +kernel
theorem dX4_sellsOut_0 : decode cX4_sellsOut 0 = .ok (.aload_n 0, 1) := by decide +kernel
theorem dX4_sellsOut_1 : decode cX4_sellsOut 1 = .ok (.iload_n 1, 1) := by decide +kernel
theorem dX4_sellsOut_2 : decode cX4_sellsOut 2 = .ok (.bipush 6, 2) := by decide +kernel
theorem dX4_sellsOut_4 : decode cX4_sellsOut 4 = .ok (.invokevirtual 44, 3) := by decide +kernel
theorem dX4_sellsOut_7 : decode cX4_sellsOut 7 = .ok (.istore_n 2, 1) := by decide +kernel
theorem dX4_sellsOut_8 : decode cX4_sellsOut 8 = .ok (.aload_n 0, 1) := by decide +kernel
theorem dX4_sellsOut_9 : decode cX4_sellsOut 9 = .ok (.iload_n 1, 1) := by decide +kernel
theorem dX4_sellsOut_10 : decode cX4_sellsOut 10 = .ok (.bipush 6, 2) := by decide +kernel
theorem dX4_sellsOut_12 : decode cX4_sellsOut 12 = .ok (.iconst 0, 1) := by decide +kernel
theorem dX4_sellsOut_13 : decode cX4_sellsOut 13 = .ok (.invokevirtual 62, 3) := by decide +kernel
theorem dX4_sellsOut_16 : decode cX4_sellsOut 16 = .ok (.aload_n 0, 1) := by decide +kernel
theorem dX4_sellsOut_17 : decode cX4_sellsOut 17 = .ok (.iload_n 1, 1) := by decide +kernel
theorem dX4_sellsOut_18 : decode cX4_sellsOut 18 = .ok (.iload_n 2, 1) := by decide +kernel
theorem dX4_sellsOut_19 : decode cX4_sellsOut 19 = .ok (.invokevirtual 73, 3) := by decide +kernel
theorem dX4_sellsOut_22 : decode cX4_sellsOut 22 = .ok (.iconst 0, 1) := by decide +kernel
theorem dX4_sellsOut_23 : decode cX4_sellsOut 23 = .ok (.istore_n 3, 1) := by decide +kernel
theorem dX4_sellsOut_24 : decode cX4_sellsOut 24 = .ok (.aload_n 0, 1) := by decide +kernel
theorem dX4_sellsOut_25 : decode cX4_sellsOut 25 = .ok (.iload_n 1, 1) := by decide +kernel
theorem dX4_sellsOut_26 : decode cX4_sellsOut 26 = .ok (.invokevirtual 77, 3) := by decide +kernel
theorem dX4_sellsOut_29 : decode cX4_sellsOut 29 = .ok (.istore 4, 2) := by decide +kernel
theorem dX4_sellsOut_31 : decode cX4_sellsOut 31 = .ok (.iload 4, 2) := by decide +kernel
theorem dX4_sellsOut_33 : decode cX4_sellsOut 33 = .ok (.iconst (-1), 1) := by decide +kernel
theorem dX4_sellsOut_34 : decode cX4_sellsOut 34 = .ok (.if_icmp .eq 72, 3) := by decide +kernel
theorem dX4_sellsOut_37 : decode cX4_sellsOut 37 = .ok (.aload_n 0, 1) := by decide +kernel
theorem dX4_sellsOut_38 : decode cX4_sellsOut 38 = .ok (.iload_n 1, 1) := by decide +kernel
theorem dX4_sellsOut_39 : decode cX4_sellsOut 39 = .ok (.invokevirtual 55, 3) := by decide +kernel
theorem dX4_sellsOut_42 : decode cX4_sellsOut 42 = .ok (.ifCond .ne 64, 3) := by decide +kernel
theorem dX4_sellsOut_45 : decode cX4_sellsOut 45 = .ok (.aload_n 0, 1) := by decide +kernel
theorem dX4_sellsOut_46 : decode cX4_sellsOut 46 = .ok (.iload_n 1, 1) := by decide +kernel
theorem dX4_sellsOut_47 : decode cX4_sellsOut 47 = .ok (.iload 4, 2) := by decide +kernel
theorem dX4_sellsOut_49 : decode cX4_sellsOut 49 = .ok (.iconst (-1), 1) := by decide +kernel
theorem dX4_sellsOut_50 : decode cX4_sellsOut 50 = .ok (.invokevirtual 70, 3) := by decide +kernel
theorem dX4_sellsOut_53 : decode cX4_sellsOut 53 = .ok (.aload_n 0, 1) := by decide +kernel
theorem dX4_sellsOut_54 : decode cX4_sellsOut 54 = .ok (.getfield 7, 3) := by decide +kernel
theorem dX4_sellsOut_57 : decode cX4_sellsOut 57 = .ok (.bipush 12, 2) := by decide +kernel
theorem dX4_sellsOut_59 : decode cX4_sellsOut 59 = .ok (.iload 4, 2) := by decide +kernel
theorem dX4_sellsOut_61 : decode cX4_sellsOut 61 = .ok (.iadd, 1) := by decide +kernel
theorem dX4_sellsOut_62 : decode cX4_sellsOut 62 = .ok (.dup2, 1) := by decide +kernel
theorem dX4_sellsOut_63 : decode cX4_sellsOut 63 = .ok (.iaload, 1) := by decide +kernel
theorem dX4_sellsOut_64 : decode cX4_sellsOut 64 = .ok (.iconst 1, 1) := by decide +kernel
theorem dX4_sellsOut_65 : decode cX4_sellsOut 65 = .ok (.iadd, 1) := by decide +kernel
theorem dX4_sellsOut_66 : decode cX4_sellsOut 66 = .ok (.iastore, 1) := by decide +kernel
theorem dX4_sellsOut_67 : decode cX4_sellsOut 67 = .ok (.iinc 3 1, 3) := by decide +kernel
theorem dX4_sellsOut_70 : decode cX4_sellsOut 70 = .ok (.aload_n 0, 1) := by decide +kernel
theorem dX4_sellsOut_71 : decode cX4_sellsOut 71 = .ok (.iload_n 1, 1) := by decide +kernel
theorem dX4_sellsOut_72 : decode cX4_sellsOut 72 = .ok (.aload_n 0, 1) := by decide +kernel
theorem dX4_sellsOut_73 : decode cX4_sellsOut 73 = .ok (.getfield 7, 3) := by decide +kernel
theorem dX4_sellsOut_76 : decode cX4_sellsOut 76 = .ok (.iload 4, 2) := by decide +kernel
theorem dX4_sellsOut_78 : decode cX4_sellsOut 78 = .ok (.iaload, 1) := by decide +kernel
theorem dX4_sellsOut_79 : decode cX4_sellsOut 79 = .ok (.bipush 100, 2) := by decide +kernel
theorem dX4_sellsOut_81 : decode cX4_sellsOut 81 = .ok (.aload_n 0, 1) := by decide +kernel
theorem dX4_sellsOut_82 : decode cX4_sellsOut 82 = .ok (.getfield 7, 3) := by decide +kernel
theorem dX4_sellsOut_85 : decode cX4_sellsOut 85 = .ok (.bipush 100, 2) := by decide +kernel
theorem dX4_sellsOut_87 : decode cX4_sellsOut 87 = .ok (.iaload, 1) := by decide +kernel
theorem dX4_sellsOut_88 : decode cX4_sellsOut 88 = .ok (.isub, 1) := by decide +kernel
theorem dX4_sellsOut_89 : decode cX4_sellsOut 89 = .ok (.imul, 1) := by decide +kernel
theorem dX4_sellsOut_90 : decode cX4_sellsOut 90 = .ok (.bipush 100, 2) := by decide +kernel
theorem dX4_sellsOut_92 : decode cX4_sellsOut 92 = .ok (.idiv, 1) := by decide +kernel
theorem dX4_sellsOut_93 : decode cX4_sellsOut 93 = .ok (.invokevirtual 73, 3) := by decide +kernel
theorem dX4_sellsOut_96 : decode cX4_sellsOut 96 = .ok (.aload_n 0, 1) := by decide +kernel
theorem dX4_sellsOut_97 : decode cX4_sellsOut 97 = .ok (.iload_n 1, 1) := by decide +kernel
theorem dX4_sellsOut_98 : decode cX4_sellsOut 98 = .ok (.invokevirtual 77, 3) := by decide +kernel
theorem dX4_sellsOut_101 : decode cX4_sellsOut 101 = .ok (.istore 4, 2) := by decide +kernel
theorem dX4_sellsOut_103 : decode cX4_sellsOut 103 = .ok (.goto (-72), 3) := by decide +kernel
theorem dX4_sellsOut_106 : decode cX4_sellsOut 106 = .ok (.aload_n 0, 1) := by decide +kernel
theorem dX4_sellsOut_107 : decode cX4_sellsOut 107 = .ok (.iload_n 1, 1) := by decide +kernel
theorem dX4_sellsOut_108 : decode cX4_sellsOut 108 = .ok (.invokevirtual 55, 3) := by decide +kernel
theorem dX4_sellsOut_111 : decode cX4_sellsOut 111 = .ok (.ifCond .ne 36, 3) := by decide +kernel
theorem dX4_sellsOut_114 : decode cX4_sellsOut 114 = .ok (.aload_n 0, 1) := by decide +kernel
theorem dX4_sellsOut_115 : decode cX4_sellsOut 115 = .ok (.getfield 7, 3) := by decide +kernel
theorem dX4_sellsOut_118 : decode cX4_sellsOut 118 = .ok (.bipush 106, 2) := by decide +kernel
theorem dX4_sellsOut_120 : decode cX4_sellsOut 120 = .ok (.dup2, 1) := by decide +kernel
theorem dX4_sellsOut_121 : decode cX4_sellsOut 121 = .ok (.iaload, 1) := by decide +kernel
theorem dX4_sellsOut_122 : decode cX4_sellsOut 122 = .ok (.aload_n 0, 1) := by decide +kernel
theorem dX4_sellsOut_123 : decode cX4_sellsOut 123 = .ok (.iload_n 1, 1) := by decide +kernel
theorem dX4_sellsOut_124 : decode cX4_sellsOut 124 = .ok (.bipush 7, 2) := by decide +kernel
theorem dX4_sellsOut_126 : decode cX4_sellsOut 126 = .ok (.invokevirtual 44, 3) := by decide +kernel
theorem dX4_sellsOut_129 : decode cX4_sellsOut 129 = .ok (.iadd, 1) := by decide +kernel
theorem dX4_sellsOut_130 : decode cX4_sellsOut 130 = .ok (.iastore, 1) := by decide +kernel
theorem dX4_sellsOut_131 : decode cX4_sellsOut 131 = .ok (.aload_n 0, 1) := by decide +kernel
theorem dX4_sellsOut_132 : decode cX4_sellsOut 132 = .ok (.iload_n 1, 1) := by decide +kernel
theorem dX4_sellsOut_133 : decode cX4_sellsOut 133 = .ok (.bipush 7, 2) := by decide +kernel
theorem dX4_sellsOut_135 : decode cX4_sellsOut 135 = .ok (.iconst 0, 1) := by decide +kernel
theorem dX4_sellsOut_136 : decode cX4_sellsOut 136 = .ok (.invokevirtual 62, 3) := by decide +kernel
theorem dX4_sellsOut_139 : decode cX4_sellsOut 139 = .ok (.aload_n 0, 1) := by decide +kernel
theorem dX4_sellsOut_140 : decode cX4_sellsOut 140 = .ok (.iload_n 1, 1) := by decide +kernel
theorem dX4_sellsOut_141 : decode cX4_sellsOut 141 = .ok (.bipush 9, 2) := by decide +kernel
theorem dX4_sellsOut_143 : decode cX4_sellsOut 143 = .ok (.iconst 1, 1) := by decide +kernel
theorem dX4_sellsOut_144 : decode cX4_sellsOut 144 = .ok (.invokevirtual 62, 3) := by decide +kernel
theorem dX4_sellsOut_147 : decode cX4_sellsOut 147 = .ok (.aload_n 0, 1) := by decide +kernel
theorem dX4_sellsOut_148 : decode cX4_sellsOut 148 = .ok (.iload_n 1, 1) := by decide +kernel
theorem dX4_sellsOut_149 : decode cX4_sellsOut 149 = .ok (.bipush 8, 2) := by decide +kernel
theorem dX4_sellsOut_151 : decode cX4_sellsOut 151 = .ok (.iconst 0, 1) := by decide +kernel
theorem dX4_sellsOut_152 : decode cX4_sellsOut 152 = .ok (.invokevirtual 62, 3) := by decide +kernel
theorem dX4_sellsOut_155 : decode cX4_sellsOut 155 = .ok (.aload_n 0, 1) := by decide +kernel
theorem dX4_sellsOut_156 : decode cX4_sellsOut 156 = .ok (.getfield 7, 3) := by decide +kernel
theorem dX4_sellsOut_159 : decode cX4_sellsOut 159 = .ok (.bipush 108, 2) := by decide +kernel
theorem dX4_sellsOut_161 : decode cX4_sellsOut 161 = .ok (.dup2, 1) := by decide +kernel
theorem dX4_sellsOut_162 : decode cX4_sellsOut 162 = .ok (.iaload, 1) := by decide +kernel
theorem dX4_sellsOut_163 : decode cX4_sellsOut 163 = .ok (.iconst 1, 1) := by decide +kernel
theorem dX4_sellsOut_164 : decode cX4_sellsOut 164 = .ok (.iadd, 1) := by decide +kernel
theorem dX4_sellsOut_165 : decode cX4_sellsOut 165 = .ok (.iastore, 1) := by decide +kernel
theorem dX4_sellsOut_166 : decode cX4_sellsOut 166 = .ok (.iload_n 3, 1) := by decide +kernel
theorem dX4_sellsOut_167 : decode cX4_sellsOut 167 = .ok (.ireturn, 1) := by decide +kernel
theorem dX4_interestOf_0 : decode cX4_interestOf 0 = .ok (.iload_n 0, 1) := by decide +kernel
theorem dX4_interestOf_1 : decode cX4_interestOf 1 = .ok (.iload_n 1, 1) := by decide +kernel
theorem dX4_interestOf_2 : decode cX4_interestOf 2 = .ok (.imul, 1) := by decide +kernel
theorem dX4_interestOf_3 : decode cX4_interestOf 3 = .ok (.sipush 9999, 3) := by decide +kernel
theorem dX4_interestOf_6 : decode cX4_interestOf 6 = .ok (.iadd, 1) := by decide +kernel
theorem dX4_interestOf_7 : decode cX4_interestOf 7 = .ok (.sipush 10000, 3) := by decide +kernel
theorem dX4_interestOf_10 : decode cX4_interestOf 10 = .ok (.idiv, 1) := by decide +kernel
theorem dX4_interestOf_11 : decode cX4_interestOf 11 = .ok (.ireturn, 1) := by decide +kernel
theorem dX4_hour_0 : decode cX4_hour 0 = .ok (.aload_n 0, 1) := by decide +kernel
theorem dX4_hour_1 : decode cX4_hour 1 = .ok (.getfield 7, 3) := by decide +kernel
theorem dX4_hour_4 : decode cX4_hour 4 = .ok (.bipush 102, 2) := by decide +kernel
theorem dX4_hour_6 : decode cX4_hour 6 = .ok (.dup2, 1) := by decide +kernel
theorem dX4_hour_7 : decode cX4_hour 7 = .ok (.iaload, 1) := by decide +kernel
theorem dX4_hour_8 : decode cX4_hour 8 = .ok (.iconst 1, 1) := by decide +kernel
theorem dX4_hour_9 : decode cX4_hour 9 = .ok (.iadd, 1) := by decide +kernel
theorem dX4_hour_10 : decode cX4_hour 10 = .ok (.iastore, 1) := by decide +kernel
theorem dX4_hour_11 : decode cX4_hour 11 = .ok (.iconst 0, 1) := by decide +kernel
theorem dX4_hour_12 : decode cX4_hour 12 = .ok (.istore_n 1, 1) := by decide +kernel
theorem dX4_hour_13 : decode cX4_hour 13 = .ok (.iconst 0, 1) := by decide +kernel
theorem dX4_hour_14 : decode cX4_hour 14 = .ok (.istore_n 2, 1) := by decide +kernel
theorem dX4_hour_15 : decode cX4_hour 15 = .ok (.iload_n 2, 1) := by decide +kernel
theorem dX4_hour_16 : decode cX4_hour 16 = .ok (.bipush 8, 2) := by decide +kernel
theorem dX4_hour_18 : decode cX4_hour 18 = .ok (.if_icmp .ge 64, 3) := by decide +kernel
theorem dX4_hour_21 : decode cX4_hour 21 = .ok (.aload_n 0, 1) := by decide +kernel
theorem dX4_hour_22 : decode cX4_hour 22 = .ok (.iload_n 2, 1) := by decide +kernel
theorem dX4_hour_23 : decode cX4_hour 23 = .ok (.bipush 7, 2) := by decide +kernel
theorem dX4_hour_25 : decode cX4_hour 25 = .ok (.invokevirtual 44, 3) := by decide +kernel
theorem dX4_hour_28 : decode cX4_hour 28 = .ok (.aload_n 0, 1) := by decide +kernel
theorem dX4_hour_29 : decode cX4_hour 29 = .ok (.getfield 7, 3) := by decide +kernel
theorem dX4_hour_32 : decode cX4_hour 32 = .ok (.bipush 98, 2) := by decide +kernel
theorem dX4_hour_34 : decode cX4_hour 34 = .ok (.iaload, 1) := by decide +kernel
theorem dX4_hour_35 : decode cX4_hour 35 = .ok (.invokestatic 80, 3) := by decide +kernel
theorem dX4_hour_38 : decode cX4_hour 38 = .ok (.istore_n 3, 1) := by decide +kernel
theorem dX4_hour_39 : decode cX4_hour 39 = .ok (.aload_n 0, 1) := by decide +kernel
theorem dX4_hour_40 : decode cX4_hour 40 = .ok (.iload_n 2, 1) := by decide +kernel
theorem dX4_hour_41 : decode cX4_hour 41 = .ok (.bipush 7, 2) := by decide +kernel
theorem dX4_hour_43 : decode cX4_hour 43 = .ok (.iload_n 3, 1) := by decide +kernel
theorem dX4_hour_44 : decode cX4_hour 44 = .ok (.invokevirtual 70, 3) := by decide +kernel
theorem dX4_hour_47 : decode cX4_hour 47 = .ok (.aload_n 0, 1) := by decide +kernel
theorem dX4_hour_48 : decode cX4_hour 48 = .ok (.getfield 7, 3) := by decide +kernel
theorem dX4_hour_51 : decode cX4_hour 51 = .ok (.bipush 104, 2) := by decide +kernel
theorem dX4_hour_53 : decode cX4_hour 53 = .ok (.dup2, 1) := by decide +kernel
theorem dX4_hour_54 : decode cX4_hour 54 = .ok (.iaload, 1) := by decide +kernel
theorem dX4_hour_55 : decode cX4_hour 55 = .ok (.iload_n 3, 1) := by decide +kernel
theorem dX4_hour_56 : decode cX4_hour 56 = .ok (.iadd, 1) := by decide +kernel
theorem dX4_hour_57 : decode cX4_hour 57 = .ok (.iastore, 1) := by decide +kernel
theorem dX4_hour_58 : decode cX4_hour 58 = .ok (.iload_n 1, 1) := by decide +kernel
theorem dX4_hour_59 : decode cX4_hour 59 = .ok (.aload_n 0, 1) := by decide +kernel
theorem dX4_hour_60 : decode cX4_hour 60 = .ok (.iload_n 2, 1) := by decide +kernel
theorem dX4_hour_61 : decode cX4_hour 61 = .ok (.invokevirtual 59, 3) := by decide +kernel
theorem dX4_hour_64 : decode cX4_hour 64 = .ok (.ifCond .eq 9, 3) := by decide +kernel
theorem dX4_hour_67 : decode cX4_hour 67 = .ok (.iconst 1, 1) := by decide +kernel
theorem dX4_hour_68 : decode cX4_hour 68 = .ok (.iload_n 2, 1) := by decide +kernel
theorem dX4_hour_69 : decode cX4_hour 69 = .ok (.ishl, 1) := by decide +kernel
theorem dX4_hour_70 : decode cX4_hour 70 = .ok (.goto 4, 3) := by decide +kernel
theorem dX4_hour_73 : decode cX4_hour 73 = .ok (.iconst 0, 1) := by decide +kernel
theorem dX4_hour_74 : decode cX4_hour 74 = .ok (.ior, 1) := by decide +kernel
theorem dX4_hour_75 : decode cX4_hour 75 = .ok (.istore_n 1, 1) := by decide +kernel
theorem dX4_hour_76 : decode cX4_hour 76 = .ok (.iinc 2 1, 3) := by decide +kernel
theorem dX4_hour_79 : decode cX4_hour 79 = .ok (.goto (-64), 3) := by decide +kernel
theorem dX4_hour_82 : decode cX4_hour 82 = .ok (.aload_n 0, 1) := by decide +kernel
theorem dX4_hour_83 : decode cX4_hour 83 = .ok (.invokevirtual 83, 3) := by decide +kernel
theorem dX4_hour_86 : decode cX4_hour 86 = .ok (.iconst 0, 1) := by decide +kernel
theorem dX4_hour_87 : decode cX4_hour 87 = .ok (.istore_n 2, 1) := by decide +kernel
theorem dX4_hour_88 : decode cX4_hour 88 = .ok (.iconst 0, 1) := by decide +kernel
theorem dX4_hour_89 : decode cX4_hour 89 = .ok (.istore_n 3, 1) := by decide +kernel
theorem dX4_hour_90 : decode cX4_hour 90 = .ok (.iload_n 3, 1) := by decide +kernel
theorem dX4_hour_91 : decode cX4_hour 91 = .ok (.bipush 8, 2) := by decide +kernel
theorem dX4_hour_93 : decode cX4_hour 93 = .ok (.if_icmp .ge 54, 3) := by decide +kernel
theorem dX4_hour_96 : decode cX4_hour 96 = .ok (.iload_n 1, 1) := by decide +kernel
theorem dX4_hour_97 : decode cX4_hour 97 = .ok (.iload_n 3, 1) := by decide +kernel
theorem dX4_hour_98 : decode cX4_hour 98 = .ok (.ishr, 1) := by decide +kernel
theorem dX4_hour_99 : decode cX4_hour 99 = .ok (.iconst 1, 1) := by decide +kernel
theorem dX4_hour_100 : decode cX4_hour 100 = .ok (.iand, 1) := by decide +kernel
theorem dX4_hour_101 : decode cX4_hour 101 = .ok (.iconst 1, 1) := by decide +kernel
theorem dX4_hour_102 : decode cX4_hour 102 = .ok (.if_icmp .ne 39, 3) := by decide +kernel
theorem dX4_hour_105 : decode cX4_hour 105 = .ok (.aload_n 0, 1) := by decide +kernel
theorem dX4_hour_106 : decode cX4_hour 106 = .ok (.iload_n 3, 1) := by decide +kernel
theorem dX4_hour_107 : decode cX4_hour 107 = .ok (.invokevirtual 59, 3) := by decide +kernel
theorem dX4_hour_110 : decode cX4_hour 110 = .ok (.ifCond .eq 31, 3) := by decide +kernel
theorem dX4_hour_113 : decode cX4_hour 113 = .ok (.aload_n 0, 1) := by decide +kernel
theorem dX4_hour_114 : decode cX4_hour 114 = .ok (.iload_n 3, 1) := by decide +kernel
theorem dX4_hour_115 : decode cX4_hour 115 = .ok (.bipush 8, 2) := by decide +kernel
theorem dX4_hour_117 : decode cX4_hour 117 = .ok (.iconst (-1), 1) := by decide +kernel
theorem dX4_hour_118 : decode cX4_hour 118 = .ok (.invokevirtual 70, 3) := by decide +kernel
theorem dX4_hour_121 : decode cX4_hour 121 = .ok (.aload_n 0, 1) := by decide +kernel
theorem dX4_hour_122 : decode cX4_hour 122 = .ok (.iload_n 3, 1) := by decide +kernel
theorem dX4_hour_123 : decode cX4_hour 123 = .ok (.bipush 8, 2) := by decide +kernel
theorem dX4_hour_125 : decode cX4_hour 125 = .ok (.invokevirtual 44, 3) := by decide +kernel
theorem dX4_hour_128 : decode cX4_hour 128 = .ok (.ifCond .ne 13, 3) := by decide +kernel
theorem dX4_hour_131 : decode cX4_hour 131 = .ok (.aload_n 0, 1) := by decide +kernel
theorem dX4_hour_132 : decode cX4_hour 132 = .ok (.iload_n 3, 1) := by decide +kernel
theorem dX4_hour_133 : decode cX4_hour 133 = .ok (.invokevirtual 86, 3) := by decide +kernel
theorem dX4_hour_136 : decode cX4_hour 136 = .ok (.istore 4, 2) := by decide +kernel
theorem dX4_hour_138 : decode cX4_hour 138 = .ok (.iinc 2 1, 3) := by decide +kernel
theorem dX4_hour_141 : decode cX4_hour 141 = .ok (.iinc 3 1, 3) := by decide +kernel
theorem dX4_hour_144 : decode cX4_hour 144 = .ok (.goto (-54), 3) := by decide +kernel
theorem dX4_hour_147 : decode cX4_hour 147 = .ok (.iload_n 2, 1) := by decide +kernel
theorem dX4_hour_148 : decode cX4_hour 148 = .ok (.ireturn, 1) := by decide +kernel
theorem dX4_canPledge_0 : decode cX4_canPledge 0 = .ok (.aload_n 0, 1) := by decide +kernel
theorem dX4_canPledge_1 : decode cX4_canPledge 1 = .ok (.iload_n 1, 1) := by decide +kernel
theorem dX4_canPledge_2 : decode cX4_canPledge 2 = .ok (.iload_n 2, 1) := by decide +kernel
theorem dX4_canPledge_3 : decode cX4_canPledge 3 = .ok (.invokevirtual 44, 3) := by decide +kernel
theorem dX4_canPledge_6 : decode cX4_canPledge 6 = .ok (.iload_n 3, 1) := by decide +kernel
theorem dX4_canPledge_7 : decode cX4_canPledge 7 = .ok (.iadd, 1) := by decide +kernel
theorem dX4_canPledge_8 : decode cX4_canPledge 8 = .ok (.bipush 99, 2) := by decide +kernel
theorem dX4_canPledge_10 : decode cX4_canPledge 10 = .ok (.if_icmp .gt 7, 3) := by decide +kernel
theorem dX4_canPledge_13 : decode cX4_canPledge 13 = .ok (.iconst 1, 1) := by decide +kernel
theorem dX4_canPledge_14 : decode cX4_canPledge 14 = .ok (.goto 4, 3) := by decide +kernel
theorem dX4_canPledge_17 : decode cX4_canPledge 17 = .ok (.iconst 0, 1) := by decide +kernel
theorem dX4_canPledge_18 : decode cX4_canPledge 18 = .ok (.ireturn, 1) := by decide +kernel
theorem dX4_canLack_0 : decode cX4_canLack 0 = .ok (.aload_n 0, 1) := by decide +kernel
theorem dX4_canLack_1 : decode cX4_canLack 1 = .ok (.iload_n 1, 1) := by decide +kernel
theorem dX4_canLack_2 : decode cX4_canLack 2 = .ok (.iload_n 2, 1) := by decide +kernel
theorem dX4_canLack_3 : decode cX4_canLack 3 = .ok (.invokevirtual 44, 3) := by decide +kernel
theorem dX4_canLack_6 : decode cX4_canLack 6 = .ok (.iload_n 3, 1) := by decide +kernel
theorem dX4_canLack_7 : decode cX4_canLack 7 = .ok (.if_icmp .ge 5, 3) := by decide +kernel
theorem dX4_canLack_10 : decode cX4_canLack 10 = .ok (.iconst 0, 1) := by decide +kernel
theorem dX4_canLack_11 : decode cX4_canLack 11 = .ok (.ireturn, 1) := by decide +kernel
theorem dX4_canLack_12 : decode cX4_canLack 12 = .ok (.aload_n 0, 1) := by decide +kernel
theorem dX4_canLack_13 : decode cX4_canLack 13 = .ok (.iload_n 1, 1) := by decide +kernel
theorem dX4_canLack_14 : decode cX4_canLack 14 = .ok (.iload_n 2, 1) := by decide +kernel
theorem dX4_canLack_15 : decode cX4_canLack 15 = .ok (.iload_n 3, 1) := by decide +kernel
theorem dX4_canLack_16 : decode cX4_canLack 16 = .ok (.ineg, 1) := by decide +kernel
theorem dX4_canLack_17 : decode cX4_canLack 17 = .ok (.invokevirtual 70, 3) := by decide +kernel
theorem dX4_canLack_20 : decode cX4_canLack 20 = .ok (.aload_n 0, 1) := by decide +kernel
theorem dX4_canLack_21 : decode cX4_canLack 21 = .ok (.iload_n 1, 1) := by decide +kernel
theorem dX4_canLack_22 : decode cX4_canLack 22 = .ok (.invokevirtual 55, 3) := by decide +kernel
theorem dX4_canLack_25 : decode cX4_canLack 25 = .ok (.istore 4, 2) := by decide +kernel
theorem dX4_canLack_27 : decode cX4_canLack 27 = .ok (.aload_n 0, 1) := by decide +kernel
theorem dX4_canLack_28 : decode cX4_canLack 28 = .ok (.iload_n 1, 1) := by decide +kernel
theorem dX4_canLack_29 : decode cX4_canLack 29 = .ok (.iload_n 2, 1) := by decide +kernel
theorem dX4_canLack_30 : decode cX4_canLack 30 = .ok (.iload_n 3, 1) := by decide +kernel
theorem dX4_canLack_31 : decode cX4_canLack 31 = .ok (.invokevirtual 70, 3) := by decide +kernel
theorem dX4_canLack_34 : decode cX4_canLack 34 = .ok (.iload 4, 2) := by decide +kernel
theorem dX4_canLack_36 : decode cX4_canLack 36 = .ok (.ireturn, 1) := by decide +kernel
theorem dX4_canLend_0 : decode cX4_canLend 0 = .ok (.aload_n 0, 1) := by decide +kernel
theorem dX4_canLend_1 : decode cX4_canLend 1 = .ok (.iload_n 1, 1) := by decide +kernel
theorem dX4_canLend_2 : decode cX4_canLend 2 = .ok (.bipush 9, 2) := by decide +kernel
theorem dX4_canLend_4 : decode cX4_canLend 4 = .ok (.invokevirtual 44, 3) := by decide +kernel
theorem dX4_canLend_7 : decode cX4_canLend 7 = .ok (.ifCond .ne 24, 3) := by decide +kernel
theorem dX4_canLend_10 : decode cX4_canLend 10 = .ok (.aload_n 0, 1) := by decide +kernel
theorem dX4_canLend_11 : decode cX4_canLend 11 = .ok (.iload_n 1, 1) := by decide +kernel
theorem dX4_canLend_12 : decode cX4_canLend 12 = .ok (.bipush 7, 2) := by decide +kernel
theorem dX4_canLend_14 : decode cX4_canLend 14 = .ok (.invokevirtual 44, 3) := by decide +kernel
theorem dX4_canLend_17 : decode cX4_canLend 17 = .ok (.iload_n 2, 1) := by decide +kernel
theorem dX4_canLend_18 : decode cX4_canLend 18 = .ok (.iadd, 1) := by decide +kernel
theorem dX4_canLend_19 : decode cX4_canLend 19 = .ok (.aload_n 0, 1) := by decide +kernel
theorem dX4_canLend_20 : decode cX4_canLend 20 = .ok (.iload_n 1, 1) := by decide +kernel
theorem dX4_canLend_21 : decode cX4_canLend 21 = .ok (.invokevirtual 51, 3) := by decide +kernel
theorem dX4_canLend_24 : decode cX4_canLend 24 = .ok (.if_icmp .gt 7, 3) := by decide +kernel
theorem dX4_canLend_27 : decode cX4_canLend 27 = .ok (.iconst 1, 1) := by decide +kernel
theorem dX4_canLend_28 : decode cX4_canLend 28 = .ok (.goto 4, 3) := by decide +kernel
theorem dX4_canLend_31 : decode cX4_canLend 31 = .ok (.iconst 0, 1) := by decide +kernel
theorem dX4_canLend_32 : decode cX4_canLend 32 = .ok (.ireturn, 1) := by decide +kernel
theorem dX4_lends_0 : decode cX4_lends 0 = .ok (.aload_n 0, 1) := by decide +kernel
theorem dX4_lends_1 : decode cX4_lends 1 = .ok (.iload_n 1, 1) := by decide +kernel
theorem dX4_lends_2 : decode cX4_lends 2 = .ok (.bipush 7, 2) := by decide +kernel
theorem dX4_lends_4 : decode cX4_lends 4 = .ok (.iload_n 2, 1) := by decide +kernel
theorem dX4_lends_5 : decode cX4_lends 5 = .ok (.invokevirtual 70, 3) := by decide +kernel
theorem dX4_lends_8 : decode cX4_lends 8 = .ok (.aload_n 0, 1) := by decide +kernel
theorem dX4_lends_9 : decode cX4_lends 9 = .ok (.getfield 7, 3) := by decide +kernel
theorem dX4_lends_12 : decode cX4_lends 12 = .ok (.bipush 103, 2) := by decide +kernel
theorem dX4_lends_14 : decode cX4_lends 14 = .ok (.dup2, 1) := by decide +kernel
theorem dX4_lends_15 : decode cX4_lends 15 = .ok (.iaload, 1) := by decide +kernel
theorem dX4_lends_16 : decode cX4_lends 16 = .ok (.iload_n 2, 1) := by decide +kernel
theorem dX4_lends_17 : decode cX4_lends 17 = .ok (.iadd, 1) := by decide +kernel
theorem dX4_lends_18 : decode cX4_lends 18 = .ok (.iastore, 1) := by decide +kernel
theorem dX4_lends_19 : decode cX4_lends 19 = .ok (.return_, 1) := by decide +kernel
theorem dX4_paysBack_0 : decode cX4_paysBack 0 = .ok (.iload_n 2, 1) := by decide +kernel
theorem dX4_paysBack_1 : decode cX4_paysBack 1 = .ok (.aload_n 0, 1) := by decide +kernel
theorem dX4_paysBack_2 : decode cX4_paysBack 2 = .ok (.iload_n 1, 1) := by decide +kernel
theorem dX4_paysBack_3 : decode cX4_paysBack 3 = .ok (.bipush 7, 2) := by decide +kernel
theorem dX4_paysBack_5 : decode cX4_paysBack 5 = .ok (.invokevirtual 44, 3) := by decide +kernel
theorem dX4_paysBack_8 : decode cX4_paysBack 8 = .ok (.if_icmp .ge 7, 3) := by decide +kernel
theorem dX4_paysBack_11 : decode cX4_paysBack 11 = .ok (.iload_n 2, 1) := by decide +kernel
theorem dX4_paysBack_12 : decode cX4_paysBack 12 = .ok (.goto 10, 3) := by decide +kernel
theorem dX4_paysBack_15 : decode cX4_paysBack 15 = .ok (.aload_n 0, 1) := by decide +kernel
theorem dX4_paysBack_16 : decode cX4_paysBack 16 = .ok (.iload_n 1, 1) := by decide +kernel
theorem dX4_paysBack_17 : decode cX4_paysBack 17 = .ok (.bipush 7, 2) := by decide +kernel
theorem dX4_paysBack_19 : decode cX4_paysBack 19 = .ok (.invokevirtual 44, 3) := by decide +kernel
theorem dX4_paysBack_22 : decode cX4_paysBack 22 = .ok (.istore_n 3, 1) := by decide +kernel
theorem dX4_paysBack_23 : decode cX4_paysBack 23 = .ok (.aload_n 0, 1) := by decide +kernel
theorem dX4_paysBack_24 : decode cX4_paysBack 24 = .ok (.iload_n 1, 1) := by decide +kernel
theorem dX4_paysBack_25 : decode cX4_paysBack 25 = .ok (.bipush 7, 2) := by decide +kernel
theorem dX4_paysBack_27 : decode cX4_paysBack 27 = .ok (.iload_n 3, 1) := by decide +kernel
theorem dX4_paysBack_28 : decode cX4_paysBack 28 = .ok (.ineg, 1) := by decide +kernel
theorem dX4_paysBack_29 : decode cX4_paysBack 29 = .ok (.invokevirtual 70, 3) := by decide +kernel
theorem dX4_paysBack_32 : decode cX4_paysBack 32 = .ok (.aload_n 0, 1) := by decide +kernel
theorem dX4_paysBack_33 : decode cX4_paysBack 33 = .ok (.getfield 7, 3) := by decide +kernel
theorem dX4_paysBack_36 : decode cX4_paysBack 36 = .ok (.bipush 105, 2) := by decide +kernel
theorem dX4_paysBack_38 : decode cX4_paysBack 38 = .ok (.dup2, 1) := by decide +kernel
theorem dX4_paysBack_39 : decode cX4_paysBack 39 = .ok (.iaload, 1) := by decide +kernel
theorem dX4_paysBack_40 : decode cX4_paysBack 40 = .ok (.iload_n 3, 1) := by decide +kernel
theorem dX4_paysBack_41 : decode cX4_paysBack 41 = .ok (.iadd, 1) := by decide +kernel
theorem dX4_paysBack_42 : decode cX4_paysBack 42 = .ok (.iastore, 1) := by decide +kernel
theorem dX4_paysBack_43 : decode cX4_paysBack 43 = .ok (.iload_n 3, 1) := by decide +kernel
theorem dX4_paysBack_44 : decode cX4_paysBack 44 = .ok (.ireturn, 1) := by decide +kernel
theorem dX4_passes_0 : decode cX4_passes 0 = .ok (.iconst 0, 1) := by decide +kernel
theorem dX4_passes_1 : decode cX4_passes 1 = .ok (.istore_n 2, 1) := by decide +kernel
theorem dX4_passes_2 : decode cX4_passes 2 = .ok (.iconst 0, 1) := by decide +kernel
theorem dX4_passes_3 : decode cX4_passes 3 = .ok (.istore_n 3, 1) := by decide +kernel
theorem dX4_passes_4 : decode cX4_passes 4 = .ok (.iload_n 3, 1) := by decide +kernel
theorem dX4_passes_5 : decode cX4_passes 5 = .ok (.iload_n 1, 1) := by decide +kernel
theorem dX4_passes_6 : decode cX4_passes 6 = .ok (.if_icmp .ge 16, 3) := by decide +kernel
theorem dX4_passes_9 : decode cX4_passes 9 = .ok (.iload_n 2, 1) := by decide +kernel
theorem dX4_passes_10 : decode cX4_passes 10 = .ok (.aload_n 0, 1) := by decide +kernel
theorem dX4_passes_11 : decode cX4_passes 11 = .ok (.invokevirtual 89, 3) := by decide +kernel
theorem dX4_passes_14 : decode cX4_passes 14 = .ok (.iadd, 1) := by decide +kernel
theorem dX4_passes_15 : decode cX4_passes 15 = .ok (.istore_n 2, 1) := by decide +kernel
theorem dX4_passes_16 : decode cX4_passes 16 = .ok (.iinc 3 1, 3) := by decide +kernel
theorem dX4_passes_19 : decode cX4_passes 19 = .ok (.goto (-15), 3) := by decide +kernel
theorem dX4_passes_22 : decode cX4_passes 22 = .ok (.iload_n 2, 1) := by decide +kernel
theorem dX4_passes_23 : decode cX4_passes 23 = .ok (.ireturn, 1) := by decide +kernel
theorem dX4_sets_0 : decode cX4_sets 0 = .ok (.iload_n 2, 1) := by decide +kernel
theorem dX4_sets_1 : decode cX4_sets 1 = .ok (.iload_n 3, 1) := by decide +kernel
theorem dX4_sets_2 : decode cX4_sets 2 = .ok (.iload 4, 2) := by decide +kernel
theorem dX4_sets_4 : decode cX4_sets 4 = .ok (.invokestatic 33, 3) := by decide +kernel
theorem dX4_sets_7 : decode cX4_sets 7 = .ok (.ifCond .ne 9, 3) := by decide +kernel
theorem dX4_sets_10 : decode cX4_sets 10 = .ok (.aload_n 0, 1) := by decide +kernel
theorem dX4_sets_11 : decode cX4_sets 11 = .ok (.iconst 2, 1) := by decide +kernel
theorem dX4_sets_12 : decode cX4_sets 12 = .ok (.invokevirtual 93, 3) := by decide +kernel
theorem dX4_sets_15 : decode cX4_sets 15 = .ok (.ireturn, 1) := by decide +kernel
theorem dX4_sets_16 : decode cX4_sets 16 = .ok (.aload_n 0, 1) := by decide +kernel
theorem dX4_sets_17 : decode cX4_sets 17 = .ok (.invokevirtual 96, 3) := by decide +kernel
theorem dX4_sets_20 : decode cX4_sets 20 = .ok (.aload_n 0, 1) := by decide +kernel
theorem dX4_sets_21 : decode cX4_sets 21 = .ok (.getfield 7, 3) := by decide +kernel
theorem dX4_sets_24 : decode cX4_sets 24 = .ok (.bipush 107, 2) := by decide +kernel
theorem dX4_sets_26 : decode cX4_sets 26 = .ok (.iaload, 1) := by decide +kernel
theorem dX4_sets_27 : decode cX4_sets 27 = .ok (.istore 5, 2) := by decide +kernel
theorem dX4_sets_29 : decode cX4_sets 29 = .ok (.aload_n 0, 1) := by decide +kernel
theorem dX4_sets_30 : decode cX4_sets 30 = .ok (.getfield 7, 3) := by decide +kernel
theorem dX4_sets_33 : decode cX4_sets 33 = .ok (.iload_n 1, 1) := by decide +kernel
theorem dX4_sets_34 : decode cX4_sets 34 = .ok (.iload_n 2, 1) := by decide +kernel
theorem dX4_sets_35 : decode cX4_sets 35 = .ok (.iastore, 1) := by decide +kernel
theorem dX4_sets_36 : decode cX4_sets 36 = .ok (.aload_n 0, 1) := by decide +kernel
theorem dX4_sets_37 : decode cX4_sets 37 = .ok (.invokevirtual 83, 3) := by decide +kernel
theorem dX4_sets_40 : decode cX4_sets 40 = .ok (.aload_n 0, 1) := by decide +kernel
theorem dX4_sets_41 : decode cX4_sets 41 = .ok (.getfield 7, 3) := by decide +kernel
theorem dX4_sets_44 : decode cX4_sets 44 = .ok (.bipush 107, 2) := by decide +kernel
theorem dX4_sets_46 : decode cX4_sets 46 = .ok (.iaload, 1) := by decide +kernel
theorem dX4_sets_47 : decode cX4_sets 47 = .ok (.iload 5, 2) := by decide +kernel
theorem dX4_sets_49 : decode cX4_sets 49 = .ok (.isub, 1) := by decide +kernel
theorem dX4_sets_50 : decode cX4_sets 50 = .ok (.ireturn, 1) := by decide +kernel
theorem dX4_setPrice_0 : decode cX4_setPrice 0 = .ok (.aload_n 0, 1) := by decide +kernel
theorem dX4_setPrice_1 : decode cX4_setPrice 1 = .ok (.iconst 0, 1) := by decide +kernel
theorem dX4_setPrice_2 : decode cX4_setPrice 2 = .ok (.putfield 29, 3) := by decide +kernel
theorem dX4_setPrice_5 : decode cX4_setPrice 5 = .ok (.iload_n 1, 1) := by decide +kernel
theorem dX4_setPrice_6 : decode cX4_setPrice 6 = .ok (.invokestatic 99, 3) := by decide +kernel
theorem dX4_setPrice_9 : decode cX4_setPrice 9 = .ok (.ifCond .eq 16, 3) := by decide +kernel
theorem dX4_setPrice_12 : decode cX4_setPrice 12 = .ok (.aload_n 0, 1) := by decide +kernel
theorem dX4_setPrice_13 : decode cX4_setPrice 13 = .ok (.iload_n 1, 1) := by decide +kernel
theorem dX4_setPrice_14 : decode cX4_setPrice 14 = .ok (.iload_n 2, 1) := by decide +kernel
theorem dX4_setPrice_15 : decode cX4_setPrice 15 = .ok (.iconst 1, 1) := by decide +kernel
theorem dX4_setPrice_16 : decode cX4_setPrice 16 = .ok (.sipush 500, 3) := by decide +kernel
theorem dX4_setPrice_19 : decode cX4_setPrice 19 = .ok (.invokevirtual 102, 3) := by decide +kernel
theorem dX4_setPrice_22 : decode cX4_setPrice 22 = .ok (.goto 8, 3) := by decide +kernel
theorem dX4_setPrice_25 : decode cX4_setPrice 25 = .ok (.aload_n 0, 1) := by decide +kernel
theorem dX4_setPrice_26 : decode cX4_setPrice 26 = .ok (.iconst 1, 1) := by decide +kernel
theorem dX4_setPrice_27 : decode cX4_setPrice 27 = .ok (.invokevirtual 93, 3) := by decide +kernel
theorem dX4_setPrice_30 : decode cX4_setPrice 30 = .ok (.ireturn, 1) := by decide +kernel
theorem dX4_setCut_0 : decode cX4_setCut 0 = .ok (.aload_n 0, 1) := by decide +kernel
theorem dX4_setCut_1 : decode cX4_setCut 1 = .ok (.iconst 0, 1) := by decide +kernel
theorem dX4_setCut_2 : decode cX4_setCut 2 = .ok (.putfield 29, 3) := by decide +kernel
theorem dX4_setCut_5 : decode cX4_setCut 5 = .ok (.iload_n 1, 1) := by decide +kernel
theorem dX4_setCut_6 : decode cX4_setCut 6 = .ok (.invokestatic 99, 3) := by decide +kernel
theorem dX4_setCut_9 : decode cX4_setCut 9 = .ok (.ifCond .eq 18, 3) := by decide +kernel
theorem dX4_setCut_12 : decode cX4_setCut 12 = .ok (.aload_n 0, 1) := by decide +kernel
theorem dX4_setCut_13 : decode cX4_setCut 13 = .ok (.bipush 6, 2) := by decide +kernel
theorem dX4_setCut_15 : decode cX4_setCut 15 = .ok (.iload_n 1, 1) := by decide +kernel
theorem dX4_setCut_16 : decode cX4_setCut 16 = .ok (.iadd, 1) := by decide +kernel
theorem dX4_setCut_17 : decode cX4_setCut 17 = .ok (.iload_n 2, 1) := by decide +kernel
theorem dX4_setCut_18 : decode cX4_setCut 18 = .ok (.iconst 0, 1) := by decide +kernel
theorem dX4_setCut_19 : decode cX4_setCut 19 = .ok (.bipush 90, 2) := by decide +kernel
theorem dX4_setCut_21 : decode cX4_setCut 21 = .ok (.invokevirtual 102, 3) := by decide +kernel
theorem dX4_setCut_24 : decode cX4_setCut 24 = .ok (.goto 8, 3) := by decide +kernel
theorem dX4_setCut_27 : decode cX4_setCut 27 = .ok (.aload_n 0, 1) := by decide +kernel
theorem dX4_setCut_28 : decode cX4_setCut 28 = .ok (.iconst 1, 1) := by decide +kernel
theorem dX4_setCut_29 : decode cX4_setCut 29 = .ok (.invokevirtual 93, 3) := by decide +kernel
theorem dX4_setCut_32 : decode cX4_setCut 32 = .ok (.ireturn, 1) := by decide +kernel
theorem dX4_fall_0 : decode cX4_fall 0 = .ok (.aload_n 0, 1) := by decide +kernel
theorem dX4_fall_1 : decode cX4_fall 1 = .ok (.iconst 0, 1) := by decide +kernel
theorem dX4_fall_2 : decode cX4_fall 2 = .ok (.putfield 29, 3) := by decide +kernel
theorem dX4_fall_5 : decode cX4_fall 5 = .ok (.iload_n 1, 1) := by decide +kernel
theorem dX4_fall_6 : decode cX4_fall 6 = .ok (.iconst 1, 1) := by decide +kernel
theorem dX4_fall_7 : decode cX4_fall 7 = .ok (.bipush 90, 2) := by decide +kernel
theorem dX4_fall_9 : decode cX4_fall 9 = .ok (.invokestatic 33, 3) := by decide +kernel
theorem dX4_fall_12 : decode cX4_fall 12 = .ok (.ifCond .ne 9, 3) := by decide +kernel
theorem dX4_fall_15 : decode cX4_fall 15 = .ok (.aload_n 0, 1) := by decide +kernel
theorem dX4_fall_16 : decode cX4_fall 16 = .ok (.iconst 1, 1) := by decide +kernel
theorem dX4_fall_17 : decode cX4_fall 17 = .ok (.invokevirtual 93, 3) := by decide +kernel
theorem dX4_fall_20 : decode cX4_fall 20 = .ok (.ireturn, 1) := by decide +kernel
theorem dX4_fall_21 : decode cX4_fall 21 = .ok (.aload_n 0, 1) := by decide +kernel
theorem dX4_fall_22 : decode cX4_fall 22 = .ok (.invokevirtual 96, 3) := by decide +kernel
theorem dX4_fall_25 : decode cX4_fall 25 = .ok (.aload_n 0, 1) := by decide +kernel
theorem dX4_fall_26 : decode cX4_fall 26 = .ok (.getfield 7, 3) := by decide +kernel
theorem dX4_fall_29 : decode cX4_fall 29 = .ok (.bipush 107, 2) := by decide +kernel
theorem dX4_fall_31 : decode cX4_fall 31 = .ok (.iaload, 1) := by decide +kernel
theorem dX4_fall_32 : decode cX4_fall 32 = .ok (.istore_n 2, 1) := by decide +kernel
theorem dX4_fall_33 : decode cX4_fall 33 = .ok (.iconst 0, 1) := by decide +kernel
theorem dX4_fall_34 : decode cX4_fall 34 = .ok (.istore_n 3, 1) := by decide +kernel
theorem dX4_fall_35 : decode cX4_fall 35 = .ok (.iload_n 3, 1) := by decide +kernel
theorem dX4_fall_36 : decode cX4_fall 36 = .ok (.bipush 6, 2) := by decide +kernel
theorem dX4_fall_38 : decode cX4_fall 38 = .ok (.if_icmp .ge 40, 3) := by decide +kernel
theorem dX4_fall_41 : decode cX4_fall 41 = .ok (.aload_n 0, 1) := by decide +kernel
theorem dX4_fall_42 : decode cX4_fall 42 = .ok (.aload_n 0, 1) := by decide +kernel
theorem dX4_fall_43 : decode cX4_fall 43 = .ok (.getfield 7, 3) := by decide +kernel
theorem dX4_fall_46 : decode cX4_fall 46 = .ok (.iload_n 3, 1) := by decide +kernel
theorem dX4_fall_47 : decode cX4_fall 47 = .ok (.iaload, 1) := by decide +kernel
theorem dX4_fall_48 : decode cX4_fall 48 = .ok (.iload_n 1, 1) := by decide +kernel
theorem dX4_fall_49 : decode cX4_fall 49 = .ok (.invokevirtual 40, 3) := by decide +kernel
theorem dX4_fall_52 : decode cX4_fall 52 = .ok (.istore 4, 2) := by decide +kernel
theorem dX4_fall_54 : decode cX4_fall 54 = .ok (.aload_n 0, 1) := by decide +kernel
theorem dX4_fall_55 : decode cX4_fall 55 = .ok (.getfield 7, 3) := by decide +kernel
theorem dX4_fall_58 : decode cX4_fall 58 = .ok (.iload_n 3, 1) := by decide +kernel
theorem dX4_fall_59 : decode cX4_fall 59 = .ok (.iload 4, 2) := by decide +kernel
theorem dX4_fall_61 : decode cX4_fall 61 = .ok (.iconst 1, 1) := by decide +kernel
theorem dX4_fall_62 : decode cX4_fall 62 = .ok (.if_icmp .ge 7, 3) := by decide +kernel
theorem dX4_fall_65 : decode cX4_fall 65 = .ok (.iconst 1, 1) := by decide +kernel
theorem dX4_fall_66 : decode cX4_fall 66 = .ok (.goto 5, 3) := by decide +kernel
theorem dX4_fall_69 : decode cX4_fall 69 = .ok (.iload 4, 2) := by decide +kernel
theorem dX4_fall_71 : decode cX4_fall 71 = .ok (.iastore, 1) := by decide +kernel
theorem dX4_fall_72 : decode cX4_fall 72 = .ok (.iinc 3 1, 3) := by decide +kernel
theorem dX4_fall_75 : decode cX4_fall 75 = .ok (.goto (-40), 3) := by decide +kernel
theorem dX4_fall_78 : decode cX4_fall 78 = .ok (.aload_n 0, 1) := by decide +kernel
theorem dX4_fall_79 : decode cX4_fall 79 = .ok (.invokevirtual 83, 3) := by decide +kernel
theorem dX4_fall_82 : decode cX4_fall 82 = .ok (.aload_n 0, 1) := by decide +kernel
theorem dX4_fall_83 : decode cX4_fall 83 = .ok (.getfield 7, 3) := by decide +kernel
theorem dX4_fall_86 : decode cX4_fall 86 = .ok (.bipush 107, 2) := by decide +kernel
theorem dX4_fall_88 : decode cX4_fall 88 = .ok (.iaload, 1) := by decide +kernel
theorem dX4_fall_89 : decode cX4_fall 89 = .ok (.iload_n 2, 1) := by decide +kernel
theorem dX4_fall_90 : decode cX4_fall 90 = .ok (.isub, 1) := by decide +kernel
theorem dX4_fall_91 : decode cX4_fall 91 = .ok (.ireturn, 1) := by decide +kernel
theorem dX4_areThere_0 : decode cX4_areThere 0 = .ok (.aload_n 0, 1) := by decide +kernel
theorem dX4_areThere_1 : decode cX4_areThere 1 = .ok (.iload_n 1, 1) := by decide +kernel
theorem dX4_areThere_2 : decode cX4_areThere 2 = .ok (.invokestatic 106, 3) := by decide +kernel
theorem dX4_areThere_5 : decode cX4_areThere 5 = .ok (.ifCond .eq 14, 3) := by decide +kernel
theorem dX4_areThere_8 : decode cX4_areThere 8 = .ok (.iload_n 2, 1) := by decide +kernel
theorem dX4_areThere_9 : decode cX4_areThere 9 = .ok (.invokestatic 99, 3) := by decide +kernel
theorem dX4_areThere_12 : decode cX4_areThere 12 = .ok (.ifCond .eq 7, 3) := by decide +kernel
theorem dX4_areThere_15 : decode cX4_areThere 15 = .ok (.iconst 0, 1) := by decide +kernel
theorem dX4_areThere_16 : decode cX4_areThere 16 = .ok (.goto 4, 3) := by decide +kernel
theorem dX4_areThere_19 : decode cX4_areThere 19 = .ok (.iconst 1, 1) := by decide +kernel
theorem dX4_areThere_20 : decode cX4_areThere 20 = .ok (.putfield 29, 3) := by decide +kernel
theorem dX4_areThere_23 : decode cX4_areThere 23 = .ok (.aload_n 0, 1) := by decide +kernel
theorem dX4_areThere_24 : decode cX4_areThere 24 = .ok (.getfield 29, 3) := by decide +kernel
theorem dX4_areThere_27 : decode cX4_areThere 27 = .ok (.ifCond .ne 7, 3) := by decide +kernel
theorem dX4_areThere_30 : decode cX4_areThere 30 = .ok (.iconst 1, 1) := by decide +kernel
theorem dX4_areThere_31 : decode cX4_areThere 31 = .ok (.goto 4, 3) := by decide +kernel
theorem dX4_areThere_34 : decode cX4_areThere 34 = .ok (.iconst 0, 1) := by decide +kernel
theorem dX4_areThere_35 : decode cX4_areThere 35 = .ok (.ireturn, 1) := by decide +kernel
theorem dX4_isThere_0 : decode cX4_isThere 0 = .ok (.aload_n 0, 1) := by decide +kernel
theorem dX4_isThere_1 : decode cX4_isThere 1 = .ok (.iload_n 1, 1) := by decide +kernel
theorem dX4_isThere_2 : decode cX4_isThere 2 = .ok (.iconst 0, 1) := by decide +kernel
theorem dX4_isThere_3 : decode cX4_isThere 3 = .ok (.invokevirtual 109, 3) := by decide +kernel
theorem dX4_isThere_6 : decode cX4_isThere 6 = .ok (.ireturn, 1) := by decide +kernel
theorem dX4_pledge_0 : decode cX4_pledge 0 = .ok (.aload_n 0, 1) := by decide +kernel
theorem dX4_pledge_1 : decode cX4_pledge 1 = .ok (.iload_n 1, 1) := by decide +kernel
theorem dX4_pledge_2 : decode cX4_pledge 2 = .ok (.iload_n 2, 1) := by decide +kernel
theorem dX4_pledge_3 : decode cX4_pledge 3 = .ok (.invokevirtual 109, 3) := by decide +kernel
theorem dX4_pledge_6 : decode cX4_pledge 6 = .ok (.ifCond .ne 5, 3) := by decide +kernel
theorem dX4_pledge_9 : decode cX4_pledge 9 = .ok (.iconst 0, 1) := by decide +kernel
theorem dX4_pledge_10 : decode cX4_pledge 10 = .ok (.ireturn, 1) := by decide +kernel
theorem dX4_pledge_11 : decode cX4_pledge 11 = .ok (.iload_n 3, 1) := by decide +kernel
theorem dX4_pledge_12 : decode cX4_pledge 12 = .ok (.iconst 1, 1) := by decide +kernel
theorem dX4_pledge_13 : decode cX4_pledge 13 = .ok (.bipush 50, 2) := by decide +kernel
theorem dX4_pledge_15 : decode cX4_pledge 15 = .ok (.invokestatic 33, 3) := by decide +kernel
theorem dX4_pledge_18 : decode cX4_pledge 18 = .ok (.ifCond .ne 9, 3) := by decide +kernel
theorem dX4_pledge_21 : decode cX4_pledge 21 = .ok (.aload_n 0, 1) := by decide +kernel
theorem dX4_pledge_22 : decode cX4_pledge 22 = .ok (.iconst 2, 1) := by decide +kernel
theorem dX4_pledge_23 : decode cX4_pledge 23 = .ok (.invokevirtual 93, 3) := by decide +kernel
theorem dX4_pledge_26 : decode cX4_pledge 26 = .ok (.ireturn, 1) := by decide +kernel
theorem dX4_pledge_27 : decode cX4_pledge 27 = .ok (.aload_n 0, 1) := by decide +kernel
theorem dX4_pledge_28 : decode cX4_pledge 28 = .ok (.iload_n 1, 1) := by decide +kernel
theorem dX4_pledge_29 : decode cX4_pledge 29 = .ok (.iload_n 2, 1) := by decide +kernel
theorem dX4_pledge_30 : decode cX4_pledge 30 = .ok (.iload_n 3, 1) := by decide +kernel
theorem dX4_pledge_31 : decode cX4_pledge 31 = .ok (.invokevirtual 112, 3) := by decide +kernel
theorem dX4_pledge_34 : decode cX4_pledge 34 = .ok (.ifCond .ne 9, 3) := by decide +kernel
theorem dX4_pledge_37 : decode cX4_pledge 37 = .ok (.aload_n 0, 1) := by decide +kernel
theorem dX4_pledge_38 : decode cX4_pledge 38 = .ok (.iconst 3, 1) := by decide +kernel
theorem dX4_pledge_39 : decode cX4_pledge 39 = .ok (.invokevirtual 93, 3) := by decide +kernel
theorem dX4_pledge_42 : decode cX4_pledge 42 = .ok (.ireturn, 1) := by decide +kernel
theorem dX4_pledge_43 : decode cX4_pledge 43 = .ok (.aload_n 0, 1) := by decide +kernel
theorem dX4_pledge_44 : decode cX4_pledge 44 = .ok (.invokevirtual 96, 3) := by decide +kernel
theorem dX4_pledge_47 : decode cX4_pledge 47 = .ok (.aload_n 0, 1) := by decide +kernel
theorem dX4_pledge_48 : decode cX4_pledge 48 = .ok (.iload_n 1, 1) := by decide +kernel
theorem dX4_pledge_49 : decode cX4_pledge 49 = .ok (.iload_n 2, 1) := by decide +kernel
theorem dX4_pledge_50 : decode cX4_pledge 50 = .ok (.iload_n 3, 1) := by decide +kernel
theorem dX4_pledge_51 : decode cX4_pledge 51 = .ok (.invokevirtual 70, 3) := by decide +kernel
theorem dX4_pledge_54 : decode cX4_pledge 54 = .ok (.aload_n 0, 1) := by decide +kernel
theorem dX4_pledge_55 : decode cX4_pledge 55 = .ok (.invokevirtual 83, 3) := by decide +kernel
theorem dX4_pledge_58 : decode cX4_pledge 58 = .ok (.aload_n 0, 1) := by decide +kernel
theorem dX4_pledge_59 : decode cX4_pledge 59 = .ok (.iload_n 1, 1) := by decide +kernel
theorem dX4_pledge_60 : decode cX4_pledge 60 = .ok (.iload_n 2, 1) := by decide +kernel
theorem dX4_pledge_61 : decode cX4_pledge 61 = .ok (.invokevirtual 44, 3) := by decide +kernel
theorem dX4_pledge_64 : decode cX4_pledge 64 = .ok (.ireturn, 1) := by decide +kernel
theorem dX4_release_0 : decode cX4_release 0 = .ok (.aload_n 0, 1) := by decide +kernel
theorem dX4_release_1 : decode cX4_release 1 = .ok (.iload_n 1, 1) := by decide +kernel
theorem dX4_release_2 : decode cX4_release 2 = .ok (.iload_n 2, 1) := by decide +kernel
theorem dX4_release_3 : decode cX4_release 3 = .ok (.invokevirtual 109, 3) := by decide +kernel
theorem dX4_release_6 : decode cX4_release 6 = .ok (.ifCond .ne 5, 3) := by decide +kernel
theorem dX4_release_9 : decode cX4_release 9 = .ok (.iconst 0, 1) := by decide +kernel
theorem dX4_release_10 : decode cX4_release 10 = .ok (.ireturn, 1) := by decide +kernel
theorem dX4_release_11 : decode cX4_release 11 = .ok (.iload_n 3, 1) := by decide +kernel
theorem dX4_release_12 : decode cX4_release 12 = .ok (.iconst 1, 1) := by decide +kernel
theorem dX4_release_13 : decode cX4_release 13 = .ok (.bipush 50, 2) := by decide +kernel
theorem dX4_release_15 : decode cX4_release 15 = .ok (.invokestatic 33, 3) := by decide +kernel
theorem dX4_release_18 : decode cX4_release 18 = .ok (.ifCond .ne 9, 3) := by decide +kernel
theorem dX4_release_21 : decode cX4_release 21 = .ok (.aload_n 0, 1) := by decide +kernel
theorem dX4_release_22 : decode cX4_release 22 = .ok (.iconst 2, 1) := by decide +kernel
theorem dX4_release_23 : decode cX4_release 23 = .ok (.invokevirtual 93, 3) := by decide +kernel
theorem dX4_release_26 : decode cX4_release 26 = .ok (.ireturn, 1) := by decide +kernel
theorem dX4_release_27 : decode cX4_release 27 = .ok (.aload_n 0, 1) := by decide +kernel
theorem dX4_release_28 : decode cX4_release 28 = .ok (.iload_n 1, 1) := by decide +kernel
theorem dX4_release_29 : decode cX4_release 29 = .ok (.iload_n 2, 1) := by decide +kernel
theorem dX4_release_30 : decode cX4_release 30 = .ok (.iload_n 3, 1) := by decide +kernel
theorem dX4_release_31 : decode cX4_release 31 = .ok (.invokevirtual 115, 3) := by decide +kernel
theorem dX4_release_34 : decode cX4_release 34 = .ok (.ifCond .ne 9, 3) := by decide +kernel
theorem dX4_release_37 : decode cX4_release 37 = .ok (.aload_n 0, 1) := by decide +kernel
theorem dX4_release_38 : decode cX4_release 38 = .ok (.iconst 3, 1) := by decide +kernel
theorem dX4_release_39 : decode cX4_release 39 = .ok (.invokevirtual 93, 3) := by decide +kernel
theorem dX4_release_42 : decode cX4_release 42 = .ok (.ireturn, 1) := by decide +kernel
theorem dX4_release_43 : decode cX4_release 43 = .ok (.aload_n 0, 1) := by decide +kernel
theorem dX4_release_44 : decode cX4_release 44 = .ok (.invokevirtual 96, 3) := by decide +kernel
theorem dX4_release_47 : decode cX4_release 47 = .ok (.aload_n 0, 1) := by decide +kernel
theorem dX4_release_48 : decode cX4_release 48 = .ok (.iload_n 1, 1) := by decide +kernel
theorem dX4_release_49 : decode cX4_release 49 = .ok (.iload_n 2, 1) := by decide +kernel
theorem dX4_release_50 : decode cX4_release 50 = .ok (.iload_n 3, 1) := by decide +kernel
theorem dX4_release_51 : decode cX4_release 51 = .ok (.ineg, 1) := by decide +kernel
theorem dX4_release_52 : decode cX4_release 52 = .ok (.invokevirtual 70, 3) := by decide +kernel
theorem dX4_release_55 : decode cX4_release 55 = .ok (.aload_n 0, 1) := by decide +kernel
theorem dX4_release_56 : decode cX4_release 56 = .ok (.invokevirtual 83, 3) := by decide +kernel
theorem dX4_release_59 : decode cX4_release 59 = .ok (.aload_n 0, 1) := by decide +kernel
theorem dX4_release_60 : decode cX4_release 60 = .ok (.iload_n 1, 1) := by decide +kernel
theorem dX4_release_61 : decode cX4_release 61 = .ok (.iload_n 2, 1) := by decide +kernel
theorem dX4_release_62 : decode cX4_release 62 = .ok (.invokevirtual 44, 3) := by decide +kernel
theorem dX4_release_65 : decode cX4_release 65 = .ok (.ireturn, 1) := by decide +kernel
theorem dX4_deposit_0 : decode cX4_deposit 0 = .ok (.aload_n 0, 1) := by decide +kernel
theorem dX4_deposit_1 : decode cX4_deposit 1 = .ok (.iload_n 1, 1) := by decide +kernel
theorem dX4_deposit_2 : decode cX4_deposit 2 = .ok (.invokevirtual 118, 3) := by decide +kernel
theorem dX4_deposit_5 : decode cX4_deposit 5 = .ok (.ifCond .ne 5, 3) := by decide +kernel
theorem dX4_deposit_8 : decode cX4_deposit 8 = .ok (.iconst 0, 1) := by decide +kernel
theorem dX4_deposit_9 : decode cX4_deposit 9 = .ok (.ireturn, 1) := by decide +kernel
theorem dX4_deposit_10 : decode cX4_deposit 10 = .ok (.iload_n 2, 1) := by decide +kernel
theorem dX4_deposit_11 : decode cX4_deposit 11 = .ok (.iconst 1, 1) := by decide +kernel
theorem dX4_deposit_12 : decode cX4_deposit 12 = .ok (.sipush 9999, 3) := by decide +kernel
theorem dX4_deposit_15 : decode cX4_deposit 15 = .ok (.invokestatic 33, 3) := by decide +kernel
theorem dX4_deposit_18 : decode cX4_deposit 18 = .ok (.ifCond .ne 9, 3) := by decide +kernel
theorem dX4_deposit_21 : decode cX4_deposit 21 = .ok (.aload_n 0, 1) := by decide +kernel
theorem dX4_deposit_22 : decode cX4_deposit 22 = .ok (.iconst 2, 1) := by decide +kernel
theorem dX4_deposit_23 : decode cX4_deposit 23 = .ok (.invokevirtual 93, 3) := by decide +kernel
theorem dX4_deposit_26 : decode cX4_deposit 26 = .ok (.ireturn, 1) := by decide +kernel
theorem dX4_deposit_27 : decode cX4_deposit 27 = .ok (.aload_n 0, 1) := by decide +kernel
theorem dX4_deposit_28 : decode cX4_deposit 28 = .ok (.iload_n 1, 1) := by decide +kernel
theorem dX4_deposit_29 : decode cX4_deposit 29 = .ok (.bipush 6, 2) := by decide +kernel
theorem dX4_deposit_31 : decode cX4_deposit 31 = .ok (.invokevirtual 44, 3) := by decide +kernel
theorem dX4_deposit_34 : decode cX4_deposit 34 = .ok (.iload_n 2, 1) := by decide +kernel
theorem dX4_deposit_35 : decode cX4_deposit 35 = .ok (.iadd, 1) := by decide +kernel
theorem dX4_deposit_36 : decode cX4_deposit 36 = .ok (.ldc 121, 2) := by decide +kernel
theorem dX4_deposit_38 : decode cX4_deposit 38 = .ok (.if_icmp .le 9, 3) := by decide +kernel
theorem dX4_deposit_41 : decode cX4_deposit 41 = .ok (.aload_n 0, 1) := by decide +kernel
theorem dX4_deposit_42 : decode cX4_deposit 42 = .ok (.iconst 3, 1) := by decide +kernel
theorem dX4_deposit_43 : decode cX4_deposit 43 = .ok (.invokevirtual 93, 3) := by decide +kernel
theorem dX4_deposit_46 : decode cX4_deposit 46 = .ok (.ireturn, 1) := by decide +kernel
theorem dX4_deposit_47 : decode cX4_deposit 47 = .ok (.aload_n 0, 1) := by decide +kernel
theorem dX4_deposit_48 : decode cX4_deposit 48 = .ok (.invokevirtual 96, 3) := by decide +kernel
theorem dX4_deposit_51 : decode cX4_deposit 51 = .ok (.aload_n 0, 1) := by decide +kernel
theorem dX4_deposit_52 : decode cX4_deposit 52 = .ok (.iload_n 1, 1) := by decide +kernel
theorem dX4_deposit_53 : decode cX4_deposit 53 = .ok (.bipush 6, 2) := by decide +kernel
theorem dX4_deposit_55 : decode cX4_deposit 55 = .ok (.iload_n 2, 1) := by decide +kernel
theorem dX4_deposit_56 : decode cX4_deposit 56 = .ok (.invokevirtual 70, 3) := by decide +kernel
theorem dX4_deposit_59 : decode cX4_deposit 59 = .ok (.aload_n 0, 1) := by decide +kernel
theorem dX4_deposit_60 : decode cX4_deposit 60 = .ok (.invokevirtual 83, 3) := by decide +kernel
theorem dX4_deposit_63 : decode cX4_deposit 63 = .ok (.aload_n 0, 1) := by decide +kernel
theorem dX4_deposit_64 : decode cX4_deposit 64 = .ok (.iload_n 1, 1) := by decide +kernel
theorem dX4_deposit_65 : decode cX4_deposit 65 = .ok (.bipush 6, 2) := by decide +kernel
theorem dX4_deposit_67 : decode cX4_deposit 67 = .ok (.invokevirtual 44, 3) := by decide +kernel
theorem dX4_deposit_70 : decode cX4_deposit 70 = .ok (.ireturn, 1) := by decide +kernel
theorem dX4_withdraw_0 : decode cX4_withdraw 0 = .ok (.aload_n 0, 1) := by decide +kernel
theorem dX4_withdraw_1 : decode cX4_withdraw 1 = .ok (.iload_n 1, 1) := by decide +kernel
theorem dX4_withdraw_2 : decode cX4_withdraw 2 = .ok (.invokevirtual 118, 3) := by decide +kernel
theorem dX4_withdraw_5 : decode cX4_withdraw 5 = .ok (.ifCond .ne 5, 3) := by decide +kernel
theorem dX4_withdraw_8 : decode cX4_withdraw 8 = .ok (.iconst 0, 1) := by decide +kernel
theorem dX4_withdraw_9 : decode cX4_withdraw 9 = .ok (.ireturn, 1) := by decide +kernel
theorem dX4_withdraw_10 : decode cX4_withdraw 10 = .ok (.iload_n 2, 1) := by decide +kernel
theorem dX4_withdraw_11 : decode cX4_withdraw 11 = .ok (.iconst 1, 1) := by decide +kernel
theorem dX4_withdraw_12 : decode cX4_withdraw 12 = .ok (.sipush 9999, 3) := by decide +kernel
theorem dX4_withdraw_15 : decode cX4_withdraw 15 = .ok (.invokestatic 33, 3) := by decide +kernel
theorem dX4_withdraw_18 : decode cX4_withdraw 18 = .ok (.ifCond .ne 9, 3) := by decide +kernel
theorem dX4_withdraw_21 : decode cX4_withdraw 21 = .ok (.aload_n 0, 1) := by decide +kernel
theorem dX4_withdraw_22 : decode cX4_withdraw 22 = .ok (.iconst 2, 1) := by decide +kernel
theorem dX4_withdraw_23 : decode cX4_withdraw 23 = .ok (.invokevirtual 93, 3) := by decide +kernel
theorem dX4_withdraw_26 : decode cX4_withdraw 26 = .ok (.ireturn, 1) := by decide +kernel
theorem dX4_withdraw_27 : decode cX4_withdraw 27 = .ok (.aload_n 0, 1) := by decide +kernel
theorem dX4_withdraw_28 : decode cX4_withdraw 28 = .ok (.iload_n 1, 1) := by decide +kernel
theorem dX4_withdraw_29 : decode cX4_withdraw 29 = .ok (.bipush 6, 2) := by decide +kernel
theorem dX4_withdraw_31 : decode cX4_withdraw 31 = .ok (.iload_n 2, 1) := by decide +kernel
theorem dX4_withdraw_32 : decode cX4_withdraw 32 = .ok (.invokevirtual 115, 3) := by decide +kernel
theorem dX4_withdraw_35 : decode cX4_withdraw 35 = .ok (.ifCond .ne 9, 3) := by decide +kernel
theorem dX4_withdraw_38 : decode cX4_withdraw 38 = .ok (.aload_n 0, 1) := by decide +kernel
theorem dX4_withdraw_39 : decode cX4_withdraw 39 = .ok (.iconst 3, 1) := by decide +kernel
theorem dX4_withdraw_40 : decode cX4_withdraw 40 = .ok (.invokevirtual 93, 3) := by decide +kernel
theorem dX4_withdraw_43 : decode cX4_withdraw 43 = .ok (.ireturn, 1) := by decide +kernel
theorem dX4_withdraw_44 : decode cX4_withdraw 44 = .ok (.aload_n 0, 1) := by decide +kernel
theorem dX4_withdraw_45 : decode cX4_withdraw 45 = .ok (.invokevirtual 96, 3) := by decide +kernel
theorem dX4_withdraw_48 : decode cX4_withdraw 48 = .ok (.aload_n 0, 1) := by decide +kernel
theorem dX4_withdraw_49 : decode cX4_withdraw 49 = .ok (.iload_n 1, 1) := by decide +kernel
theorem dX4_withdraw_50 : decode cX4_withdraw 50 = .ok (.bipush 6, 2) := by decide +kernel
theorem dX4_withdraw_52 : decode cX4_withdraw 52 = .ok (.iload_n 2, 1) := by decide +kernel
theorem dX4_withdraw_53 : decode cX4_withdraw 53 = .ok (.ineg, 1) := by decide +kernel
theorem dX4_withdraw_54 : decode cX4_withdraw 54 = .ok (.invokevirtual 70, 3) := by decide +kernel
theorem dX4_withdraw_57 : decode cX4_withdraw 57 = .ok (.aload_n 0, 1) := by decide +kernel
theorem dX4_withdraw_58 : decode cX4_withdraw 58 = .ok (.invokevirtual 83, 3) := by decide +kernel
theorem dX4_withdraw_61 : decode cX4_withdraw 61 = .ok (.aload_n 0, 1) := by decide +kernel
theorem dX4_withdraw_62 : decode cX4_withdraw 62 = .ok (.iload_n 1, 1) := by decide +kernel
theorem dX4_withdraw_63 : decode cX4_withdraw 63 = .ok (.bipush 6, 2) := by decide +kernel
theorem dX4_withdraw_65 : decode cX4_withdraw 65 = .ok (.invokevirtual 44, 3) := by decide +kernel
theorem dX4_withdraw_68 : decode cX4_withdraw 68 = .ok (.ireturn, 1) := by decide +kernel
theorem dX4_lend_0 : decode cX4_lend 0 = .ok (.aload_n 0, 1) := by decide +kernel
theorem dX4_lend_1 : decode cX4_lend 1 = .ok (.iload_n 1, 1) := by decide +kernel
theorem dX4_lend_2 : decode cX4_lend 2 = .ok (.invokevirtual 118, 3) := by decide +kernel
theorem dX4_lend_5 : decode cX4_lend 5 = .ok (.ifCond .ne 5, 3) := by decide +kernel
theorem dX4_lend_8 : decode cX4_lend 8 = .ok (.iconst 0, 1) := by decide +kernel
theorem dX4_lend_9 : decode cX4_lend 9 = .ok (.ireturn, 1) := by decide +kernel
theorem dX4_lend_10 : decode cX4_lend 10 = .ok (.iload_n 2, 1) := by decide +kernel
theorem dX4_lend_11 : decode cX4_lend 11 = .ok (.iconst 1, 1) := by decide +kernel
theorem dX4_lend_12 : decode cX4_lend 12 = .ok (.sipush 9999, 3) := by decide +kernel
theorem dX4_lend_15 : decode cX4_lend 15 = .ok (.invokestatic 33, 3) := by decide +kernel
theorem dX4_lend_18 : decode cX4_lend 18 = .ok (.ifCond .ne 9, 3) := by decide +kernel
theorem dX4_lend_21 : decode cX4_lend 21 = .ok (.aload_n 0, 1) := by decide +kernel
theorem dX4_lend_22 : decode cX4_lend 22 = .ok (.iconst 2, 1) := by decide +kernel
theorem dX4_lend_23 : decode cX4_lend 23 = .ok (.invokevirtual 93, 3) := by decide +kernel
theorem dX4_lend_26 : decode cX4_lend 26 = .ok (.ireturn, 1) := by decide +kernel
theorem dX4_lend_27 : decode cX4_lend 27 = .ok (.aload_n 0, 1) := by decide +kernel
theorem dX4_lend_28 : decode cX4_lend 28 = .ok (.iload_n 1, 1) := by decide +kernel
theorem dX4_lend_29 : decode cX4_lend 29 = .ok (.iload_n 2, 1) := by decide +kernel
theorem dX4_lend_30 : decode cX4_lend 30 = .ok (.invokevirtual 122, 3) := by decide +kernel
theorem dX4_lend_33 : decode cX4_lend 33 = .ok (.ifCond .ne 9, 3) := by decide +kernel
theorem dX4_lend_36 : decode cX4_lend 36 = .ok (.aload_n 0, 1) := by decide +kernel
theorem dX4_lend_37 : decode cX4_lend 37 = .ok (.iconst 3, 1) := by decide +kernel
theorem dX4_lend_38 : decode cX4_lend 38 = .ok (.invokevirtual 93, 3) := by decide +kernel
theorem dX4_lend_41 : decode cX4_lend 41 = .ok (.ireturn, 1) := by decide +kernel
theorem dX4_lend_42 : decode cX4_lend 42 = .ok (.aload_n 0, 1) := by decide +kernel
theorem dX4_lend_43 : decode cX4_lend 43 = .ok (.invokevirtual 96, 3) := by decide +kernel
theorem dX4_lend_46 : decode cX4_lend 46 = .ok (.aload_n 0, 1) := by decide +kernel
theorem dX4_lend_47 : decode cX4_lend 47 = .ok (.iload_n 1, 1) := by decide +kernel
theorem dX4_lend_48 : decode cX4_lend 48 = .ok (.iload_n 2, 1) := by decide +kernel
theorem dX4_lend_49 : decode cX4_lend 49 = .ok (.invokevirtual 125, 3) := by decide +kernel
theorem dX4_lend_52 : decode cX4_lend 52 = .ok (.aload_n 0, 1) := by decide +kernel
theorem dX4_lend_53 : decode cX4_lend 53 = .ok (.invokevirtual 83, 3) := by decide +kernel
theorem dX4_lend_56 : decode cX4_lend 56 = .ok (.aload_n 0, 1) := by decide +kernel
theorem dX4_lend_57 : decode cX4_lend 57 = .ok (.iload_n 1, 1) := by decide +kernel
theorem dX4_lend_58 : decode cX4_lend 58 = .ok (.bipush 7, 2) := by decide +kernel
theorem dX4_lend_60 : decode cX4_lend 60 = .ok (.invokevirtual 44, 3) := by decide +kernel
theorem dX4_lend_63 : decode cX4_lend 63 = .ok (.ireturn, 1) := by decide +kernel
theorem dX4_payBack_0 : decode cX4_payBack 0 = .ok (.aload_n 0, 1) := by decide +kernel
theorem dX4_payBack_1 : decode cX4_payBack 1 = .ok (.iload_n 1, 1) := by decide +kernel
theorem dX4_payBack_2 : decode cX4_payBack 2 = .ok (.invokevirtual 118, 3) := by decide +kernel
theorem dX4_payBack_5 : decode cX4_payBack 5 = .ok (.ifCond .ne 5, 3) := by decide +kernel
theorem dX4_payBack_8 : decode cX4_payBack 8 = .ok (.iconst 0, 1) := by decide +kernel
theorem dX4_payBack_9 : decode cX4_payBack 9 = .ok (.ireturn, 1) := by decide +kernel
theorem dX4_payBack_10 : decode cX4_payBack 10 = .ok (.iload_n 2, 1) := by decide +kernel
theorem dX4_payBack_11 : decode cX4_payBack 11 = .ok (.iconst 1, 1) := by decide +kernel
theorem dX4_payBack_12 : decode cX4_payBack 12 = .ok (.sipush 9999, 3) := by decide +kernel
theorem dX4_payBack_15 : decode cX4_payBack 15 = .ok (.invokestatic 33, 3) := by decide +kernel
theorem dX4_payBack_18 : decode cX4_payBack 18 = .ok (.ifCond .ne 9, 3) := by decide +kernel
theorem dX4_payBack_21 : decode cX4_payBack 21 = .ok (.aload_n 0, 1) := by decide +kernel
theorem dX4_payBack_22 : decode cX4_payBack 22 = .ok (.iconst 2, 1) := by decide +kernel
theorem dX4_payBack_23 : decode cX4_payBack 23 = .ok (.invokevirtual 93, 3) := by decide +kernel
theorem dX4_payBack_26 : decode cX4_payBack 26 = .ok (.ireturn, 1) := by decide +kernel
theorem dX4_payBack_27 : decode cX4_payBack 27 = .ok (.aload_n 0, 1) := by decide +kernel
theorem dX4_payBack_28 : decode cX4_payBack 28 = .ok (.iload_n 1, 1) := by decide +kernel
theorem dX4_payBack_29 : decode cX4_payBack 29 = .ok (.bipush 7, 2) := by decide +kernel
theorem dX4_payBack_31 : decode cX4_payBack 31 = .ok (.invokevirtual 44, 3) := by decide +kernel
theorem dX4_payBack_34 : decode cX4_payBack 34 = .ok (.ifCond .ne 9, 3) := by decide +kernel
theorem dX4_payBack_37 : decode cX4_payBack 37 = .ok (.aload_n 0, 1) := by decide +kernel
theorem dX4_payBack_38 : decode cX4_payBack 38 = .ok (.iconst 3, 1) := by decide +kernel
theorem dX4_payBack_39 : decode cX4_payBack 39 = .ok (.invokevirtual 93, 3) := by decide +kernel
theorem dX4_payBack_42 : decode cX4_payBack 42 = .ok (.ireturn, 1) := by decide +kernel
theorem dX4_payBack_43 : decode cX4_payBack 43 = .ok (.aload_n 0, 1) := by decide +kernel
theorem dX4_payBack_44 : decode cX4_payBack 44 = .ok (.invokevirtual 96, 3) := by decide +kernel
theorem dX4_payBack_47 : decode cX4_payBack 47 = .ok (.aload_n 0, 1) := by decide +kernel
theorem dX4_payBack_48 : decode cX4_payBack 48 = .ok (.iload_n 1, 1) := by decide +kernel
theorem dX4_payBack_49 : decode cX4_payBack 49 = .ok (.iload_n 2, 1) := by decide +kernel
theorem dX4_payBack_50 : decode cX4_payBack 50 = .ok (.invokevirtual 128, 3) := by decide +kernel
theorem dX4_payBack_53 : decode cX4_payBack 53 = .ok (.istore_n 3, 1) := by decide +kernel
theorem dX4_payBack_54 : decode cX4_payBack 54 = .ok (.aload_n 0, 1) := by decide +kernel
theorem dX4_payBack_55 : decode cX4_payBack 55 = .ok (.invokevirtual 83, 3) := by decide +kernel
theorem dX4_payBack_58 : decode cX4_payBack 58 = .ok (.iload_n 3, 1) := by decide +kernel
theorem dX4_payBack_59 : decode cX4_payBack 59 = .ok (.ireturn, 1) := by decide +kernel
theorem dX4_readmit_0 : decode cX4_readmit 0 = .ok (.aload_n 0, 1) := by decide +kernel
theorem dX4_readmit_1 : decode cX4_readmit 1 = .ok (.iload_n 1, 1) := by decide +kernel
theorem dX4_readmit_2 : decode cX4_readmit 2 = .ok (.invokestatic 106, 3) := by decide +kernel
theorem dX4_readmit_5 : decode cX4_readmit 5 = .ok (.ifCond .ne 7, 3) := by decide +kernel
theorem dX4_readmit_8 : decode cX4_readmit 8 = .ok (.iconst 1, 1) := by decide +kernel
theorem dX4_readmit_9 : decode cX4_readmit 9 = .ok (.goto 19, 3) := by decide +kernel
theorem dX4_readmit_12 : decode cX4_readmit 12 = .ok (.aload_n 0, 1) := by decide +kernel
theorem dX4_readmit_13 : decode cX4_readmit 13 = .ok (.iload_n 1, 1) := by decide +kernel
theorem dX4_readmit_14 : decode cX4_readmit 14 = .ok (.bipush 9, 2) := by decide +kernel
theorem dX4_readmit_16 : decode cX4_readmit 16 = .ok (.invokevirtual 44, 3) := by decide +kernel
theorem dX4_readmit_19 : decode cX4_readmit 19 = .ok (.iconst 1, 1) := by decide +kernel
theorem dX4_readmit_20 : decode cX4_readmit 20 = .ok (.if_icmp .ne 7, 3) := by decide +kernel
theorem dX4_readmit_23 : decode cX4_readmit 23 = .ok (.iconst 0, 1) := by decide +kernel
theorem dX4_readmit_24 : decode cX4_readmit 24 = .ok (.goto 4, 3) := by decide +kernel
theorem dX4_readmit_27 : decode cX4_readmit 27 = .ok (.iconst 2, 1) := by decide +kernel
theorem dX4_readmit_28 : decode cX4_readmit 28 = .ok (.putfield 29, 3) := by decide +kernel
theorem dX4_readmit_31 : decode cX4_readmit 31 = .ok (.aload_n 0, 1) := by decide +kernel
theorem dX4_readmit_32 : decode cX4_readmit 32 = .ok (.getfield 29, 3) := by decide +kernel
theorem dX4_readmit_35 : decode cX4_readmit 35 = .ok (.ifCond .ne 19, 3) := by decide +kernel
theorem dX4_readmit_38 : decode cX4_readmit 38 = .ok (.aload_n 0, 1) := by decide +kernel
theorem dX4_readmit_39 : decode cX4_readmit 39 = .ok (.invokevirtual 96, 3) := by decide +kernel
theorem dX4_readmit_42 : decode cX4_readmit 42 = .ok (.aload_n 0, 1) := by decide +kernel
theorem dX4_readmit_43 : decode cX4_readmit 43 = .ok (.iload_n 1, 1) := by decide +kernel
theorem dX4_readmit_44 : decode cX4_readmit 44 = .ok (.bipush 9, 2) := by decide +kernel
theorem dX4_readmit_46 : decode cX4_readmit 46 = .ok (.iconst 0, 1) := by decide +kernel
theorem dX4_readmit_47 : decode cX4_readmit 47 = .ok (.invokevirtual 62, 3) := by decide +kernel
theorem dX4_readmit_50 : decode cX4_readmit 50 = .ok (.aload_n 0, 1) := by decide +kernel
theorem dX4_readmit_51 : decode cX4_readmit 51 = .ok (.invokevirtual 83, 3) := by decide +kernel
theorem dX4_readmit_54 : decode cX4_readmit 54 = .ok (.return_, 1) := by decide +kernel
theorem dX4_pass_0 : decode cX4_pass 0 = .ok (.aload_n 0, 1) := by decide +kernel
theorem dX4_pass_1 : decode cX4_pass 1 = .ok (.iconst 0, 1) := by decide +kernel
theorem dX4_pass_2 : decode cX4_pass 2 = .ok (.putfield 29, 3) := by decide +kernel
theorem dX4_pass_5 : decode cX4_pass 5 = .ok (.iload_n 1, 1) := by decide +kernel
theorem dX4_pass_6 : decode cX4_pass 6 = .ok (.iconst 1, 1) := by decide +kernel
theorem dX4_pass_7 : decode cX4_pass 7 = .ok (.bipush 100, 2) := by decide +kernel
theorem dX4_pass_9 : decode cX4_pass 9 = .ok (.invokestatic 33, 3) := by decide +kernel
theorem dX4_pass_12 : decode cX4_pass 12 = .ok (.ifCond .ne 9, 3) := by decide +kernel
theorem dX4_pass_15 : decode cX4_pass 15 = .ok (.aload_n 0, 1) := by decide +kernel
theorem dX4_pass_16 : decode cX4_pass 16 = .ok (.iconst 1, 1) := by decide +kernel
theorem dX4_pass_17 : decode cX4_pass 17 = .ok (.invokevirtual 93, 3) := by decide +kernel
theorem dX4_pass_20 : decode cX4_pass 20 = .ok (.ireturn, 1) := by decide +kernel
theorem dX4_pass_21 : decode cX4_pass 21 = .ok (.aload_n 0, 1) := by decide +kernel
theorem dX4_pass_22 : decode cX4_pass 22 = .ok (.invokevirtual 96, 3) := by decide +kernel
theorem dX4_pass_25 : decode cX4_pass 25 = .ok (.aload_n 0, 1) := by decide +kernel
theorem dX4_pass_26 : decode cX4_pass 26 = .ok (.iload_n 1, 1) := by decide +kernel
theorem dX4_pass_27 : decode cX4_pass 27 = .ok (.invokevirtual 131, 3) := by decide +kernel
theorem dX4_pass_30 : decode cX4_pass 30 = .ok (.istore_n 2, 1) := by decide +kernel
theorem dX4_pass_31 : decode cX4_pass 31 = .ok (.aload_n 0, 1) := by decide +kernel
theorem dX4_pass_32 : decode cX4_pass 32 = .ok (.invokevirtual 83, 3) := by decide +kernel
theorem dX4_pass_35 : decode cX4_pass 35 = .ok (.iload_n 2, 1) := by decide +kernel
theorem dX4_pass_36 : decode cX4_pass 36 = .ok (.ireturn, 1) := by decide +kernel
theorem dX4_rules_0 : decode cX4_rules 0 = .ok (.aload_n 0, 1) := by decide +kernel
theorem dX4_rules_1 : decode cX4_rules 1 = .ok (.iconst 0, 1) := by decide +kernel
theorem dX4_rules_2 : decode cX4_rules 2 = .ok (.putfield 29, 3) := by decide +kernel
theorem dX4_rules_5 : decode cX4_rules 5 = .ok (.iload_n 2, 1) := by decide +kernel
theorem dX4_rules_6 : decode cX4_rules 6 = .ok (.iload_n 3, 1) := by decide +kernel
theorem dX4_rules_7 : decode cX4_rules 7 = .ok (.iload 4, 2) := by decide +kernel
theorem dX4_rules_9 : decode cX4_rules 9 = .ok (.invokestatic 33, 3) := by decide +kernel
theorem dX4_rules_12 : decode cX4_rules 12 = .ok (.ifCond .ne 9, 3) := by decide +kernel
theorem dX4_rules_15 : decode cX4_rules 15 = .ok (.aload_n 0, 1) := by decide +kernel
theorem dX4_rules_16 : decode cX4_rules 16 = .ok (.iconst 1, 1) := by decide +kernel
theorem dX4_rules_17 : decode cX4_rules 17 = .ok (.invokevirtual 93, 3) := by decide +kernel
theorem dX4_rules_20 : decode cX4_rules 20 = .ok (.ireturn, 1) := by decide +kernel
theorem dX4_rules_21 : decode cX4_rules 21 = .ok (.aload_n 0, 1) := by decide +kernel
theorem dX4_rules_22 : decode cX4_rules 22 = .ok (.invokevirtual 96, 3) := by decide +kernel
theorem dX4_rules_25 : decode cX4_rules 25 = .ok (.aload_n 0, 1) := by decide +kernel
theorem dX4_rules_26 : decode cX4_rules 26 = .ok (.getfield 7, 3) := by decide +kernel
theorem dX4_rules_29 : decode cX4_rules 29 = .ok (.iload_n 1, 1) := by decide +kernel
theorem dX4_rules_30 : decode cX4_rules 30 = .ok (.iaload, 1) := by decide +kernel
theorem dX4_rules_31 : decode cX4_rules 31 = .ok (.istore 5, 2) := by decide +kernel
theorem dX4_rules_33 : decode cX4_rules 33 = .ok (.aload_n 0, 1) := by decide +kernel
theorem dX4_rules_34 : decode cX4_rules 34 = .ok (.getfield 7, 3) := by decide +kernel
theorem dX4_rules_37 : decode cX4_rules 37 = .ok (.iload_n 1, 1) := by decide +kernel
theorem dX4_rules_38 : decode cX4_rules 38 = .ok (.iload_n 2, 1) := by decide +kernel
theorem dX4_rules_39 : decode cX4_rules 39 = .ok (.iastore, 1) := by decide +kernel
theorem dX4_rules_40 : decode cX4_rules 40 = .ok (.aload_n 0, 1) := by decide +kernel
theorem dX4_rules_41 : decode cX4_rules 41 = .ok (.invokevirtual 83, 3) := by decide +kernel
theorem dX4_rules_44 : decode cX4_rules 44 = .ok (.iload 5, 2) := by decide +kernel
theorem dX4_rules_46 : decode cX4_rules 46 = .ok (.ireturn, 1) := by decide +kernel
theorem dX4_changeRate_0 : decode cX4_changeRate 0 = .ok (.aload_n 0, 1) := by decide +kernel
theorem dX4_changeRate_1 : decode cX4_changeRate 1 = .ok (.bipush 98, 2) := by decide +kernel
theorem dX4_changeRate_3 : decode cX4_changeRate 3 = .ok (.iload_n 1, 1) := by decide +kernel
theorem dX4_changeRate_4 : decode cX4_changeRate 4 = .ok (.iconst 0, 1) := by decide +kernel
theorem dX4_changeRate_5 : decode cX4_changeRate 5 = .ok (.bipush 100, 2) := by decide +kernel
theorem dX4_changeRate_7 : decode cX4_changeRate 7 = .ok (.invokevirtual 134, 3) := by decide +kernel
theorem dX4_changeRate_10 : decode cX4_changeRate 10 = .ok (.ireturn, 1) := by decide +kernel
theorem dX4_changeGrace_0 : decode cX4_changeGrace 0 = .ok (.aload_n 0, 1) := by decide +kernel
theorem dX4_changeGrace_1 : decode cX4_changeGrace 1 = .ok (.bipush 99, 2) := by decide +kernel
theorem dX4_changeGrace_3 : decode cX4_changeGrace 3 = .ok (.iload_n 1, 1) := by decide +kernel
theorem dX4_changeGrace_4 : decode cX4_changeGrace 4 = .ok (.iconst 1, 1) := by decide +kernel
theorem dX4_changeGrace_5 : decode cX4_changeGrace 5 = .ok (.bipush 24, 2) := by decide +kernel
theorem dX4_changeGrace_7 : decode cX4_changeGrace 7 = .ok (.invokevirtual 134, 3) := by decide +kernel
theorem dX4_changeGrace_10 : decode cX4_changeGrace 10 = .ok (.ireturn, 1) := by decide +kernel
theorem dX4_changeSlip_0 : decode cX4_changeSlip 0 = .ok (.aload_n 0, 1) := by decide +kernel
theorem dX4_changeSlip_1 : decode cX4_changeSlip 1 = .ok (.bipush 100, 2) := by decide +kernel
theorem dX4_changeSlip_3 : decode cX4_changeSlip 3 = .ok (.iload_n 1, 1) := by decide +kernel
theorem dX4_changeSlip_4 : decode cX4_changeSlip 4 = .ok (.iconst 0, 1) := by decide +kernel
theorem dX4_changeSlip_5 : decode cX4_changeSlip 5 = .ok (.bipush 50, 2) := by decide +kernel
theorem dX4_changeSlip_7 : decode cX4_changeSlip 7 = .ok (.invokevirtual 134, 3) := by decide +kernel
theorem dX4_changeSlip_10 : decode cX4_changeSlip 10 = .ok (.ireturn, 1) := by decide +kernel
theorem dX4_turnOrder_0 : decode cX4_turnOrder 0 = .ok (.aload_n 0, 1) := by decide +kernel
theorem dX4_turnOrder_1 : decode cX4_turnOrder 1 = .ok (.iconst 0, 1) := by decide +kernel
theorem dX4_turnOrder_2 : decode cX4_turnOrder 2 = .ok (.putfield 29, 3) := by decide +kernel
theorem dX4_turnOrder_5 : decode cX4_turnOrder 5 = .ok (.aload_n 0, 1) := by decide +kernel
theorem dX4_turnOrder_6 : decode cX4_turnOrder 6 = .ok (.invokevirtual 96, 3) := by decide +kernel
theorem dX4_turnOrder_9 : decode cX4_turnOrder 9 = .ok (.aload_n 0, 1) := by decide +kernel
theorem dX4_turnOrder_10 : decode cX4_turnOrder 10 = .ok (.getfield 7, 3) := by decide +kernel
theorem dX4_turnOrder_13 : decode cX4_turnOrder 13 = .ok (.bipush 101, 2) := by decide +kernel
theorem dX4_turnOrder_15 : decode cX4_turnOrder 15 = .ok (.aload_n 0, 1) := by decide +kernel
theorem dX4_turnOrder_16 : decode cX4_turnOrder 16 = .ok (.getfield 7, 3) := by decide +kernel
theorem dX4_turnOrder_19 : decode cX4_turnOrder 19 = .ok (.bipush 101, 2) := by decide +kernel
theorem dX4_turnOrder_21 : decode cX4_turnOrder 21 = .ok (.iaload, 1) := by decide +kernel
theorem dX4_turnOrder_22 : decode cX4_turnOrder 22 = .ok (.iconst 1, 1) := by decide +kernel
theorem dX4_turnOrder_23 : decode cX4_turnOrder 23 = .ok (.iadd, 1) := by decide +kernel
theorem dX4_turnOrder_24 : decode cX4_turnOrder 24 = .ok (.iconst 3, 1) := by decide +kernel
theorem dX4_turnOrder_25 : decode cX4_turnOrder 25 = .ok (.irem, 1) := by decide +kernel
theorem dX4_turnOrder_26 : decode cX4_turnOrder 26 = .ok (.iastore, 1) := by decide +kernel
theorem dX4_turnOrder_27 : decode cX4_turnOrder 27 = .ok (.aload_n 0, 1) := by decide +kernel
theorem dX4_turnOrder_28 : decode cX4_turnOrder 28 = .ok (.getfield 7, 3) := by decide +kernel
theorem dX4_turnOrder_31 : decode cX4_turnOrder 31 = .ok (.bipush 101, 2) := by decide +kernel
theorem dX4_turnOrder_33 : decode cX4_turnOrder 33 = .ok (.iaload, 1) := by decide +kernel
theorem dX4_turnOrder_34 : decode cX4_turnOrder 34 = .ok (.ireturn, 1) := by decide +kernel
theorem dX4_append_0 : decode cX4_append 0 = .ok (.aload_n 0, 1) := by decide +kernel
theorem dX4_append_1 : decode cX4_append 1 = .ok (.iconst 0, 1) := by decide +kernel
theorem dX4_append_2 : decode cX4_append 2 = .ok (.putfield 29, 3) := by decide +kernel
theorem dX4_append_5 : decode cX4_append 5 = .ok (.iload_n 1, 1) := by decide +kernel
theorem dX4_append_6 : decode cX4_append 6 = .ok (.bipush 33, 2) := by decide +kernel
theorem dX4_append_8 : decode cX4_append 8 = .ok (.bipush 126, 2) := by decide +kernel
theorem dX4_append_10 : decode cX4_append 10 = .ok (.invokestatic 33, 3) := by decide +kernel
theorem dX4_append_13 : decode cX4_append 13 = .ok (.ifCond .ne 9, 3) := by decide +kernel
theorem dX4_append_16 : decode cX4_append 16 = .ok (.aload_n 0, 1) := by decide +kernel
theorem dX4_append_17 : decode cX4_append 17 = .ok (.iconst 1, 1) := by decide +kernel
theorem dX4_append_18 : decode cX4_append 18 = .ok (.invokevirtual 93, 3) := by decide +kernel
theorem dX4_append_21 : decode cX4_append 21 = .ok (.ireturn, 1) := by decide +kernel
theorem dX4_append_22 : decode cX4_append 22 = .ok (.aload_n 0, 1) := by decide +kernel
theorem dX4_append_23 : decode cX4_append 23 = .ok (.getfield 137, 3) := by decide +kernel
theorem dX4_append_26 : decode cX4_append 26 = .ok (.bipush 60, 2) := by decide +kernel
theorem dX4_append_28 : decode cX4_append 28 = .ok (.if_icmp .ne 9, 3) := by decide +kernel
theorem dX4_append_31 : decode cX4_append 31 = .ok (.aload_n 0, 1) := by decide +kernel
theorem dX4_append_32 : decode cX4_append 32 = .ok (.iconst 2, 1) := by decide +kernel
theorem dX4_append_33 : decode cX4_append 33 = .ok (.invokevirtual 93, 3) := by decide +kernel
theorem dX4_append_36 : decode cX4_append 36 = .ok (.ireturn, 1) := by decide +kernel
theorem dX4_append_37 : decode cX4_append 37 = .ok (.aload_n 0, 1) := by decide +kernel
theorem dX4_append_38 : decode cX4_append 38 = .ok (.getfield 26, 3) := by decide +kernel
theorem dX4_append_41 : decode cX4_append 41 = .ok (.aload_n 0, 1) := by decide +kernel
theorem dX4_append_42 : decode cX4_append 42 = .ok (.getfield 137, 3) := by decide +kernel
theorem dX4_append_45 : decode cX4_append 45 = .ok (.iload_n 1, 1) := by decide +kernel
theorem dX4_append_46 : decode cX4_append 46 = .ok (.iastore, 1) := by decide +kernel
theorem dX4_append_47 : decode cX4_append 47 = .ok (.aload_n 0, 1) := by decide +kernel
theorem dX4_append_48 : decode cX4_append 48 = .ok (.dup, 1) := by decide +kernel
theorem dX4_append_49 : decode cX4_append 49 = .ok (.getfield 137, 3) := by decide +kernel
theorem dX4_append_52 : decode cX4_append 52 = .ok (.iconst 1, 1) := by decide +kernel
theorem dX4_append_53 : decode cX4_append 53 = .ok (.iadd, 1) := by decide +kernel
theorem dX4_append_54 : decode cX4_append 54 = .ok (.putfield 137, 3) := by decide +kernel
theorem dX4_append_57 : decode cX4_append 57 = .ok (.aload_n 0, 1) := by decide +kernel
theorem dX4_append_58 : decode cX4_append 58 = .ok (.getfield 137, 3) := by decide +kernel
theorem dX4_append_61 : decode cX4_append 61 = .ok (.ireturn, 1) := by decide +kernel
theorem dX4_clearBuffer_0 : decode cX4_clearBuffer 0 = .ok (.aload_n 0, 1) := by decide +kernel
theorem dX4_clearBuffer_1 : decode cX4_clearBuffer 1 = .ok (.iconst 0, 1) := by decide +kernel
theorem dX4_clearBuffer_2 : decode cX4_clearBuffer 2 = .ok (.putfield 29, 3) := by decide +kernel
theorem dX4_clearBuffer_5 : decode cX4_clearBuffer 5 = .ok (.aload_n 0, 1) := by decide +kernel
theorem dX4_clearBuffer_6 : decode cX4_clearBuffer 6 = .ok (.getfield 137, 3) := by decide +kernel
theorem dX4_clearBuffer_9 : decode cX4_clearBuffer 9 = .ok (.istore_n 1, 1) := by decide +kernel
theorem dX4_clearBuffer_10 : decode cX4_clearBuffer 10 = .ok (.aload_n 0, 1) := by decide +kernel
theorem dX4_clearBuffer_11 : decode cX4_clearBuffer 11 = .ok (.iconst 0, 1) := by decide +kernel
theorem dX4_clearBuffer_12 : decode cX4_clearBuffer 12 = .ok (.putfield 137, 3) := by decide +kernel
theorem dX4_clearBuffer_15 : decode cX4_clearBuffer 15 = .ok (.iload_n 1, 1) := by decide +kernel
theorem dX4_clearBuffer_16 : decode cX4_clearBuffer 16 = .ok (.ireturn, 1) := by decide +kernel
theorem dX4_sign_0 : decode cX4_sign 0 = .ok (.aload_n 0, 1) := by decide +kernel
theorem dX4_sign_1 : decode cX4_sign 1 = .ok (.getfield 140, 3) := by decide +kernel
theorem dX4_sign_4 : decode cX4_sign 4 = .ok (.aload_n 0, 1) := by decide +kernel
theorem dX4_sign_5 : decode cX4_sign 5 = .ok (.getfield 137, 3) := by decide +kernel
theorem dX4_sign_8 : decode cX4_sign 8 = .ok (.if_icmp .ge 22, 3) := by decide +kernel
theorem dX4_sign_11 : decode cX4_sign 11 = .ok (.aload_n 0, 1) := by decide +kernel
theorem dX4_sign_12 : decode cX4_sign 12 = .ok (.getfield 143, 3) := by decide +kernel
theorem dX4_sign_15 : decode cX4_sign 15 = .ok (.ifCond .ne 15, 3) := by decide +kernel
theorem dX4_sign_18 : decode cX4_sign 18 = .ok (.aload_n 0, 1) := by decide +kernel
theorem dX4_sign_19 : decode cX4_sign 19 = .ok (.getfield 26, 3) := by decide +kernel
theorem dX4_sign_22 : decode cX4_sign 22 = .ok (.aload_n 0, 1) := by decide +kernel
theorem dX4_sign_23 : decode cX4_sign 23 = .ok (.getfield 140, 3) := by decide +kernel
theorem dX4_sign_26 : decode cX4_sign 26 = .ok (.iaload, 1) := by decide +kernel
theorem dX4_sign_27 : decode cX4_sign 27 = .ok (.goto 4, 3) := by decide +kernel
theorem dX4_sign_30 : decode cX4_sign 30 = .ok (.iconst 0, 1) := by decide +kernel
theorem dX4_sign_31 : decode cX4_sign 31 = .ok (.istore_n 3, 1) := by decide +kernel
theorem dX4_sign_32 : decode cX4_sign 32 = .ok (.aload_n 0, 1) := by decide +kernel
theorem dX4_sign_33 : decode cX4_sign 33 = .ok (.aload_n 0, 1) := by decide +kernel
theorem dX4_sign_34 : decode cX4_sign 34 = .ok (.getfield 143, 3) := by decide +kernel
theorem dX4_sign_37 : decode cX4_sign 37 = .ok (.ifCond .ne 12, 3) := by decide +kernel
theorem dX4_sign_40 : decode cX4_sign 40 = .ok (.iload_n 3, 1) := by decide +kernel
theorem dX4_sign_41 : decode cX4_sign 41 = .ok (.iload_n 1, 1) := by decide +kernel
theorem dX4_sign_42 : decode cX4_sign 42 = .ok (.iload_n 2, 1) := by decide +kernel
theorem dX4_sign_43 : decode cX4_sign 43 = .ok (.invokestatic 33, 3) := by decide +kernel
theorem dX4_sign_46 : decode cX4_sign 46 = .ok (.ifCond .ne 7, 3) := by decide +kernel
theorem dX4_sign_49 : decode cX4_sign 49 = .ok (.iconst 1, 1) := by decide +kernel
theorem dX4_sign_50 : decode cX4_sign 50 = .ok (.goto 4, 3) := by decide +kernel
theorem dX4_sign_53 : decode cX4_sign 53 = .ok (.iconst 0, 1) := by decide +kernel
theorem dX4_sign_54 : decode cX4_sign 54 = .ok (.putfield 143, 3) := by decide +kernel
theorem dX4_sign_57 : decode cX4_sign 57 = .ok (.aload_n 0, 1) := by decide +kernel
theorem dX4_sign_58 : decode cX4_sign 58 = .ok (.dup, 1) := by decide +kernel
theorem dX4_sign_59 : decode cX4_sign 59 = .ok (.getfield 140, 3) := by decide +kernel
theorem dX4_sign_62 : decode cX4_sign 62 = .ok (.aload_n 0, 1) := by decide +kernel
theorem dX4_sign_63 : decode cX4_sign 63 = .ok (.getfield 143, 3) := by decide +kernel
theorem dX4_sign_66 : decode cX4_sign 66 = .ok (.ifCond .eq 7, 3) := by decide +kernel
theorem dX4_sign_69 : decode cX4_sign 69 = .ok (.iconst 0, 1) := by decide +kernel
theorem dX4_sign_70 : decode cX4_sign 70 = .ok (.goto 4, 3) := by decide +kernel
theorem dX4_sign_73 : decode cX4_sign 73 = .ok (.iconst 1, 1) := by decide +kernel
theorem dX4_sign_74 : decode cX4_sign 74 = .ok (.iadd, 1) := by decide +kernel
theorem dX4_sign_75 : decode cX4_sign 75 = .ok (.putfield 140, 3) := by decide +kernel
theorem dX4_sign_78 : decode cX4_sign 78 = .ok (.iload_n 3, 1) := by decide +kernel
theorem dX4_sign_79 : decode cX4_sign 79 = .ok (.ireturn, 1) := by decide +kernel
theorem dX4_number_0 : decode cX4_number 0 = .ok (.aload_n 0, 1) := by decide +kernel
theorem dX4_number_1 : decode cX4_number 1 = .ok (.bipush 48, 2) := by decide +kernel
theorem dX4_number_3 : decode cX4_number 3 = .ok (.iload_n 1, 1) := by decide +kernel
theorem dX4_number_4 : decode cX4_number 4 = .ok (.iadd, 1) := by decide +kernel
theorem dX4_number_5 : decode cX4_number 5 = .ok (.bipush 57, 2) := by decide +kernel
theorem dX4_number_7 : decode cX4_number 7 = .ok (.invokevirtual 147, 3) := by decide +kernel
theorem dX4_number_10 : decode cX4_number 10 = .ok (.bipush 48, 2) := by decide +kernel
theorem dX4_number_12 : decode cX4_number 12 = .ok (.isub, 1) := by decide +kernel
theorem dX4_number_13 : decode cX4_number 13 = .ok (.istore_n 3, 1) := by decide +kernel
theorem dX4_number_14 : decode cX4_number 14 = .ok (.aload_n 0, 1) := by decide +kernel
theorem dX4_number_15 : decode cX4_number 15 = .ok (.getfield 143, 3) := by decide +kernel
theorem dX4_number_18 : decode cX4_number 18 = .ok (.ifCond .ne 78, 3) := by decide +kernel
theorem dX4_number_21 : decode cX4_number 21 = .ok (.iload_n 3, 1) := by decide +kernel
theorem dX4_number_22 : decode cX4_number 22 = .ok (.ifCond .le 74, 3) := by decide +kernel
theorem dX4_number_25 : decode cX4_number 25 = .ok (.aload_n 0, 1) := by decide +kernel
theorem dX4_number_26 : decode cX4_number 26 = .ok (.getfield 140, 3) := by decide +kernel
theorem dX4_number_29 : decode cX4_number 29 = .ok (.aload_n 0, 1) := by decide +kernel
theorem dX4_number_30 : decode cX4_number 30 = .ok (.getfield 137, 3) := by decide +kernel
theorem dX4_number_33 : decode cX4_number 33 = .ok (.if_icmp .ge 63, 3) := by decide +kernel
theorem dX4_number_36 : decode cX4_number 36 = .ok (.aload_n 0, 1) := by decide +kernel
theorem dX4_number_37 : decode cX4_number 37 = .ok (.getfield 26, 3) := by decide +kernel
theorem dX4_number_40 : decode cX4_number 40 = .ok (.aload_n 0, 1) := by decide +kernel
theorem dX4_number_41 : decode cX4_number 41 = .ok (.getfield 140, 3) := by decide +kernel
theorem dX4_number_44 : decode cX4_number 44 = .ok (.iaload, 1) := by decide +kernel
theorem dX4_number_45 : decode cX4_number 45 = .ok (.bipush 48, 2) := by decide +kernel
theorem dX4_number_47 : decode cX4_number 47 = .ok (.bipush 57, 2) := by decide +kernel
theorem dX4_number_49 : decode cX4_number 49 = .ok (.invokestatic 33, 3) := by decide +kernel
theorem dX4_number_52 : decode cX4_number 52 = .ok (.ifCond .eq 44, 3) := by decide +kernel
theorem dX4_number_55 : decode cX4_number 55 = .ok (.bipush 10, 2) := by decide +kernel
theorem dX4_number_57 : decode cX4_number 57 = .ok (.iload_n 3, 1) := by decide +kernel
theorem dX4_number_58 : decode cX4_number 58 = .ok (.imul, 1) := by decide +kernel
theorem dX4_number_59 : decode cX4_number 59 = .ok (.aload_n 0, 1) := by decide +kernel
theorem dX4_number_60 : decode cX4_number 60 = .ok (.getfield 26, 3) := by decide +kernel
theorem dX4_number_63 : decode cX4_number 63 = .ok (.aload_n 0, 1) := by decide +kernel
theorem dX4_number_64 : decode cX4_number 64 = .ok (.getfield 140, 3) := by decide +kernel
theorem dX4_number_67 : decode cX4_number 67 = .ok (.iaload, 1) := by decide +kernel
theorem dX4_number_68 : decode cX4_number 68 = .ok (.iadd, 1) := by decide +kernel
theorem dX4_number_69 : decode cX4_number 69 = .ok (.bipush 48, 2) := by decide +kernel
theorem dX4_number_71 : decode cX4_number 71 = .ok (.isub, 1) := by decide +kernel
theorem dX4_number_72 : decode cX4_number 72 = .ok (.iload_n 2, 1) := by decide +kernel
theorem dX4_number_73 : decode cX4_number 73 = .ok (.if_icmp .gt 23, 3) := by decide +kernel
theorem dX4_number_76 : decode cX4_number 76 = .ok (.bipush 10, 2) := by decide +kernel
theorem dX4_number_78 : decode cX4_number 78 = .ok (.iload_n 3, 1) := by decide +kernel
theorem dX4_number_79 : decode cX4_number 79 = .ok (.imul, 1) := by decide +kernel
theorem dX4_number_80 : decode cX4_number 80 = .ok (.aload_n 0, 1) := by decide +kernel
theorem dX4_number_81 : decode cX4_number 81 = .ok (.bipush 48, 2) := by decide +kernel
theorem dX4_number_83 : decode cX4_number 83 = .ok (.bipush 57, 2) := by decide +kernel
theorem dX4_number_85 : decode cX4_number 85 = .ok (.invokevirtual 147, 3) := by decide +kernel
theorem dX4_number_88 : decode cX4_number 88 = .ok (.iadd, 1) := by decide +kernel
theorem dX4_number_89 : decode cX4_number 89 = .ok (.bipush 48, 2) := by decide +kernel
theorem dX4_number_91 : decode cX4_number 91 = .ok (.isub, 1) := by decide +kernel
theorem dX4_number_92 : decode cX4_number 92 = .ok (.istore_n 3, 1) := by decide +kernel
theorem dX4_number_93 : decode cX4_number 93 = .ok (.goto (-79), 3) := by decide +kernel
theorem dX4_number_96 : decode cX4_number 96 = .ok (.iload_n 3, 1) := by decide +kernel
theorem dX4_number_97 : decode cX4_number 97 = .ok (.ireturn, 1) := by decide +kernel
theorem dX4_isOrdered_0 : decode cX4_isOrdered 0 = .ok (.aload_n 0, 1) := by decide +kernel
theorem dX4_isOrdered_1 : decode cX4_isOrdered 1 = .ok (.getfield 140, 3) := by decide +kernel
theorem dX4_isOrdered_4 : decode cX4_isOrdered 4 = .ok (.aload_n 0, 1) := by decide +kernel
theorem dX4_isOrdered_5 : decode cX4_isOrdered 5 = .ok (.getfield 137, 3) := by decide +kernel
theorem dX4_isOrdered_8 : decode cX4_isOrdered 8 = .ok (.if_icmp .ge 22, 3) := by decide +kernel
theorem dX4_isOrdered_11 : decode cX4_isOrdered 11 = .ok (.aload_n 0, 1) := by decide +kernel
theorem dX4_isOrdered_12 : decode cX4_isOrdered 12 = .ok (.getfield 143, 3) := by decide +kernel
theorem dX4_isOrdered_15 : decode cX4_isOrdered 15 = .ok (.ifCond .ne 15, 3) := by decide +kernel
theorem dX4_isOrdered_18 : decode cX4_isOrdered 18 = .ok (.aload_n 0, 1) := by decide +kernel
theorem dX4_isOrdered_19 : decode cX4_isOrdered 19 = .ok (.getfield 26, 3) := by decide +kernel
theorem dX4_isOrdered_22 : decode cX4_isOrdered 22 = .ok (.aload_n 0, 1) := by decide +kernel
theorem dX4_isOrdered_23 : decode cX4_isOrdered 23 = .ok (.getfield 140, 3) := by decide +kernel
theorem dX4_isOrdered_26 : decode cX4_isOrdered 26 = .ok (.iaload, 1) := by decide +kernel
theorem dX4_isOrdered_27 : decode cX4_isOrdered 27 = .ok (.goto 4, 3) := by decide +kernel
theorem dX4_isOrdered_30 : decode cX4_isOrdered 30 = .ok (.iconst 0, 1) := by decide +kernel
theorem dX4_isOrdered_31 : decode cX4_isOrdered 31 = .ok (.istore_n 2, 1) := by decide +kernel
theorem dX4_isOrdered_32 : decode cX4_isOrdered 32 = .ok (.iload_n 2, 1) := by decide +kernel
theorem dX4_isOrdered_33 : decode cX4_isOrdered 33 = .ok (.bipush 112, 2) := by decide +kernel
theorem dX4_isOrdered_35 : decode cX4_isOrdered 35 = .ok (.if_icmp .eq 9, 3) := by decide +kernel
theorem dX4_isOrdered_38 : decode cX4_isOrdered 38 = .ok (.iload_n 2, 1) := by decide +kernel
theorem dX4_isOrdered_39 : decode cX4_isOrdered 39 = .ok (.bipush 99, 2) := by decide +kernel
theorem dX4_isOrdered_41 : decode cX4_isOrdered 41 = .ok (.if_icmp .ne 7, 3) := by decide +kernel
theorem dX4_isOrdered_44 : decode cX4_isOrdered 44 = .ok (.iconst 1, 1) := by decide +kernel
theorem dX4_isOrdered_45 : decode cX4_isOrdered 45 = .ok (.goto 4, 3) := by decide +kernel
theorem dX4_isOrdered_48 : decode cX4_isOrdered 48 = .ok (.iconst 0, 1) := by decide +kernel
theorem dX4_isOrdered_49 : decode cX4_isOrdered 49 = .ok (.istore_n 3, 1) := by decide +kernel
theorem dX4_isOrdered_50 : decode cX4_isOrdered 50 = .ok (.iload_n 2, 1) := by decide +kernel
theorem dX4_isOrdered_51 : decode cX4_isOrdered 51 = .ok (.bipush 43, 2) := by decide +kernel
theorem dX4_isOrdered_53 : decode cX4_isOrdered 53 = .ok (.if_icmp .eq 9, 3) := by decide +kernel
theorem dX4_isOrdered_56 : decode cX4_isOrdered 56 = .ok (.iload_n 2, 1) := by decide +kernel
theorem dX4_isOrdered_57 : decode cX4_isOrdered 57 = .ok (.bipush 45, 2) := by decide +kernel
theorem dX4_isOrdered_59 : decode cX4_isOrdered 59 = .ok (.if_icmp .ne 7, 3) := by decide +kernel
theorem dX4_isOrdered_62 : decode cX4_isOrdered 62 = .ok (.iconst 1, 1) := by decide +kernel
theorem dX4_isOrdered_63 : decode cX4_isOrdered 63 = .ok (.goto 4, 3) := by decide +kernel
theorem dX4_isOrdered_66 : decode cX4_isOrdered 66 = .ok (.iconst 0, 1) := by decide +kernel
theorem dX4_isOrdered_67 : decode cX4_isOrdered 67 = .ok (.istore 4, 2) := by decide +kernel
theorem dX4_isOrdered_69 : decode cX4_isOrdered 69 = .ok (.iload_n 2, 1) := by decide +kernel
theorem dX4_isOrdered_70 : decode cX4_isOrdered 70 = .ok (.bipush 108, 2) := by decide +kernel
theorem dX4_isOrdered_72 : decode cX4_isOrdered 72 = .ok (.if_icmp .eq 9, 3) := by decide +kernel
theorem dX4_isOrdered_75 : decode cX4_isOrdered 75 = .ok (.iload_n 2, 1) := by decide +kernel
theorem dX4_isOrdered_76 : decode cX4_isOrdered 76 = .ok (.bipush 98, 2) := by decide +kernel
theorem dX4_isOrdered_78 : decode cX4_isOrdered 78 = .ok (.if_icmp .ne 7, 3) := by decide +kernel
theorem dX4_isOrdered_81 : decode cX4_isOrdered 81 = .ok (.iconst 1, 1) := by decide +kernel
theorem dX4_isOrdered_82 : decode cX4_isOrdered 82 = .ok (.goto 4, 3) := by decide +kernel
theorem dX4_isOrdered_85 : decode cX4_isOrdered 85 = .ok (.iconst 0, 1) := by decide +kernel
theorem dX4_isOrdered_86 : decode cX4_isOrdered 86 = .ok (.istore 5, 2) := by decide +kernel
theorem dX4_isOrdered_88 : decode cX4_isOrdered 88 = .ok (.aload_n 0, 1) := by decide +kernel
theorem dX4_isOrdered_89 : decode cX4_isOrdered 89 = .ok (.aload_n 0, 1) := by decide +kernel
theorem dX4_isOrdered_90 : decode cX4_isOrdered 90 = .ok (.getfield 143, 3) := by decide +kernel
theorem dX4_isOrdered_93 : decode cX4_isOrdered 93 = .ok (.ifCond .ne 23, 3) := by decide +kernel
theorem dX4_isOrdered_96 : decode cX4_isOrdered 96 = .ok (.iload_n 3, 1) := by decide +kernel
theorem dX4_isOrdered_97 : decode cX4_isOrdered 97 = .ok (.ifCond .ne 23, 3) := by decide +kernel
theorem dX4_isOrdered_100 : decode cX4_isOrdered 100 = .ok (.iload 4, 2) := by decide +kernel
theorem dX4_isOrdered_102 : decode cX4_isOrdered 102 = .ok (.ifCond .ne 18, 3) := by decide +kernel
theorem dX4_isOrdered_105 : decode cX4_isOrdered 105 = .ok (.iload 5, 2) := by decide +kernel
theorem dX4_isOrdered_107 : decode cX4_isOrdered 107 = .ok (.ifCond .ne 13, 3) := by decide +kernel
theorem dX4_isOrdered_110 : decode cX4_isOrdered 110 = .ok (.iload_n 2, 1) := by decide +kernel
theorem dX4_isOrdered_111 : decode cX4_isOrdered 111 = .ok (.bipush 104, 2) := by decide +kernel
theorem dX4_isOrdered_113 : decode cX4_isOrdered 113 = .ok (.if_icmp .eq 7, 3) := by decide +kernel
theorem dX4_isOrdered_116 : decode cX4_isOrdered 116 = .ok (.iconst 1, 1) := by decide +kernel
theorem dX4_isOrdered_117 : decode cX4_isOrdered 117 = .ok (.goto 4, 3) := by decide +kernel
theorem dX4_isOrdered_120 : decode cX4_isOrdered 120 = .ok (.iconst 0, 1) := by decide +kernel
theorem dX4_isOrdered_121 : decode cX4_isOrdered 121 = .ok (.putfield 143, 3) := by decide +kernel
theorem dX4_isOrdered_124 : decode cX4_isOrdered 124 = .ok (.aload_n 0, 1) := by decide +kernel
theorem dX4_isOrdered_125 : decode cX4_isOrdered 125 = .ok (.dup, 1) := by decide +kernel
theorem dX4_isOrdered_126 : decode cX4_isOrdered 126 = .ok (.getfield 140, 3) := by decide +kernel
theorem dX4_isOrdered_129 : decode cX4_isOrdered 129 = .ok (.aload_n 0, 1) := by decide +kernel
theorem dX4_isOrdered_130 : decode cX4_isOrdered 130 = .ok (.getfield 143, 3) := by decide +kernel
theorem dX4_isOrdered_133 : decode cX4_isOrdered 133 = .ok (.ifCond .eq 7, 3) := by decide +kernel
theorem dX4_isOrdered_136 : decode cX4_isOrdered 136 = .ok (.iconst 0, 1) := by decide +kernel
theorem dX4_isOrdered_137 : decode cX4_isOrdered 137 = .ok (.goto 4, 3) := by decide +kernel
theorem dX4_isOrdered_140 : decode cX4_isOrdered 140 = .ok (.iconst 1, 1) := by decide +kernel
theorem dX4_isOrdered_141 : decode cX4_isOrdered 141 = .ok (.iadd, 1) := by decide +kernel
theorem dX4_isOrdered_142 : decode cX4_isOrdered 142 = .ok (.putfield 140, 3) := by decide +kernel
theorem dX4_isOrdered_145 : decode cX4_isOrdered 145 = .ok (.iload_n 2, 1) := by decide +kernel
theorem dX4_isOrdered_146 : decode cX4_isOrdered 146 = .ok (.bipush 104, 2) := by decide +kernel
theorem dX4_isOrdered_148 : decode cX4_isOrdered 148 = .ok (.if_icmp .ne 7, 3) := by decide +kernel
theorem dX4_isOrdered_151 : decode cX4_isOrdered 151 = .ok (.iconst 0, 1) := by decide +kernel
theorem dX4_isOrdered_152 : decode cX4_isOrdered 152 = .ok (.goto 23, 3) := by decide +kernel
theorem dX4_isOrdered_155 : decode cX4_isOrdered 155 = .ok (.aload_n 0, 1) := by decide +kernel
theorem dX4_isOrdered_156 : decode cX4_isOrdered 156 = .ok (.bipush 48, 2) := by decide +kernel
theorem dX4_isOrdered_158 : decode cX4_isOrdered 158 = .ok (.iload_n 3, 1) := by decide +kernel
theorem dX4_isOrdered_159 : decode cX4_isOrdered 159 = .ok (.ifCond .eq 8, 3) := by decide +kernel
theorem dX4_isOrdered_162 : decode cX4_isOrdered 162 = .ok (.bipush 53, 2) := by decide +kernel
theorem dX4_isOrdered_164 : decode cX4_isOrdered 164 = .ok (.goto 5, 3) := by decide +kernel
theorem dX4_isOrdered_167 : decode cX4_isOrdered 167 = .ok (.bipush 55, 2) := by decide +kernel
theorem dX4_isOrdered_169 : decode cX4_isOrdered 169 = .ok (.invokevirtual 147, 3) := by decide +kernel
theorem dX4_isOrdered_172 : decode cX4_isOrdered 172 = .ok (.bipush 48, 2) := by decide +kernel
theorem dX4_isOrdered_174 : decode cX4_isOrdered 174 = .ok (.isub, 1) := by decide +kernel
theorem dX4_isOrdered_175 : decode cX4_isOrdered 175 = .ok (.istore 6, 2) := by decide +kernel
theorem dX4_isOrdered_177 : decode cX4_isOrdered 177 = .ok (.iconst 0, 1) := by decide +kernel
theorem dX4_isOrdered_178 : decode cX4_isOrdered 178 = .ok (.istore 7, 2) := by decide +kernel
theorem dX4_isOrdered_180 : decode cX4_isOrdered 180 = .ok (.iload 4, 2) := by decide +kernel
theorem dX4_isOrdered_182 : decode cX4_isOrdered 182 = .ok (.ifCond .eq 39, 3) := by decide +kernel
theorem dX4_isOrdered_185 : decode cX4_isOrdered 185 = .ok (.aload_n 0, 1) := by decide +kernel
theorem dX4_isOrdered_186 : decode cX4_isOrdered 186 = .ok (.bipush 58, 2) := by decide +kernel
theorem dX4_isOrdered_188 : decode cX4_isOrdered 188 = .ok (.bipush 58, 2) := by decide +kernel
theorem dX4_isOrdered_190 : decode cX4_isOrdered 190 = .ok (.invokevirtual 147, 3) := by decide +kernel
theorem dX4_isOrdered_193 : decode cX4_isOrdered 193 = .ok (.istore 8, 2) := by decide +kernel
theorem dX4_isOrdered_195 : decode cX4_isOrdered 195 = .ok (.aload_n 0, 1) := by decide +kernel
theorem dX4_isOrdered_196 : decode cX4_isOrdered 196 = .ok (.bipush 48, 2) := by decide +kernel
theorem dX4_isOrdered_198 : decode cX4_isOrdered 198 = .ok (.bipush 53, 2) := by decide +kernel
theorem dX4_isOrdered_200 : decode cX4_isOrdered 200 = .ok (.invokevirtual 147, 3) := by decide +kernel
theorem dX4_isOrdered_203 : decode cX4_isOrdered 203 = .ok (.bipush 48, 2) := by decide +kernel
theorem dX4_isOrdered_205 : decode cX4_isOrdered 205 = .ok (.isub, 1) := by decide +kernel
theorem dX4_isOrdered_206 : decode cX4_isOrdered 206 = .ok (.istore 7, 2) := by decide +kernel
theorem dX4_isOrdered_208 : decode cX4_isOrdered 208 = .ok (.aload_n 0, 1) := by decide +kernel
theorem dX4_isOrdered_209 : decode cX4_isOrdered 209 = .ok (.bipush 42, 2) := by decide +kernel
theorem dX4_isOrdered_211 : decode cX4_isOrdered 211 = .ok (.bipush 42, 2) := by decide +kernel
theorem dX4_isOrdered_213 : decode cX4_isOrdered 213 = .ok (.invokevirtual 147, 3) := by decide +kernel
theorem dX4_isOrdered_216 : decode cX4_isOrdered 216 = .ok (.istore 8, 2) := by decide +kernel
theorem dX4_isOrdered_218 : decode cX4_isOrdered 218 = .ok (.goto 19, 3) := by decide +kernel
theorem dX4_isOrdered_221 : decode cX4_isOrdered 221 = .ok (.iload_n 2, 1) := by decide +kernel
theorem dX4_isOrdered_222 : decode cX4_isOrdered 222 = .ok (.bipush 104, 2) := by decide +kernel
theorem dX4_isOrdered_224 : decode cX4_isOrdered 224 = .ok (.if_icmp .eq 13, 3) := by decide +kernel
theorem dX4_isOrdered_227 : decode cX4_isOrdered 227 = .ok (.aload_n 0, 1) := by decide +kernel
theorem dX4_isOrdered_228 : decode cX4_isOrdered 228 = .ok (.bipush 61, 2) := by decide +kernel
theorem dX4_isOrdered_230 : decode cX4_isOrdered 230 = .ok (.bipush 61, 2) := by decide +kernel
theorem dX4_isOrdered_232 : decode cX4_isOrdered 232 = .ok (.invokevirtual 147, 3) := by decide +kernel
theorem dX4_isOrdered_235 : decode cX4_isOrdered 235 = .ok (.istore 8, 2) := by decide +kernel
theorem dX4_isOrdered_237 : decode cX4_isOrdered 237 = .ok (.iload_n 2, 1) := by decide +kernel
theorem dX4_isOrdered_238 : decode cX4_isOrdered 238 = .ok (.bipush 112, 2) := by decide +kernel
theorem dX4_isOrdered_240 : decode cX4_isOrdered 240 = .ok (.if_icmp .ne 14, 3) := by decide +kernel
theorem dX4_isOrdered_243 : decode cX4_isOrdered 243 = .ok (.aload_n 0, 1) := by decide +kernel
theorem dX4_isOrdered_244 : decode cX4_isOrdered 244 = .ok (.iconst 1, 1) := by decide +kernel
theorem dX4_isOrdered_245 : decode cX4_isOrdered 245 = .ok (.sipush 500, 3) := by decide +kernel
theorem dX4_isOrdered_248 : decode cX4_isOrdered 248 = .ok (.invokevirtual 150, 3) := by decide +kernel
theorem dX4_isOrdered_251 : decode cX4_isOrdered 251 = .ok (.goto 57, 3) := by decide +kernel
theorem dX4_isOrdered_254 : decode cX4_isOrdered 254 = .ok (.iload_n 2, 1) := by decide +kernel
theorem dX4_isOrdered_255 : decode cX4_isOrdered 255 = .ok (.bipush 99, 2) := by decide +kernel
theorem dX4_isOrdered_257 : decode cX4_isOrdered 257 = .ok (.if_icmp .ne 13, 3) := by decide +kernel
theorem dX4_isOrdered_260 : decode cX4_isOrdered 260 = .ok (.aload_n 0, 1) := by decide +kernel
theorem dX4_isOrdered_261 : decode cX4_isOrdered 261 = .ok (.iconst 0, 1) := by decide +kernel
theorem dX4_isOrdered_262 : decode cX4_isOrdered 262 = .ok (.bipush 90, 2) := by decide +kernel
theorem dX4_isOrdered_264 : decode cX4_isOrdered 264 = .ok (.invokevirtual 150, 3) := by decide +kernel
theorem dX4_isOrdered_267 : decode cX4_isOrdered 267 = .ok (.goto 41, 3) := by decide +kernel
theorem dX4_isOrdered_270 : decode cX4_isOrdered 270 = .ok (.iload 4, 2) := by decide +kernel
theorem dX4_isOrdered_272 : decode cX4_isOrdered 272 = .ok (.ifCond .eq 13, 3) := by decide +kernel
theorem dX4_isOrdered_275 : decode cX4_isOrdered 275 = .ok (.aload_n 0, 1) := by decide +kernel
theorem dX4_isOrdered_276 : decode cX4_isOrdered 276 = .ok (.iconst 1, 1) := by decide +kernel
theorem dX4_isOrdered_277 : decode cX4_isOrdered 277 = .ok (.bipush 50, 2) := by decide +kernel
theorem dX4_isOrdered_279 : decode cX4_isOrdered 279 = .ok (.invokevirtual 150, 3) := by decide +kernel
theorem dX4_isOrdered_282 : decode cX4_isOrdered 282 = .ok (.goto 26, 3) := by decide +kernel
theorem dX4_isOrdered_285 : decode cX4_isOrdered 285 = .ok (.iload 5, 2) := by decide +kernel
theorem dX4_isOrdered_287 : decode cX4_isOrdered 287 = .ok (.ifCond .eq 14, 3) := by decide +kernel
theorem dX4_isOrdered_290 : decode cX4_isOrdered 290 = .ok (.aload_n 0, 1) := by decide +kernel
theorem dX4_isOrdered_291 : decode cX4_isOrdered 291 = .ok (.iconst 1, 1) := by decide +kernel
theorem dX4_isOrdered_292 : decode cX4_isOrdered 292 = .ok (.sipush 9999, 3) := by decide +kernel
theorem dX4_isOrdered_295 : decode cX4_isOrdered 295 = .ok (.invokevirtual 150, 3) := by decide +kernel
theorem dX4_isOrdered_298 : decode cX4_isOrdered 298 = .ok (.goto 10, 3) := by decide +kernel
theorem dX4_isOrdered_301 : decode cX4_isOrdered 301 = .ok (.aload_n 0, 1) := by decide +kernel
theorem dX4_isOrdered_302 : decode cX4_isOrdered 302 = .ok (.iconst 1, 1) := by decide +kernel
theorem dX4_isOrdered_303 : decode cX4_isOrdered 303 = .ok (.bipush 100, 2) := by decide +kernel
theorem dX4_isOrdered_305 : decode cX4_isOrdered 305 = .ok (.invokevirtual 150, 3) := by decide +kernel
theorem dX4_isOrdered_308 : decode cX4_isOrdered 308 = .ok (.istore 8, 2) := by decide +kernel
theorem dX4_isOrdered_310 : decode cX4_isOrdered 310 = .ok (.iload_n 1, 1) := by decide +kernel
theorem dX4_isOrdered_311 : decode cX4_isOrdered 311 = .ok (.ifCond .eq 17, 3) := by decide +kernel
theorem dX4_isOrdered_314 : decode cX4_isOrdered 314 = .ok (.aload_n 0, 1) := by decide +kernel
theorem dX4_isOrdered_315 : decode cX4_isOrdered 315 = .ok (.iload_n 2, 1) := by decide +kernel
theorem dX4_isOrdered_316 : decode cX4_isOrdered 316 = .ok (.iload 6, 2) := by decide +kernel
theorem dX4_isOrdered_318 : decode cX4_isOrdered 318 = .ok (.iload 7, 2) := by decide +kernel
theorem dX4_isOrdered_320 : decode cX4_isOrdered 320 = .ok (.iload 8, 2) := by decide +kernel
theorem dX4_isOrdered_322 : decode cX4_isOrdered 322 = .ok (.invokevirtual 153, 3) := by decide +kernel
theorem dX4_isOrdered_325 : decode cX4_isOrdered 325 = .ok (.ifCond .eq 7, 3) := by decide +kernel
theorem dX4_isOrdered_328 : decode cX4_isOrdered 328 = .ok (.iconst 1, 1) := by decide +kernel
theorem dX4_isOrdered_329 : decode cX4_isOrdered 329 = .ok (.goto 4, 3) := by decide +kernel
theorem dX4_isOrdered_332 : decode cX4_isOrdered 332 = .ok (.iconst 0, 1) := by decide +kernel
theorem dX4_isOrdered_333 : decode cX4_isOrdered 333 = .ok (.ireturn, 1) := by decide +kernel
theorem dX4_isFollowed_0 : decode cX4_isFollowed 0 = .ok (.iload_n 1, 1) := by decide +kernel
theorem dX4_isFollowed_1 : decode cX4_isFollowed 1 = .ok (.bipush 43, 2) := by decide +kernel
theorem dX4_isFollowed_3 : decode cX4_isFollowed 3 = .ok (.if_icmp .ne 14, 3) := by decide +kernel
theorem dX4_isFollowed_6 : decode cX4_isFollowed 6 = .ok (.aload_n 0, 1) := by decide +kernel
theorem dX4_isFollowed_7 : decode cX4_isFollowed 7 = .ok (.iload_n 2, 1) := by decide +kernel
theorem dX4_isFollowed_8 : decode cX4_isFollowed 8 = .ok (.iload_n 3, 1) := by decide +kernel
theorem dX4_isFollowed_9 : decode cX4_isFollowed 9 = .ok (.iload 4, 2) := by decide +kernel
theorem dX4_isFollowed_11 : decode cX4_isFollowed 11 = .ok (.invokevirtual 112, 3) := by decide +kernel
theorem dX4_isFollowed_14 : decode cX4_isFollowed 14 = .ok (.goto 57, 3) := by decide +kernel
theorem dX4_isFollowed_17 : decode cX4_isFollowed 17 = .ok (.iload_n 1, 1) := by decide +kernel
theorem dX4_isFollowed_18 : decode cX4_isFollowed 18 = .ok (.bipush 45, 2) := by decide +kernel
theorem dX4_isFollowed_20 : decode cX4_isFollowed 20 = .ok (.if_icmp .ne 14, 3) := by decide +kernel
theorem dX4_isFollowed_23 : decode cX4_isFollowed 23 = .ok (.aload_n 0, 1) := by decide +kernel
theorem dX4_isFollowed_24 : decode cX4_isFollowed 24 = .ok (.iload_n 2, 1) := by decide +kernel
theorem dX4_isFollowed_25 : decode cX4_isFollowed 25 = .ok (.iload_n 3, 1) := by decide +kernel
theorem dX4_isFollowed_26 : decode cX4_isFollowed 26 = .ok (.iload 4, 2) := by decide +kernel
theorem dX4_isFollowed_28 : decode cX4_isFollowed 28 = .ok (.invokevirtual 115, 3) := by decide +kernel
theorem dX4_isFollowed_31 : decode cX4_isFollowed 31 = .ok (.goto 40, 3) := by decide +kernel
theorem dX4_isFollowed_34 : decode cX4_isFollowed 34 = .ok (.iload_n 1, 1) := by decide +kernel
theorem dX4_isFollowed_35 : decode cX4_isFollowed 35 = .ok (.bipush 108, 2) := by decide +kernel
theorem dX4_isFollowed_37 : decode cX4_isFollowed 37 = .ok (.if_icmp .ne 13, 3) := by decide +kernel
theorem dX4_isFollowed_40 : decode cX4_isFollowed 40 = .ok (.aload_n 0, 1) := by decide +kernel
theorem dX4_isFollowed_41 : decode cX4_isFollowed 41 = .ok (.iload_n 2, 1) := by decide +kernel
theorem dX4_isFollowed_42 : decode cX4_isFollowed 42 = .ok (.iload 4, 2) := by decide +kernel
theorem dX4_isFollowed_44 : decode cX4_isFollowed 44 = .ok (.invokevirtual 122, 3) := by decide +kernel
theorem dX4_isFollowed_47 : decode cX4_isFollowed 47 = .ok (.goto 24, 3) := by decide +kernel
theorem dX4_isFollowed_50 : decode cX4_isFollowed 50 = .ok (.iload_n 1, 1) := by decide +kernel
theorem dX4_isFollowed_51 : decode cX4_isFollowed 51 = .ok (.bipush 98, 2) := by decide +kernel
theorem dX4_isFollowed_53 : decode cX4_isFollowed 53 = .ok (.if_icmp .ne 13, 3) := by decide +kernel
theorem dX4_isFollowed_56 : decode cX4_isFollowed 56 = .ok (.aload_n 0, 1) := by decide +kernel
theorem dX4_isFollowed_57 : decode cX4_isFollowed 57 = .ok (.iload_n 2, 1) := by decide +kernel
theorem dX4_isFollowed_58 : decode cX4_isFollowed 58 = .ok (.bipush 7, 2) := by decide +kernel
theorem dX4_isFollowed_60 : decode cX4_isFollowed 60 = .ok (.invokevirtual 44, 3) := by decide +kernel
theorem dX4_isFollowed_63 : decode cX4_isFollowed 63 = .ok (.ifCond .le 7, 3) := by decide +kernel
theorem dX4_isFollowed_66 : decode cX4_isFollowed 66 = .ok (.iconst 1, 1) := by decide +kernel
theorem dX4_isFollowed_67 : decode cX4_isFollowed 67 = .ok (.goto 4, 3) := by decide +kernel
theorem dX4_isFollowed_70 : decode cX4_isFollowed 70 = .ok (.iconst 0, 1) := by decide +kernel
theorem dX4_isFollowed_71 : decode cX4_isFollowed 71 = .ok (.istore 5, 2) := by decide +kernel
theorem dX4_isFollowed_73 : decode cX4_isFollowed 73 = .ok (.iload 5, 2) := by decide +kernel
theorem dX4_isFollowed_75 : decode cX4_isFollowed 75 = .ok (.ifCond .eq 118, 3) := by decide +kernel
theorem dX4_isFollowed_78 : decode cX4_isFollowed 78 = .ok (.iload_n 1, 1) := by decide +kernel
theorem dX4_isFollowed_79 : decode cX4_isFollowed 79 = .ok (.bipush 112, 2) := by decide +kernel
theorem dX4_isFollowed_81 : decode cX4_isFollowed 81 = .ok (.if_icmp .eq 9, 3) := by decide +kernel
theorem dX4_isFollowed_84 : decode cX4_isFollowed 84 = .ok (.iload_n 1, 1) := by decide +kernel
theorem dX4_isFollowed_85 : decode cX4_isFollowed 85 = .ok (.bipush 99, 2) := by decide +kernel
theorem dX4_isFollowed_87 : decode cX4_isFollowed 87 = .ok (.if_icmp .ne 27, 3) := by decide +kernel
theorem dX4_isFollowed_90 : decode cX4_isFollowed 90 = .ok (.aload_n 0, 1) := by decide +kernel
theorem dX4_isFollowed_91 : decode cX4_isFollowed 91 = .ok (.getfield 7, 3) := by decide +kernel
theorem dX4_isFollowed_94 : decode cX4_isFollowed 94 = .ok (.iload_n 1, 1) := by decide +kernel
theorem dX4_isFollowed_95 : decode cX4_isFollowed 95 = .ok (.bipush 112, 2) := by decide +kernel
theorem dX4_isFollowed_97 : decode cX4_isFollowed 97 = .ok (.if_icmp .ne 7, 3) := by decide +kernel
theorem dX4_isFollowed_100 : decode cX4_isFollowed 100 = .ok (.iload_n 2, 1) := by decide +kernel
theorem dX4_isFollowed_101 : decode cX4_isFollowed 101 = .ok (.goto 7, 3) := by decide +kernel
theorem dX4_isFollowed_104 : decode cX4_isFollowed 104 = .ok (.bipush 6, 2) := by decide +kernel
theorem dX4_isFollowed_106 : decode cX4_isFollowed 106 = .ok (.iload_n 2, 1) := by decide +kernel
theorem dX4_isFollowed_107 : decode cX4_isFollowed 107 = .ok (.iadd, 1) := by decide +kernel
theorem dX4_isFollowed_108 : decode cX4_isFollowed 108 = .ok (.iload 4, 2) := by decide +kernel
theorem dX4_isFollowed_110 : decode cX4_isFollowed 110 = .ok (.iastore, 1) := by decide +kernel
theorem dX4_isFollowed_111 : decode cX4_isFollowed 111 = .ok (.goto 78, 3) := by decide +kernel
theorem dX4_isFollowed_114 : decode cX4_isFollowed 114 = .ok (.iload_n 1, 1) := by decide +kernel
theorem dX4_isFollowed_115 : decode cX4_isFollowed 115 = .ok (.bipush 43, 2) := by decide +kernel
theorem dX4_isFollowed_117 : decode cX4_isFollowed 117 = .ok (.if_icmp .eq 9, 3) := by decide +kernel
theorem dX4_isFollowed_120 : decode cX4_isFollowed 120 = .ok (.iload_n 1, 1) := by decide +kernel
theorem dX4_isFollowed_121 : decode cX4_isFollowed 121 = .ok (.bipush 45, 2) := by decide +kernel
theorem dX4_isFollowed_123 : decode cX4_isFollowed 123 = .ok (.if_icmp .ne 26, 3) := by decide +kernel
theorem dX4_isFollowed_126 : decode cX4_isFollowed 126 = .ok (.aload_n 0, 1) := by decide +kernel
theorem dX4_isFollowed_127 : decode cX4_isFollowed 127 = .ok (.iload_n 2, 1) := by decide +kernel
theorem dX4_isFollowed_128 : decode cX4_isFollowed 128 = .ok (.iload_n 3, 1) := by decide +kernel
theorem dX4_isFollowed_129 : decode cX4_isFollowed 129 = .ok (.iload_n 1, 1) := by decide +kernel
theorem dX4_isFollowed_130 : decode cX4_isFollowed 130 = .ok (.bipush 43, 2) := by decide +kernel
theorem dX4_isFollowed_132 : decode cX4_isFollowed 132 = .ok (.if_icmp .ne 8, 3) := by decide +kernel
theorem dX4_isFollowed_135 : decode cX4_isFollowed 135 = .ok (.iload 4, 2) := by decide +kernel
theorem dX4_isFollowed_137 : decode cX4_isFollowed 137 = .ok (.goto 6, 3) := by decide +kernel
theorem dX4_isFollowed_140 : decode cX4_isFollowed 140 = .ok (.iload 4, 2) := by decide +kernel
theorem dX4_isFollowed_142 : decode cX4_isFollowed 142 = .ok (.ineg, 1) := by decide +kernel
theorem dX4_isFollowed_143 : decode cX4_isFollowed 143 = .ok (.invokevirtual 70, 3) := by decide +kernel
theorem dX4_isFollowed_146 : decode cX4_isFollowed 146 = .ok (.goto 43, 3) := by decide +kernel
theorem dX4_isFollowed_149 : decode cX4_isFollowed 149 = .ok (.iload_n 1, 1) := by decide +kernel
theorem dX4_isFollowed_150 : decode cX4_isFollowed 150 = .ok (.bipush 108, 2) := by decide +kernel
theorem dX4_isFollowed_152 : decode cX4_isFollowed 152 = .ok (.if_icmp .ne 13, 3) := by decide +kernel
theorem dX4_isFollowed_155 : decode cX4_isFollowed 155 = .ok (.aload_n 0, 1) := by decide +kernel
theorem dX4_isFollowed_156 : decode cX4_isFollowed 156 = .ok (.iload_n 2, 1) := by decide +kernel
theorem dX4_isFollowed_157 : decode cX4_isFollowed 157 = .ok (.iload 4, 2) := by decide +kernel
theorem dX4_isFollowed_159 : decode cX4_isFollowed 159 = .ok (.invokevirtual 125, 3) := by decide +kernel
theorem dX4_isFollowed_162 : decode cX4_isFollowed 162 = .ok (.goto 27, 3) := by decide +kernel
theorem dX4_isFollowed_165 : decode cX4_isFollowed 165 = .ok (.iload_n 1, 1) := by decide +kernel
theorem dX4_isFollowed_166 : decode cX4_isFollowed 166 = .ok (.bipush 98, 2) := by decide +kernel
theorem dX4_isFollowed_168 : decode cX4_isFollowed 168 = .ok (.if_icmp .ne 13, 3) := by decide +kernel
theorem dX4_isFollowed_171 : decode cX4_isFollowed 171 = .ok (.aload_n 0, 1) := by decide +kernel
theorem dX4_isFollowed_172 : decode cX4_isFollowed 172 = .ok (.iload_n 2, 1) := by decide +kernel
theorem dX4_isFollowed_173 : decode cX4_isFollowed 173 = .ok (.iload 4, 2) := by decide +kernel
theorem dX4_isFollowed_175 : decode cX4_isFollowed 175 = .ok (.invokevirtual 128, 3) := by decide +kernel
theorem dX4_isFollowed_178 : decode cX4_isFollowed 178 = .ok (.goto 9, 3) := by decide +kernel
theorem dX4_isFollowed_181 : decode cX4_isFollowed 181 = .ok (.aload_n 0, 1) := by decide +kernel
theorem dX4_isFollowed_182 : decode cX4_isFollowed 182 = .ok (.iload 4, 2) := by decide +kernel
theorem dX4_isFollowed_184 : decode cX4_isFollowed 184 = .ok (.invokevirtual 131, 3) := by decide +kernel
theorem dX4_isFollowed_187 : decode cX4_isFollowed 187 = .ok (.istore 6, 2) := by decide +kernel
theorem dX4_isFollowed_189 : decode cX4_isFollowed 189 = .ok (.aload_n 0, 1) := by decide +kernel
theorem dX4_isFollowed_190 : decode cX4_isFollowed 190 = .ok (.invokevirtual 83, 3) := by decide +kernel
theorem dX4_isFollowed_193 : decode cX4_isFollowed 193 = .ok (.iload 5, 2) := by decide +kernel
theorem dX4_isFollowed_195 : decode cX4_isFollowed 195 = .ok (.ireturn, 1) := by decide +kernel
theorem dX4_go_0 : decode cX4_go 0 = .ok (.aload_n 0, 1) := by decide +kernel
theorem dX4_go_1 : decode cX4_go 1 = .ok (.iconst 0, 1) := by decide +kernel
theorem dX4_go_2 : decode cX4_go 2 = .ok (.putfield 140, 3) := by decide +kernel
theorem dX4_go_5 : decode cX4_go 5 = .ok (.aload_n 0, 1) := by decide +kernel
theorem dX4_go_6 : decode cX4_go 6 = .ok (.iconst 0, 1) := by decide +kernel
theorem dX4_go_7 : decode cX4_go 7 = .ok (.putfield 143, 3) := by decide +kernel
theorem dX4_go_10 : decode cX4_go 10 = .ok (.iconst 1, 1) := by decide +kernel
theorem dX4_go_11 : decode cX4_go 11 = .ok (.istore_n 2, 1) := by decide +kernel
theorem dX4_go_12 : decode cX4_go 12 = .ok (.iload_n 2, 1) := by decide +kernel
theorem dX4_go_13 : decode cX4_go 13 = .ok (.ifCond .eq 66, 3) := by decide +kernel
theorem dX4_go_16 : decode cX4_go 16 = .ok (.aload_n 0, 1) := by decide +kernel
theorem dX4_go_17 : decode cX4_go 17 = .ok (.iload_n 1, 1) := by decide +kernel
theorem dX4_go_18 : decode cX4_go 18 = .ok (.invokevirtual 157, 3) := by decide +kernel
theorem dX4_go_21 : decode cX4_go 21 = .ok (.ifCond .ne 5, 3) := by decide +kernel
theorem dX4_go_24 : decode cX4_go 24 = .ok (.iconst 0, 1) := by decide +kernel
theorem dX4_go_25 : decode cX4_go 25 = .ok (.ireturn, 1) := by decide +kernel
theorem dX4_go_26 : decode cX4_go 26 = .ok (.aload_n 0, 1) := by decide +kernel
theorem dX4_go_27 : decode cX4_go 27 = .ok (.getfield 143, 3) := by decide +kernel
theorem dX4_go_30 : decode cX4_go 30 = .ok (.ifCond .ne 18, 3) := by decide +kernel
theorem dX4_go_33 : decode cX4_go 33 = .ok (.aload_n 0, 1) := by decide +kernel
theorem dX4_go_34 : decode cX4_go 34 = .ok (.getfield 140, 3) := by decide +kernel
theorem dX4_go_37 : decode cX4_go 37 = .ok (.aload_n 0, 1) := by decide +kernel
theorem dX4_go_38 : decode cX4_go 38 = .ok (.getfield 137, 3) := by decide +kernel
theorem dX4_go_41 : decode cX4_go 41 = .ok (.if_icmp .ge 7, 3) := by decide +kernel
theorem dX4_go_44 : decode cX4_go 44 = .ok (.iconst 1, 1) := by decide +kernel
theorem dX4_go_45 : decode cX4_go 45 = .ok (.goto 4, 3) := by decide +kernel
theorem dX4_go_48 : decode cX4_go 48 = .ok (.iconst 0, 1) := by decide +kernel
theorem dX4_go_49 : decode cX4_go 49 = .ok (.istore_n 2, 1) := by decide +kernel
theorem dX4_go_50 : decode cX4_go 50 = .ok (.iload_n 2, 1) := by decide +kernel
theorem dX4_go_51 : decode cX4_go 51 = .ok (.ifCond .eq (-39), 3) := by decide +kernel
theorem dX4_go_54 : decode cX4_go 54 = .ok (.aload_n 0, 1) := by decide +kernel
theorem dX4_go_55 : decode cX4_go 55 = .ok (.bipush 59, 2) := by decide +kernel
theorem dX4_go_57 : decode cX4_go 57 = .ok (.bipush 59, 2) := by decide +kernel
theorem dX4_go_59 : decode cX4_go 59 = .ok (.invokevirtual 147, 3) := by decide +kernel
theorem dX4_go_62 : decode cX4_go 62 = .ok (.istore_n 3, 1) := by decide +kernel
theorem dX4_go_63 : decode cX4_go 63 = .ok (.aload_n 0, 1) := by decide +kernel
theorem dX4_go_64 : decode cX4_go 64 = .ok (.getfield 143, 3) := by decide +kernel
theorem dX4_go_67 : decode cX4_go 67 = .ok (.ifCond .ne 7, 3) := by decide +kernel
theorem dX4_go_70 : decode cX4_go 70 = .ok (.iconst 1, 1) := by decide +kernel
theorem dX4_go_71 : decode cX4_go 71 = .ok (.goto 4, 3) := by decide +kernel
theorem dX4_go_74 : decode cX4_go 74 = .ok (.iconst 0, 1) := by decide +kernel
theorem dX4_go_75 : decode cX4_go 75 = .ok (.istore_n 2, 1) := by decide +kernel
theorem dX4_go_76 : decode cX4_go 76 = .ok (.goto (-64), 3) := by decide +kernel
theorem dX4_go_79 : decode cX4_go 79 = .ok (.iconst 1, 1) := by decide +kernel
theorem dX4_go_80 : decode cX4_go 80 = .ok (.ireturn, 1) := by decide +kernel
theorem dX4_firstError_0 : decode cX4_firstError 0 = .ok (.aload_n 0, 1) := by decide +kernel
theorem dX4_firstError_1 : decode cX4_firstError 1 = .ok (.iconst 0, 1) := by decide +kernel
theorem dX4_firstError_2 : decode cX4_firstError 2 = .ok (.putfield 29, 3) := by decide +kernel
theorem dX4_firstError_5 : decode cX4_firstError 5 = .ok (.aload_n 0, 1) := by decide +kernel
theorem dX4_firstError_6 : decode cX4_firstError 6 = .ok (.iconst 0, 1) := by decide +kernel
theorem dX4_firstError_7 : decode cX4_firstError 7 = .ok (.invokevirtual 161, 3) := by decide +kernel
theorem dX4_firstError_10 : decode cX4_firstError 10 = .ok (.istore_n 1, 1) := by decide +kernel
theorem dX4_firstError_11 : decode cX4_firstError 11 = .ok (.aload_n 0, 1) := by decide +kernel
theorem dX4_firstError_12 : decode cX4_firstError 12 = .ok (.getfield 143, 3) := by decide +kernel
theorem dX4_firstError_15 : decode cX4_firstError 15 = .ok (.ifCond .eq 10, 3) := by decide +kernel
theorem dX4_firstError_18 : decode cX4_firstError 18 = .ok (.aload_n 0, 1) := by decide +kernel
theorem dX4_firstError_19 : decode cX4_firstError 19 = .ok (.getfield 140, 3) := by decide +kernel
theorem dX4_firstError_22 : decode cX4_firstError 22 = .ok (.goto 7, 3) := by decide +kernel
theorem dX4_firstError_25 : decode cX4_firstError 25 = .ok (.aload_n 0, 1) := by decide +kernel
theorem dX4_firstError_26 : decode cX4_firstError 26 = .ok (.getfield 137, 3) := by decide +kernel
theorem dX4_firstError_29 : decode cX4_firstError 29 = .ok (.ireturn, 1) := by decide +kernel
theorem dX4_follow_0 : decode cX4_follow 0 = .ok (.aload_n 0, 1) := by decide +kernel
theorem dX4_follow_1 : decode cX4_follow 1 = .ok (.iconst 0, 1) := by decide +kernel
theorem dX4_follow_2 : decode cX4_follow 2 = .ok (.putfield 29, 3) := by decide +kernel
theorem dX4_follow_5 : decode cX4_follow 5 = .ok (.aload_n 0, 1) := by decide +kernel
theorem dX4_follow_6 : decode cX4_follow 6 = .ok (.iconst 0, 1) := by decide +kernel
theorem dX4_follow_7 : decode cX4_follow 7 = .ok (.invokevirtual 161, 3) := by decide +kernel
theorem dX4_follow_10 : decode cX4_follow 10 = .ok (.istore_n 1, 1) := by decide +kernel
theorem dX4_follow_11 : decode cX4_follow 11 = .ok (.aload_n 0, 1) := by decide +kernel
theorem dX4_follow_12 : decode cX4_follow 12 = .ok (.getfield 143, 3) := by decide +kernel
theorem dX4_follow_15 : decode cX4_follow 15 = .ok (.ifCond .eq 9, 3) := by decide +kernel
theorem dX4_follow_18 : decode cX4_follow 18 = .ok (.aload_n 0, 1) := by decide +kernel
theorem dX4_follow_19 : decode cX4_follow 19 = .ok (.iconst 1, 1) := by decide +kernel
theorem dX4_follow_20 : decode cX4_follow 20 = .ok (.invokevirtual 93, 3) := by decide +kernel
theorem dX4_follow_23 : decode cX4_follow 23 = .ok (.ireturn, 1) := by decide +kernel
theorem dX4_follow_24 : decode cX4_follow 24 = .ok (.aload_n 0, 1) := by decide +kernel
theorem dX4_follow_25 : decode cX4_follow 25 = .ok (.invokevirtual 164, 3) := by decide +kernel
theorem dX4_follow_28 : decode cX4_follow 28 = .ok (.aload_n 0, 1) := by decide +kernel
theorem dX4_follow_29 : decode cX4_follow 29 = .ok (.iconst 1, 1) := by decide +kernel
theorem dX4_follow_30 : decode cX4_follow 30 = .ok (.invokevirtual 161, 3) := by decide +kernel
theorem dX4_follow_33 : decode cX4_follow 33 = .ok (.istore_n 1, 1) := by decide +kernel
theorem dX4_follow_34 : decode cX4_follow 34 = .ok (.aload_n 0, 1) := by decide +kernel
theorem dX4_follow_35 : decode cX4_follow 35 = .ok (.invokevirtual 167, 3) := by decide +kernel
theorem dX4_follow_38 : decode cX4_follow 38 = .ok (.iload_n 1, 1) := by decide +kernel
theorem dX4_follow_39 : decode cX4_follow 39 = .ok (.ifCond .ne 9, 3) := by decide +kernel
theorem dX4_follow_42 : decode cX4_follow 42 = .ok (.aload_n 0, 1) := by decide +kernel
theorem dX4_follow_43 : decode cX4_follow 43 = .ok (.iconst 2, 1) := by decide +kernel
theorem dX4_follow_44 : decode cX4_follow 44 = .ok (.invokevirtual 93, 3) := by decide +kernel
theorem dX4_follow_47 : decode cX4_follow 47 = .ok (.ireturn, 1) := by decide +kernel
theorem dX4_follow_48 : decode cX4_follow 48 = .ok (.aload_n 0, 1) := by decide +kernel
theorem dX4_follow_49 : decode cX4_follow 49 = .ok (.invokevirtual 96, 3) := by decide +kernel
theorem dX4_follow_52 : decode cX4_follow 52 = .ok (.aload_n 0, 1) := by decide +kernel
theorem dX4_follow_53 : decode cX4_follow 53 = .ok (.iconst 1, 1) := by decide +kernel
theorem dX4_follow_54 : decode cX4_follow 54 = .ok (.invokevirtual 161, 3) := by decide +kernel
theorem dX4_follow_57 : decode cX4_follow 57 = .ok (.istore_n 1, 1) := by decide +kernel
theorem dX4_follow_58 : decode cX4_follow 58 = .ok (.aload_n 0, 1) := by decide +kernel
theorem dX4_follow_59 : decode cX4_follow 59 = .ok (.iconst 0, 1) := by decide +kernel
theorem dX4_follow_60 : decode cX4_follow 60 = .ok (.putfield 137, 3) := by decide +kernel
theorem dX4_follow_63 : decode cX4_follow 63 = .ok (.aload_n 0, 1) := by decide +kernel
theorem dX4_follow_64 : decode cX4_follow 64 = .ok (.invokevirtual 170, 3) := by decide +kernel
theorem dX4_follow_67 : decode cX4_follow 67 = .ok (.ireturn, 1) := by decide +kernel
theorem dX4_keep_0 : decode cX4_keep 0 = .ok (.aload_n 0, 1) := by decide +kernel
theorem dX4_keep_1 : decode cX4_keep 1 = .ok (.iload_n 1, 1) := by decide +kernel
theorem dX4_keep_2 : decode cX4_keep 2 = .ok (.iconst 0, 1) := by decide +kernel
theorem dX4_keep_3 : decode cX4_keep 3 = .ok (.iconst 1, 1) := by decide +kernel
theorem dX4_keep_4 : decode cX4_keep 4 = .ok (.invokestatic 33, 3) := by decide +kernel
theorem dX4_keep_7 : decode cX4_keep 7 = .ok (.ifCond .eq 7, 3) := by decide +kernel
theorem dX4_keep_10 : decode cX4_keep 10 = .ok (.iconst 0, 1) := by decide +kernel
theorem dX4_keep_11 : decode cX4_keep 11 = .ok (.goto 4, 3) := by decide +kernel
theorem dX4_keep_14 : decode cX4_keep 14 = .ok (.iconst 1, 1) := by decide +kernel
theorem dX4_keep_15 : decode cX4_keep 15 = .ok (.putfield 29, 3) := by decide +kernel
theorem dX4_keep_18 : decode cX4_keep 18 = .ok (.iconst 0, 1) := by decide +kernel
theorem dX4_keep_19 : decode cX4_keep 19 = .ok (.istore_n 2, 1) := by decide +kernel
theorem dX4_keep_20 : decode cX4_keep 20 = .ok (.iload_n 2, 1) := by decide +kernel
theorem dX4_keep_21 : decode cX4_keep 21 = .ok (.bipush 109, 2) := by decide +kernel
theorem dX4_keep_23 : decode cX4_keep 23 = .ok (.if_icmp .ge 33, 3) := by decide +kernel
theorem dX4_keep_26 : decode cX4_keep 26 = .ok (.aload_n 0, 1) := by decide +kernel
theorem dX4_keep_27 : decode cX4_keep 27 = .ok (.getfield 29, 3) := by decide +kernel
theorem dX4_keep_30 : decode cX4_keep 30 = .ok (.ifCond .ne 26, 3) := by decide +kernel
theorem dX4_keep_33 : decode cX4_keep 33 = .ok (.aload_n 0, 1) := by decide +kernel
theorem dX4_keep_34 : decode cX4_keep 34 = .ok (.getfield 16, 3) := by decide +kernel
theorem dX4_keep_37 : decode cX4_keep 37 = .ok (.bipush 109, 2) := by decide +kernel
theorem dX4_keep_39 : decode cX4_keep 39 = .ok (.iload_n 1, 1) := by decide +kernel
theorem dX4_keep_40 : decode cX4_keep 40 = .ok (.imul, 1) := by decide +kernel
theorem dX4_keep_41 : decode cX4_keep 41 = .ok (.iload_n 2, 1) := by decide +kernel
theorem dX4_keep_42 : decode cX4_keep 42 = .ok (.iadd, 1) := by decide +kernel
theorem dX4_keep_43 : decode cX4_keep 43 = .ok (.aload_n 0, 1) := by decide +kernel
theorem dX4_keep_44 : decode cX4_keep 44 = .ok (.getfield 7, 3) := by decide +kernel
theorem dX4_keep_47 : decode cX4_keep 47 = .ok (.iload_n 2, 1) := by decide +kernel
theorem dX4_keep_48 : decode cX4_keep 48 = .ok (.iaload, 1) := by decide +kernel
theorem dX4_keep_49 : decode cX4_keep 49 = .ok (.iastore, 1) := by decide +kernel
theorem dX4_keep_50 : decode cX4_keep 50 = .ok (.iinc 2 1, 3) := by decide +kernel
theorem dX4_keep_53 : decode cX4_keep 53 = .ok (.goto (-33), 3) := by decide +kernel
theorem dX4_keep_56 : decode cX4_keep 56 = .ok (.aload_n 0, 1) := by decide +kernel
theorem dX4_keep_57 : decode cX4_keep 57 = .ok (.getfield 29, 3) := by decide +kernel
theorem dX4_keep_60 : decode cX4_keep 60 = .ok (.ifCond .ne 10, 3) := by decide +kernel
theorem dX4_keep_63 : decode cX4_keep 63 = .ok (.aload_n 0, 1) := by decide +kernel
theorem dX4_keep_64 : decode cX4_keep 64 = .ok (.getfield 19, 3) := by decide +kernel
theorem dX4_keep_67 : decode cX4_keep 67 = .ok (.iload_n 1, 1) := by decide +kernel
theorem dX4_keep_68 : decode cX4_keep 68 = .ok (.iconst 1, 1) := by decide +kernel
theorem dX4_keep_69 : decode cX4_keep 69 = .ok (.bastore, 1) := by decide +kernel
theorem dX4_keep_70 : decode cX4_keep 70 = .ok (.return_, 1) := by decide +kernel
theorem dX4_goBack_0 : decode cX4_goBack 0 = .ok (.aload_n 0, 1) := by decide +kernel
theorem dX4_goBack_1 : decode cX4_goBack 1 = .ok (.iload_n 1, 1) := by decide +kernel
theorem dX4_goBack_2 : decode cX4_goBack 2 = .ok (.iconst 0, 1) := by decide +kernel
theorem dX4_goBack_3 : decode cX4_goBack 3 = .ok (.iconst 1, 1) := by decide +kernel
theorem dX4_goBack_4 : decode cX4_goBack 4 = .ok (.invokestatic 33, 3) := by decide +kernel
theorem dX4_goBack_7 : decode cX4_goBack 7 = .ok (.ifCond .ne 7, 3) := by decide +kernel
theorem dX4_goBack_10 : decode cX4_goBack 10 = .ok (.iconst 1, 1) := by decide +kernel
theorem dX4_goBack_11 : decode cX4_goBack 11 = .ok (.goto 17, 3) := by decide +kernel
theorem dX4_goBack_14 : decode cX4_goBack 14 = .ok (.aload_n 0, 1) := by decide +kernel
theorem dX4_goBack_15 : decode cX4_goBack 15 = .ok (.getfield 19, 3) := by decide +kernel
theorem dX4_goBack_18 : decode cX4_goBack 18 = .ok (.iload_n 1, 1) := by decide +kernel
theorem dX4_goBack_19 : decode cX4_goBack 19 = .ok (.baload, 1) := by decide +kernel
theorem dX4_goBack_20 : decode cX4_goBack 20 = .ok (.ifCond .eq 7, 3) := by decide +kernel
theorem dX4_goBack_23 : decode cX4_goBack 23 = .ok (.iconst 0, 1) := by decide +kernel
theorem dX4_goBack_24 : decode cX4_goBack 24 = .ok (.goto 4, 3) := by decide +kernel
theorem dX4_goBack_27 : decode cX4_goBack 27 = .ok (.iconst 2, 1) := by decide +kernel
theorem dX4_goBack_28 : decode cX4_goBack 28 = .ok (.putfield 29, 3) := by decide +kernel
theorem dX4_goBack_31 : decode cX4_goBack 31 = .ok (.aload_n 0, 1) := by decide +kernel
theorem dX4_goBack_32 : decode cX4_goBack 32 = .ok (.getfield 29, 3) := by decide +kernel
theorem dX4_goBack_35 : decode cX4_goBack 35 = .ok (.ifCond .ne 38, 3) := by decide +kernel
theorem dX4_goBack_38 : decode cX4_goBack 38 = .ok (.aload_n 0, 1) := by decide +kernel
theorem dX4_goBack_39 : decode cX4_goBack 39 = .ok (.invokevirtual 96, 3) := by decide +kernel
theorem dX4_goBack_42 : decode cX4_goBack 42 = .ok (.iconst 0, 1) := by decide +kernel
theorem dX4_goBack_43 : decode cX4_goBack 43 = .ok (.istore_n 2, 1) := by decide +kernel
theorem dX4_goBack_44 : decode cX4_goBack 44 = .ok (.iload_n 2, 1) := by decide +kernel
theorem dX4_goBack_45 : decode cX4_goBack 45 = .ok (.bipush 109, 2) := by decide +kernel
theorem dX4_goBack_47 : decode cX4_goBack 47 = .ok (.if_icmp .ge 26, 3) := by decide +kernel
theorem dX4_goBack_50 : decode cX4_goBack 50 = .ok (.aload_n 0, 1) := by decide +kernel
theorem dX4_goBack_51 : decode cX4_goBack 51 = .ok (.getfield 7, 3) := by decide +kernel
theorem dX4_goBack_54 : decode cX4_goBack 54 = .ok (.iload_n 2, 1) := by decide +kernel
theorem dX4_goBack_55 : decode cX4_goBack 55 = .ok (.aload_n 0, 1) := by decide +kernel
theorem dX4_goBack_56 : decode cX4_goBack 56 = .ok (.getfield 16, 3) := by decide +kernel
theorem dX4_goBack_59 : decode cX4_goBack 59 = .ok (.bipush 109, 2) := by decide +kernel
theorem dX4_goBack_61 : decode cX4_goBack 61 = .ok (.iload_n 1, 1) := by decide +kernel
theorem dX4_goBack_62 : decode cX4_goBack 62 = .ok (.imul, 1) := by decide +kernel
theorem dX4_goBack_63 : decode cX4_goBack 63 = .ok (.iload_n 2, 1) := by decide +kernel
theorem dX4_goBack_64 : decode cX4_goBack 64 = .ok (.iadd, 1) := by decide +kernel
theorem dX4_goBack_65 : decode cX4_goBack 65 = .ok (.iaload, 1) := by decide +kernel
theorem dX4_goBack_66 : decode cX4_goBack 66 = .ok (.iastore, 1) := by decide +kernel
theorem dX4_goBack_67 : decode cX4_goBack 67 = .ok (.iinc 2 1, 3) := by decide +kernel
theorem dX4_goBack_70 : decode cX4_goBack 70 = .ok (.goto (-26), 3) := by decide +kernel
theorem dX4_goBack_73 : decode cX4_goBack 73 = .ok (.return_, 1) := by decide +kernel
theorem dX4_undo_0 : decode cX4_undo 0 = .ok (.aload_n 0, 1) := by decide +kernel
theorem dX4_undo_1 : decode cX4_undo 1 = .ok (.aload_n 0, 1) := by decide +kernel
theorem dX4_undo_2 : decode cX4_undo 2 = .ok (.getfield 37, 3) := by decide +kernel
theorem dX4_undo_5 : decode cX4_undo 5 = .ok (.ifCond .ne 7, 3) := by decide +kernel
theorem dX4_undo_8 : decode cX4_undo 8 = .ok (.iconst 1, 1) := by decide +kernel
theorem dX4_undo_9 : decode cX4_undo 9 = .ok (.goto 4, 3) := by decide +kernel
theorem dX4_undo_12 : decode cX4_undo 12 = .ok (.iconst 0, 1) := by decide +kernel
theorem dX4_undo_13 : decode cX4_undo 13 = .ok (.putfield 29, 3) := by decide +kernel
theorem dX4_undo_16 : decode cX4_undo 16 = .ok (.aload_n 0, 1) := by decide +kernel
theorem dX4_undo_17 : decode cX4_undo 17 = .ok (.getfield 29, 3) := by decide +kernel
theorem dX4_undo_20 : decode cX4_undo 20 = .ok (.ifCond .ne 47, 3) := by decide +kernel
theorem dX4_undo_23 : decode cX4_undo 23 = .ok (.aload_n 0, 1) := by decide +kernel
theorem dX4_undo_24 : decode cX4_undo 24 = .ok (.dup, 1) := by decide +kernel
theorem dX4_undo_25 : decode cX4_undo 25 = .ok (.getfield 37, 3) := by decide +kernel
theorem dX4_undo_28 : decode cX4_undo 28 = .ok (.iconst 1, 1) := by decide +kernel
theorem dX4_undo_29 : decode cX4_undo 29 = .ok (.isub, 1) := by decide +kernel
theorem dX4_undo_30 : decode cX4_undo 30 = .ok (.putfield 37, 3) := by decide +kernel
theorem dX4_undo_33 : decode cX4_undo 33 = .ok (.iconst 0, 1) := by decide +kernel
theorem dX4_undo_34 : decode cX4_undo 34 = .ok (.istore_n 1, 1) := by decide +kernel
theorem dX4_undo_35 : decode cX4_undo 35 = .ok (.iload_n 1, 1) := by decide +kernel
theorem dX4_undo_36 : decode cX4_undo 36 = .ok (.bipush 109, 2) := by decide +kernel
theorem dX4_undo_38 : decode cX4_undo 38 = .ok (.if_icmp .ge 29, 3) := by decide +kernel
theorem dX4_undo_41 : decode cX4_undo 41 = .ok (.aload_n 0, 1) := by decide +kernel
theorem dX4_undo_42 : decode cX4_undo 42 = .ok (.getfield 7, 3) := by decide +kernel
theorem dX4_undo_45 : decode cX4_undo 45 = .ok (.iload_n 1, 1) := by decide +kernel
theorem dX4_undo_46 : decode cX4_undo 46 = .ok (.aload_n 0, 1) := by decide +kernel
theorem dX4_undo_47 : decode cX4_undo 47 = .ok (.getfield 13, 3) := by decide +kernel
theorem dX4_undo_50 : decode cX4_undo 50 = .ok (.bipush 109, 2) := by decide +kernel
theorem dX4_undo_52 : decode cX4_undo 52 = .ok (.aload_n 0, 1) := by decide +kernel
theorem dX4_undo_53 : decode cX4_undo 53 = .ok (.getfield 37, 3) := by decide +kernel
theorem dX4_undo_56 : decode cX4_undo 56 = .ok (.imul, 1) := by decide +kernel
theorem dX4_undo_57 : decode cX4_undo 57 = .ok (.iload_n 1, 1) := by decide +kernel
theorem dX4_undo_58 : decode cX4_undo 58 = .ok (.iadd, 1) := by decide +kernel
theorem dX4_undo_59 : decode cX4_undo 59 = .ok (.iaload, 1) := by decide +kernel
theorem dX4_undo_60 : decode cX4_undo 60 = .ok (.iastore, 1) := by decide +kernel
theorem dX4_undo_61 : decode cX4_undo 61 = .ok (.iinc 1 1, 3) := by decide +kernel
theorem dX4_undo_64 : decode cX4_undo 64 = .ok (.goto (-29), 3) := by decide +kernel
theorem dX4_undo_67 : decode cX4_undo 67 = .ok (.return_, 1) := by decide +kernel
theorem dX4_savedStates_0 : decode cX4_savedStates 0 = .ok (.aload_n 0, 1) := by decide +kernel
theorem dX4_savedStates_1 : decode cX4_savedStates 1 = .ok (.iconst 0, 1) := by decide +kernel
theorem dX4_savedStates_2 : decode cX4_savedStates 2 = .ok (.putfield 29, 3) := by decide +kernel
theorem dX4_savedStates_5 : decode cX4_savedStates 5 = .ok (.aload_n 0, 1) := by decide +kernel
theorem dX4_savedStates_6 : decode cX4_savedStates 6 = .ok (.getfield 37, 3) := by decide +kernel
theorem dX4_savedStates_9 : decode cX4_savedStates 9 = .ok (.ireturn, 1) := by decide +kernel
theorem dX4_told_0 : decode cX4_told 0 = .ok (.aload_n 0, 1) := by decide +kernel
theorem dX4_told_1 : decode cX4_told 1 = .ok (.iconst 0, 1) := by decide +kernel
theorem dX4_told_2 : decode cX4_told 2 = .ok (.putfield 29, 3) := by decide +kernel
theorem dX4_told_5 : decode cX4_told 5 = .ok (.iload_n 1, 1) := by decide +kernel
theorem dX4_told_6 : decode cX4_told 6 = .ok (.invokestatic 99, 3) := by decide +kernel
theorem dX4_told_9 : decode cX4_told 9 = .ok (.ifCond .eq 12, 3) := by decide +kernel
theorem dX4_told_12 : decode cX4_told 12 = .ok (.aload_n 0, 1) := by decide +kernel
theorem dX4_told_13 : decode cX4_told 13 = .ok (.getfield 7, 3) := by decide +kernel
theorem dX4_told_16 : decode cX4_told 16 = .ok (.iload_n 2, 1) := by decide +kernel
theorem dX4_told_17 : decode cX4_told 17 = .ok (.iaload, 1) := by decide +kernel
theorem dX4_told_18 : decode cX4_told 18 = .ok (.goto 8, 3) := by decide +kernel
theorem dX4_told_21 : decode cX4_told 21 = .ok (.aload_n 0, 1) := by decide +kernel
theorem dX4_told_22 : decode cX4_told 22 = .ok (.iconst 1, 1) := by decide +kernel
theorem dX4_told_23 : decode cX4_told 23 = .ok (.invokevirtual 93, 3) := by decide +kernel
theorem dX4_told_26 : decode cX4_told 26 = .ok (.ireturn, 1) := by decide +kernel
theorem dX4_priceOf_0 : decode cX4_priceOf 0 = .ok (.aload_n 0, 1) := by decide +kernel
theorem dX4_priceOf_1 : decode cX4_priceOf 1 = .ok (.iload_n 1, 1) := by decide +kernel
theorem dX4_priceOf_2 : decode cX4_priceOf 2 = .ok (.iload_n 1, 1) := by decide +kernel
theorem dX4_priceOf_3 : decode cX4_priceOf 3 = .ok (.invokestatic 99, 3) := by decide +kernel
theorem dX4_priceOf_6 : decode cX4_priceOf 6 = .ok (.ifCond .eq 7, 3) := by decide +kernel
theorem dX4_priceOf_9 : decode cX4_priceOf 9 = .ok (.iload_n 1, 1) := by decide +kernel
theorem dX4_priceOf_10 : decode cX4_priceOf 10 = .ok (.goto 4, 3) := by decide +kernel
theorem dX4_priceOf_13 : decode cX4_priceOf 13 = .ok (.iconst 0, 1) := by decide +kernel
theorem dX4_priceOf_14 : decode cX4_priceOf 14 = .ok (.invokevirtual 173, 3) := by decide +kernel
theorem dX4_priceOf_17 : decode cX4_priceOf 17 = .ok (.ireturn, 1) := by decide +kernel
theorem dX4_cutOf_0 : decode cX4_cutOf 0 = .ok (.aload_n 0, 1) := by decide +kernel
theorem dX4_cutOf_1 : decode cX4_cutOf 1 = .ok (.iload_n 1, 1) := by decide +kernel
theorem dX4_cutOf_2 : decode cX4_cutOf 2 = .ok (.iload_n 1, 1) := by decide +kernel
theorem dX4_cutOf_3 : decode cX4_cutOf 3 = .ok (.invokestatic 99, 3) := by decide +kernel
theorem dX4_cutOf_6 : decode cX4_cutOf 6 = .ok (.ifCond .eq 10, 3) := by decide +kernel
theorem dX4_cutOf_9 : decode cX4_cutOf 9 = .ok (.bipush 6, 2) := by decide +kernel
theorem dX4_cutOf_11 : decode cX4_cutOf 11 = .ok (.iload_n 1, 1) := by decide +kernel
theorem dX4_cutOf_12 : decode cX4_cutOf 12 = .ok (.iadd, 1) := by decide +kernel
theorem dX4_cutOf_13 : decode cX4_cutOf 13 = .ok (.goto 4, 3) := by decide +kernel
theorem dX4_cutOf_16 : decode cX4_cutOf 16 = .ok (.iconst 0, 1) := by decide +kernel
theorem dX4_cutOf_17 : decode cX4_cutOf 17 = .ok (.invokevirtual 173, 3) := by decide +kernel
theorem dX4_cutOf_20 : decode cX4_cutOf 20 = .ok (.ireturn, 1) := by decide +kernel
theorem dX4_pledged_0 : decode cX4_pledged 0 = .ok (.iconst 0, 1) := by decide +kernel
theorem dX4_pledged_1 : decode cX4_pledged 1 = .ok (.istore_n 2, 1) := by decide +kernel
theorem dX4_pledged_2 : decode cX4_pledged 2 = .ok (.iconst 0, 1) := by decide +kernel
theorem dX4_pledged_3 : decode cX4_pledged 3 = .ok (.istore_n 3, 1) := by decide +kernel
theorem dX4_pledged_4 : decode cX4_pledged 4 = .ok (.iload_n 3, 1) := by decide +kernel
theorem dX4_pledged_5 : decode cX4_pledged 5 = .ok (.bipush 8, 2) := by decide +kernel
theorem dX4_pledged_7 : decode cX4_pledged 7 = .ok (.if_icmp .ge 18, 3) := by decide +kernel
theorem dX4_pledged_10 : decode cX4_pledged 10 = .ok (.iload_n 2, 1) := by decide +kernel
theorem dX4_pledged_11 : decode cX4_pledged 11 = .ok (.aload_n 0, 1) := by decide +kernel
theorem dX4_pledged_12 : decode cX4_pledged 12 = .ok (.iload_n 3, 1) := by decide +kernel
theorem dX4_pledged_13 : decode cX4_pledged 13 = .ok (.iload_n 1, 1) := by decide +kernel
theorem dX4_pledged_14 : decode cX4_pledged 14 = .ok (.invokevirtual 44, 3) := by decide +kernel
theorem dX4_pledged_17 : decode cX4_pledged 17 = .ok (.iadd, 1) := by decide +kernel
theorem dX4_pledged_18 : decode cX4_pledged 18 = .ok (.istore_n 2, 1) := by decide +kernel
theorem dX4_pledged_19 : decode cX4_pledged 19 = .ok (.iinc 3 1, 3) := by decide +kernel
theorem dX4_pledged_22 : decode cX4_pledged 22 = .ok (.goto (-18), 3) := by decide +kernel
theorem dX4_pledged_25 : decode cX4_pledged 25 = .ok (.iload_n 2, 1) := by decide +kernel
theorem dX4_pledged_26 : decode cX4_pledged 26 = .ok (.ireturn, 1) := by decide +kernel
theorem dX4_pledgedOf_0 : decode cX4_pledgedOf 0 = .ok (.aload_n 0, 1) := by decide +kernel
theorem dX4_pledgedOf_1 : decode cX4_pledgedOf 1 = .ok (.iconst 0, 1) := by decide +kernel
theorem dX4_pledgedOf_2 : decode cX4_pledgedOf 2 = .ok (.putfield 29, 3) := by decide +kernel
theorem dX4_pledgedOf_5 : decode cX4_pledgedOf 5 = .ok (.iload_n 1, 1) := by decide +kernel
theorem dX4_pledgedOf_6 : decode cX4_pledgedOf 6 = .ok (.invokestatic 99, 3) := by decide +kernel
theorem dX4_pledgedOf_9 : decode cX4_pledgedOf 9 = .ok (.ifCond .eq 11, 3) := by decide +kernel
theorem dX4_pledgedOf_12 : decode cX4_pledgedOf 12 = .ok (.aload_n 0, 1) := by decide +kernel
theorem dX4_pledgedOf_13 : decode cX4_pledgedOf 13 = .ok (.iload_n 1, 1) := by decide +kernel
theorem dX4_pledgedOf_14 : decode cX4_pledgedOf 14 = .ok (.invokevirtual 176, 3) := by decide +kernel
theorem dX4_pledgedOf_17 : decode cX4_pledgedOf 17 = .ok (.goto 8, 3) := by decide +kernel
theorem dX4_pledgedOf_20 : decode cX4_pledgedOf 20 = .ok (.aload_n 0, 1) := by decide +kernel
theorem dX4_pledgedOf_21 : decode cX4_pledgedOf 21 = .ok (.iconst 1, 1) := by decide +kernel
theorem dX4_pledgedOf_22 : decode cX4_pledgedOf 22 = .ok (.invokevirtual 93, 3) := by decide +kernel
theorem dX4_pledgedOf_25 : decode cX4_pledgedOf 25 = .ok (.ireturn, 1) := by decide +kernel
theorem dX4_soldOf_0 : decode cX4_soldOf 0 = .ok (.aload_n 0, 1) := by decide +kernel
theorem dX4_soldOf_1 : decode cX4_soldOf 1 = .ok (.iload_n 1, 1) := by decide +kernel
theorem dX4_soldOf_2 : decode cX4_soldOf 2 = .ok (.iload_n 1, 1) := by decide +kernel
theorem dX4_soldOf_3 : decode cX4_soldOf 3 = .ok (.invokestatic 99, 3) := by decide +kernel
theorem dX4_soldOf_6 : decode cX4_soldOf 6 = .ok (.ifCond .eq 10, 3) := by decide +kernel
theorem dX4_soldOf_9 : decode cX4_soldOf 9 = .ok (.bipush 12, 2) := by decide +kernel
theorem dX4_soldOf_11 : decode cX4_soldOf 11 = .ok (.iload_n 1, 1) := by decide +kernel
theorem dX4_soldOf_12 : decode cX4_soldOf 12 = .ok (.iadd, 1) := by decide +kernel
theorem dX4_soldOf_13 : decode cX4_soldOf 13 = .ok (.goto 4, 3) := by decide +kernel
theorem dX4_soldOf_16 : decode cX4_soldOf 16 = .ok (.iconst 0, 1) := by decide +kernel
theorem dX4_soldOf_17 : decode cX4_soldOf 17 = .ok (.invokevirtual 173, 3) := by decide +kernel
theorem dX4_soldOf_20 : decode cX4_soldOf 20 = .ok (.ireturn, 1) := by decide +kernel
theorem dX4_piecesOf_0 : decode cX4_piecesOf 0 = .ok (.aload_n 0, 1) := by decide +kernel
theorem dX4_piecesOf_1 : decode cX4_piecesOf 1 = .ok (.iload_n 1, 1) := by decide +kernel
theorem dX4_piecesOf_2 : decode cX4_piecesOf 2 = .ok (.iload_n 2, 1) := by decide +kernel
theorem dX4_piecesOf_3 : decode cX4_piecesOf 3 = .ok (.invokevirtual 109, 3) := by decide +kernel
theorem dX4_piecesOf_6 : decode cX4_piecesOf 6 = .ok (.ifCond .eq 12, 3) := by decide +kernel
theorem dX4_piecesOf_9 : decode cX4_piecesOf 9 = .ok (.aload_n 0, 1) := by decide +kernel
theorem dX4_piecesOf_10 : decode cX4_piecesOf 10 = .ok (.iload_n 1, 1) := by decide +kernel
theorem dX4_piecesOf_11 : decode cX4_piecesOf 11 = .ok (.iload_n 2, 1) := by decide +kernel
theorem dX4_piecesOf_12 : decode cX4_piecesOf 12 = .ok (.invokevirtual 44, 3) := by decide +kernel
theorem dX4_piecesOf_15 : decode cX4_piecesOf 15 = .ok (.goto 4, 3) := by decide +kernel
theorem dX4_piecesOf_18 : decode cX4_piecesOf 18 = .ok (.iconst 0, 1) := by decide +kernel
theorem dX4_piecesOf_19 : decode cX4_piecesOf 19 = .ok (.ireturn, 1) := by decide +kernel
theorem dX4_coinsOf_0 : decode cX4_coinsOf 0 = .ok (.aload_n 0, 1) := by decide +kernel
theorem dX4_coinsOf_1 : decode cX4_coinsOf 1 = .ok (.iload_n 1, 1) := by decide +kernel
theorem dX4_coinsOf_2 : decode cX4_coinsOf 2 = .ok (.invokevirtual 118, 3) := by decide +kernel
theorem dX4_coinsOf_5 : decode cX4_coinsOf 5 = .ok (.ifCond .eq 13, 3) := by decide +kernel
theorem dX4_coinsOf_8 : decode cX4_coinsOf 8 = .ok (.aload_n 0, 1) := by decide +kernel
theorem dX4_coinsOf_9 : decode cX4_coinsOf 9 = .ok (.iload_n 1, 1) := by decide +kernel
theorem dX4_coinsOf_10 : decode cX4_coinsOf 10 = .ok (.bipush 6, 2) := by decide +kernel
theorem dX4_coinsOf_12 : decode cX4_coinsOf 12 = .ok (.invokevirtual 44, 3) := by decide +kernel
theorem dX4_coinsOf_15 : decode cX4_coinsOf 15 = .ok (.goto 4, 3) := by decide +kernel
theorem dX4_coinsOf_18 : decode cX4_coinsOf 18 = .ok (.iconst 0, 1) := by decide +kernel
theorem dX4_coinsOf_19 : decode cX4_coinsOf 19 = .ok (.ireturn, 1) := by decide +kernel
theorem dX4_debtOf_0 : decode cX4_debtOf 0 = .ok (.aload_n 0, 1) := by decide +kernel
theorem dX4_debtOf_1 : decode cX4_debtOf 1 = .ok (.iload_n 1, 1) := by decide +kernel
theorem dX4_debtOf_2 : decode cX4_debtOf 2 = .ok (.invokevirtual 118, 3) := by decide +kernel
theorem dX4_debtOf_5 : decode cX4_debtOf 5 = .ok (.ifCond .eq 13, 3) := by decide +kernel
theorem dX4_debtOf_8 : decode cX4_debtOf 8 = .ok (.aload_n 0, 1) := by decide +kernel
theorem dX4_debtOf_9 : decode cX4_debtOf 9 = .ok (.iload_n 1, 1) := by decide +kernel
theorem dX4_debtOf_10 : decode cX4_debtOf 10 = .ok (.bipush 7, 2) := by decide +kernel
theorem dX4_debtOf_12 : decode cX4_debtOf 12 = .ok (.invokevirtual 44, 3) := by decide +kernel
theorem dX4_debtOf_15 : decode cX4_debtOf 15 = .ok (.goto 4, 3) := by decide +kernel
theorem dX4_debtOf_18 : decode cX4_debtOf 18 = .ok (.iconst 0, 1) := by decide +kernel
theorem dX4_debtOf_19 : decode cX4_debtOf 19 = .ok (.ireturn, 1) := by decide +kernel
theorem dX4_worth_0 : decode cX4_worth 0 = .ok (.aload_n 0, 1) := by decide +kernel
theorem dX4_worth_1 : decode cX4_worth 1 = .ok (.iload_n 1, 1) := by decide +kernel
theorem dX4_worth_2 : decode cX4_worth 2 = .ok (.bipush 6, 2) := by decide +kernel
theorem dX4_worth_4 : decode cX4_worth 4 = .ok (.invokevirtual 44, 3) := by decide +kernel
theorem dX4_worth_7 : decode cX4_worth 7 = .ok (.istore_n 2, 1) := by decide +kernel
theorem dX4_worth_8 : decode cX4_worth 8 = .ok (.iconst 0, 1) := by decide +kernel
theorem dX4_worth_9 : decode cX4_worth 9 = .ok (.istore_n 3, 1) := by decide +kernel
theorem dX4_worth_10 : decode cX4_worth 10 = .ok (.iload_n 3, 1) := by decide +kernel
theorem dX4_worth_11 : decode cX4_worth 11 = .ok (.bipush 6, 2) := by decide +kernel
theorem dX4_worth_13 : decode cX4_worth 13 = .ok (.if_icmp .ge 25, 3) := by decide +kernel
theorem dX4_worth_16 : decode cX4_worth 16 = .ok (.iload_n 2, 1) := by decide +kernel
theorem dX4_worth_17 : decode cX4_worth 17 = .ok (.aload_n 0, 1) := by decide +kernel
theorem dX4_worth_18 : decode cX4_worth 18 = .ok (.iload_n 1, 1) := by decide +kernel
theorem dX4_worth_19 : decode cX4_worth 19 = .ok (.iload_n 3, 1) := by decide +kernel
theorem dX4_worth_20 : decode cX4_worth 20 = .ok (.invokevirtual 44, 3) := by decide +kernel
theorem dX4_worth_23 : decode cX4_worth 23 = .ok (.aload_n 0, 1) := by decide +kernel
theorem dX4_worth_24 : decode cX4_worth 24 = .ok (.getfield 7, 3) := by decide +kernel
theorem dX4_worth_27 : decode cX4_worth 27 = .ok (.iload_n 3, 1) := by decide +kernel
theorem dX4_worth_28 : decode cX4_worth 28 = .ok (.iaload, 1) := by decide +kernel
theorem dX4_worth_29 : decode cX4_worth 29 = .ok (.imul, 1) := by decide +kernel
theorem dX4_worth_30 : decode cX4_worth 30 = .ok (.iadd, 1) := by decide +kernel
theorem dX4_worth_31 : decode cX4_worth 31 = .ok (.istore_n 2, 1) := by decide +kernel
theorem dX4_worth_32 : decode cX4_worth 32 = .ok (.iinc 3 1, 3) := by decide +kernel
theorem dX4_worth_35 : decode cX4_worth 35 = .ok (.goto (-25), 3) := by decide +kernel
theorem dX4_worth_38 : decode cX4_worth 38 = .ok (.iload_n 2, 1) := by decide +kernel
theorem dX4_worth_39 : decode cX4_worth 39 = .ok (.ireturn, 1) := by decide +kernel
theorem dX4_worthOf_0 : decode cX4_worthOf 0 = .ok (.aload_n 0, 1) := by decide +kernel
theorem dX4_worthOf_1 : decode cX4_worthOf 1 = .ok (.iload_n 1, 1) := by decide +kernel
theorem dX4_worthOf_2 : decode cX4_worthOf 2 = .ok (.invokevirtual 118, 3) := by decide +kernel
theorem dX4_worthOf_5 : decode cX4_worthOf 5 = .ok (.ifCond .eq 11, 3) := by decide +kernel
theorem dX4_worthOf_8 : decode cX4_worthOf 8 = .ok (.aload_n 0, 1) := by decide +kernel
theorem dX4_worthOf_9 : decode cX4_worthOf 9 = .ok (.iload_n 1, 1) := by decide +kernel
theorem dX4_worthOf_10 : decode cX4_worthOf 10 = .ok (.invokevirtual 179, 3) := by decide +kernel
theorem dX4_worthOf_13 : decode cX4_worthOf 13 = .ok (.goto 4, 3) := by decide +kernel
theorem dX4_worthOf_16 : decode cX4_worthOf 16 = .ok (.iconst 0, 1) := by decide +kernel
theorem dX4_worthOf_17 : decode cX4_worthOf 17 = .ok (.ireturn, 1) := by decide +kernel
theorem dX4_coverOf_0 : decode cX4_coverOf 0 = .ok (.aload_n 0, 1) := by decide +kernel
theorem dX4_coverOf_1 : decode cX4_coverOf 1 = .ok (.iload_n 1, 1) := by decide +kernel
theorem dX4_coverOf_2 : decode cX4_coverOf 2 = .ok (.invokevirtual 118, 3) := by decide +kernel
theorem dX4_coverOf_5 : decode cX4_coverOf 5 = .ok (.ifCond .eq 11, 3) := by decide +kernel
theorem dX4_coverOf_8 : decode cX4_coverOf 8 = .ok (.aload_n 0, 1) := by decide +kernel
theorem dX4_coverOf_9 : decode cX4_coverOf 9 = .ok (.iload_n 1, 1) := by decide +kernel
theorem dX4_coverOf_10 : decode cX4_coverOf 10 = .ok (.invokevirtual 51, 3) := by decide +kernel
theorem dX4_coverOf_13 : decode cX4_coverOf 13 = .ok (.goto 4, 3) := by decide +kernel
theorem dX4_coverOf_16 : decode cX4_coverOf 16 = .ok (.iconst 0, 1) := by decide +kernel
theorem dX4_coverOf_17 : decode cX4_coverOf 17 = .ok (.ireturn, 1) := by decide +kernel
theorem dX4_room_0 : decode cX4_room 0 = .ok (.aload_n 0, 1) := by decide +kernel
theorem dX4_room_1 : decode cX4_room 1 = .ok (.iload_n 1, 1) := by decide +kernel
theorem dX4_room_2 : decode cX4_room 2 = .ok (.invokevirtual 51, 3) := by decide +kernel
theorem dX4_room_5 : decode cX4_room 5 = .ok (.aload_n 0, 1) := by decide +kernel
theorem dX4_room_6 : decode cX4_room 6 = .ok (.iload_n 1, 1) := by decide +kernel
theorem dX4_room_7 : decode cX4_room 7 = .ok (.bipush 7, 2) := by decide +kernel
theorem dX4_room_9 : decode cX4_room 9 = .ok (.invokevirtual 44, 3) := by decide +kernel
theorem dX4_room_12 : decode cX4_room 12 = .ok (.isub, 1) := by decide +kernel
theorem dX4_room_13 : decode cX4_room 13 = .ok (.istore_n 2, 1) := by decide +kernel
theorem dX4_room_14 : decode cX4_room 14 = .ok (.iload_n 2, 1) := by decide +kernel
theorem dX4_room_15 : decode cX4_room 15 = .ok (.ifCond .lt 14, 3) := by decide +kernel
theorem dX4_room_18 : decode cX4_room 18 = .ok (.aload_n 0, 1) := by decide +kernel
theorem dX4_room_19 : decode cX4_room 19 = .ok (.iload_n 1, 1) := by decide +kernel
theorem dX4_room_20 : decode cX4_room 20 = .ok (.bipush 9, 2) := by decide +kernel
theorem dX4_room_22 : decode cX4_room 22 = .ok (.invokevirtual 44, 3) := by decide +kernel
theorem dX4_room_25 : decode cX4_room 25 = .ok (.iconst 1, 1) := by decide +kernel
theorem dX4_room_26 : decode cX4_room 26 = .ok (.if_icmp .ne 7, 3) := by decide +kernel
theorem dX4_room_29 : decode cX4_room 29 = .ok (.iconst 0, 1) := by decide +kernel
theorem dX4_room_30 : decode cX4_room 30 = .ok (.goto 4, 3) := by decide +kernel
theorem dX4_room_33 : decode cX4_room 33 = .ok (.iload_n 2, 1) := by decide +kernel
theorem dX4_room_34 : decode cX4_room 34 = .ok (.ireturn, 1) := by decide +kernel
theorem dX4_roomOf_0 : decode cX4_roomOf 0 = .ok (.aload_n 0, 1) := by decide +kernel
theorem dX4_roomOf_1 : decode cX4_roomOf 1 = .ok (.iload_n 1, 1) := by decide +kernel
theorem dX4_roomOf_2 : decode cX4_roomOf 2 = .ok (.invokevirtual 118, 3) := by decide +kernel
theorem dX4_roomOf_5 : decode cX4_roomOf 5 = .ok (.ifCond .eq 11, 3) := by decide +kernel
theorem dX4_roomOf_8 : decode cX4_roomOf 8 = .ok (.aload_n 0, 1) := by decide +kernel
theorem dX4_roomOf_9 : decode cX4_roomOf 9 = .ok (.iload_n 1, 1) := by decide +kernel
theorem dX4_roomOf_10 : decode cX4_roomOf 10 = .ok (.invokevirtual 182, 3) := by decide +kernel
theorem dX4_roomOf_13 : decode cX4_roomOf 13 = .ok (.goto 4, 3) := by decide +kernel
theorem dX4_roomOf_16 : decode cX4_roomOf 16 = .ok (.iconst 0, 1) := by decide +kernel
theorem dX4_roomOf_17 : decode cX4_roomOf 17 = .ok (.ireturn, 1) := by decide +kernel
theorem dX4_isCalled_0 : decode cX4_isCalled 0 = .ok (.aload_n 0, 1) := by decide +kernel
theorem dX4_isCalled_1 : decode cX4_isCalled 1 = .ok (.iload_n 1, 1) := by decide +kernel
theorem dX4_isCalled_2 : decode cX4_isCalled 2 = .ok (.invokevirtual 118, 3) := by decide +kernel
theorem dX4_isCalled_5 : decode cX4_isCalled 5 = .ok (.ifCond .eq 15, 3) := by decide +kernel
theorem dX4_isCalled_8 : decode cX4_isCalled 8 = .ok (.aload_n 0, 1) := by decide +kernel
theorem dX4_isCalled_9 : decode cX4_isCalled 9 = .ok (.iload_n 1, 1) := by decide +kernel
theorem dX4_isCalled_10 : decode cX4_isCalled 10 = .ok (.invokevirtual 59, 3) := by decide +kernel
theorem dX4_isCalled_13 : decode cX4_isCalled 13 = .ok (.ifCond .eq 7, 3) := by decide +kernel
theorem dX4_isCalled_16 : decode cX4_isCalled 16 = .ok (.iconst 1, 1) := by decide +kernel
theorem dX4_isCalled_17 : decode cX4_isCalled 17 = .ok (.goto 4, 3) := by decide +kernel
theorem dX4_isCalled_20 : decode cX4_isCalled 20 = .ok (.iconst 0, 1) := by decide +kernel
theorem dX4_isCalled_21 : decode cX4_isCalled 21 = .ok (.ireturn, 1) := by decide +kernel
theorem dX4_hoursLeft_0 : decode cX4_hoursLeft 0 = .ok (.aload_n 0, 1) := by decide +kernel
theorem dX4_hoursLeft_1 : decode cX4_hoursLeft 1 = .ok (.iload_n 1, 1) := by decide +kernel
theorem dX4_hoursLeft_2 : decode cX4_hoursLeft 2 = .ok (.invokevirtual 118, 3) := by decide +kernel
theorem dX4_hoursLeft_5 : decode cX4_hoursLeft 5 = .ok (.ifCond .ne 5, 3) := by decide +kernel
theorem dX4_hoursLeft_8 : decode cX4_hoursLeft 8 = .ok (.iconst 0, 1) := by decide +kernel
theorem dX4_hoursLeft_9 : decode cX4_hoursLeft 9 = .ok (.ireturn, 1) := by decide +kernel
theorem dX4_hoursLeft_10 : decode cX4_hoursLeft 10 = .ok (.aload_n 0, 1) := by decide +kernel
theorem dX4_hoursLeft_11 : decode cX4_hoursLeft 11 = .ok (.iload_n 1, 1) := by decide +kernel
theorem dX4_hoursLeft_12 : decode cX4_hoursLeft 12 = .ok (.invokevirtual 59, 3) := by decide +kernel
theorem dX4_hoursLeft_15 : decode cX4_hoursLeft 15 = .ok (.ifCond .eq 13, 3) := by decide +kernel
theorem dX4_hoursLeft_18 : decode cX4_hoursLeft 18 = .ok (.aload_n 0, 1) := by decide +kernel
theorem dX4_hoursLeft_19 : decode cX4_hoursLeft 19 = .ok (.iload_n 1, 1) := by decide +kernel
theorem dX4_hoursLeft_20 : decode cX4_hoursLeft 20 = .ok (.bipush 8, 2) := by decide +kernel
theorem dX4_hoursLeft_22 : decode cX4_hoursLeft 22 = .ok (.invokevirtual 44, 3) := by decide +kernel
theorem dX4_hoursLeft_25 : decode cX4_hoursLeft 25 = .ok (.goto 8, 3) := by decide +kernel
theorem dX4_hoursLeft_28 : decode cX4_hoursLeft 28 = .ok (.aload_n 0, 1) := by decide +kernel
theorem dX4_hoursLeft_29 : decode cX4_hoursLeft 29 = .ok (.iconst 2, 1) := by decide +kernel
theorem dX4_hoursLeft_30 : decode cX4_hoursLeft 30 = .ok (.invokevirtual 93, 3) := by decide +kernel
theorem dX4_hoursLeft_33 : decode cX4_hoursLeft 33 = .ok (.ireturn, 1) := by decide +kernel
theorem dX4_isBarred_0 : decode cX4_isBarred 0 = .ok (.aload_n 0, 1) := by decide +kernel
theorem dX4_isBarred_1 : decode cX4_isBarred 1 = .ok (.iload_n 1, 1) := by decide +kernel
theorem dX4_isBarred_2 : decode cX4_isBarred 2 = .ok (.invokevirtual 118, 3) := by decide +kernel
theorem dX4_isBarred_5 : decode cX4_isBarred 5 = .ok (.ifCond .eq 18, 3) := by decide +kernel
theorem dX4_isBarred_8 : decode cX4_isBarred 8 = .ok (.aload_n 0, 1) := by decide +kernel
theorem dX4_isBarred_9 : decode cX4_isBarred 9 = .ok (.iload_n 1, 1) := by decide +kernel
theorem dX4_isBarred_10 : decode cX4_isBarred 10 = .ok (.bipush 9, 2) := by decide +kernel
theorem dX4_isBarred_12 : decode cX4_isBarred 12 = .ok (.invokevirtual 44, 3) := by decide +kernel
theorem dX4_isBarred_15 : decode cX4_isBarred 15 = .ok (.iconst 1, 1) := by decide +kernel
theorem dX4_isBarred_16 : decode cX4_isBarred 16 = .ok (.if_icmp .ne 7, 3) := by decide +kernel
theorem dX4_isBarred_19 : decode cX4_isBarred 19 = .ok (.iconst 1, 1) := by decide +kernel
theorem dX4_isBarred_20 : decode cX4_isBarred 20 = .ok (.goto 4, 3) := by decide +kernel
theorem dX4_isBarred_23 : decode cX4_isBarred 23 = .ok (.iconst 0, 1) := by decide +kernel
theorem dX4_isBarred_24 : decode cX4_isBarred 24 = .ok (.ireturn, 1) := by decide +kernel
theorem dX4_isRiskier_0 : decode cX4_isRiskier 0 = .ok (.aload_n 0, 1) := by decide +kernel
theorem dX4_isRiskier_1 : decode cX4_isRiskier 1 = .ok (.iload_n 1, 1) := by decide +kernel
theorem dX4_isRiskier_2 : decode cX4_isRiskier 2 = .ok (.bipush 7, 2) := by decide +kernel
theorem dX4_isRiskier_4 : decode cX4_isRiskier 4 = .ok (.invokevirtual 44, 3) := by decide +kernel
theorem dX4_isRiskier_7 : decode cX4_isRiskier 7 = .ok (.istore_n 3, 1) := by decide +kernel
theorem dX4_isRiskier_8 : decode cX4_isRiskier 8 = .ok (.aload_n 0, 1) := by decide +kernel
theorem dX4_isRiskier_9 : decode cX4_isRiskier 9 = .ok (.iload_n 2, 1) := by decide +kernel
theorem dX4_isRiskier_10 : decode cX4_isRiskier 10 = .ok (.bipush 7, 2) := by decide +kernel
theorem dX4_isRiskier_12 : decode cX4_isRiskier 12 = .ok (.invokevirtual 44, 3) := by decide +kernel
theorem dX4_isRiskier_15 : decode cX4_isRiskier 15 = .ok (.istore 4, 2) := by decide +kernel
theorem dX4_isRiskier_17 : decode cX4_isRiskier 17 = .ok (.iload_n 3, 1) := by decide +kernel
theorem dX4_isRiskier_18 : decode cX4_isRiskier 18 = .ok (.ifCond .eq 8, 3) := by decide +kernel
theorem dX4_isRiskier_21 : decode cX4_isRiskier 21 = .ok (.iload 4, 2) := by decide +kernel
theorem dX4_isRiskier_23 : decode cX4_isRiskier 23 = .ok (.ifCond .ne 23, 3) := by decide +kernel
theorem dX4_isRiskier_26 : decode cX4_isRiskier 26 = .ok (.iload_n 3, 1) := by decide +kernel
theorem dX4_isRiskier_27 : decode cX4_isRiskier 27 = .ok (.ifCond .gt 13, 3) := by decide +kernel
theorem dX4_isRiskier_30 : decode cX4_isRiskier 30 = .ok (.iload 4, 2) := by decide +kernel
theorem dX4_isRiskier_32 : decode cX4_isRiskier 32 = .ok (.ifCond .ne 12, 3) := by decide +kernel
theorem dX4_isRiskier_35 : decode cX4_isRiskier 35 = .ok (.iload_n 1, 1) := by decide +kernel
theorem dX4_isRiskier_36 : decode cX4_isRiskier 36 = .ok (.iload_n 2, 1) := by decide +kernel
theorem dX4_isRiskier_37 : decode cX4_isRiskier 37 = .ok (.if_icmp .ge 7, 3) := by decide +kernel
theorem dX4_isRiskier_40 : decode cX4_isRiskier 40 = .ok (.iconst 1, 1) := by decide +kernel
theorem dX4_isRiskier_41 : decode cX4_isRiskier 41 = .ok (.goto 4, 3) := by decide +kernel
theorem dX4_isRiskier_44 : decode cX4_isRiskier 44 = .ok (.iconst 0, 1) := by decide +kernel
theorem dX4_isRiskier_45 : decode cX4_isRiskier 45 = .ok (.ireturn, 1) := by decide +kernel
theorem dX4_isRiskier_46 : decode cX4_isRiskier 46 = .ok (.aload_n 0, 1) := by decide +kernel
theorem dX4_isRiskier_47 : decode cX4_isRiskier 47 = .ok (.iload_n 1, 1) := by decide +kernel
theorem dX4_isRiskier_48 : decode cX4_isRiskier 48 = .ok (.invokevirtual 51, 3) := by decide +kernel
theorem dX4_isRiskier_51 : decode cX4_isRiskier 51 = .ok (.i2l, 1) := by decide +kernel
theorem dX4_isRiskier_52 : decode cX4_isRiskier 52 = .ok (.iload 4, 2) := by decide +kernel
theorem dX4_isRiskier_54 : decode cX4_isRiskier 54 = .ok (.i2l, 1) := by decide +kernel
theorem dX4_isRiskier_55 : decode cX4_isRiskier 55 = .ok (.lmul, 1) := by decide +kernel
theorem dX4_isRiskier_56 : decode cX4_isRiskier 56 = .ok (.aload_n 0, 1) := by decide +kernel
theorem dX4_isRiskier_57 : decode cX4_isRiskier 57 = .ok (.iload_n 2, 1) := by decide +kernel
theorem dX4_isRiskier_58 : decode cX4_isRiskier 58 = .ok (.invokevirtual 51, 3) := by decide +kernel
theorem dX4_isRiskier_61 : decode cX4_isRiskier 61 = .ok (.i2l, 1) := by decide +kernel
theorem dX4_isRiskier_62 : decode cX4_isRiskier 62 = .ok (.iload_n 3, 1) := by decide +kernel
theorem dX4_isRiskier_63 : decode cX4_isRiskier 63 = .ok (.i2l, 1) := by decide +kernel
theorem dX4_isRiskier_64 : decode cX4_isRiskier 64 = .ok (.lmul, 1) := by decide +kernel
theorem dX4_isRiskier_65 : decode cX4_isRiskier 65 = .ok (.lsub, 1) := by decide +kernel
theorem dX4_isRiskier_66 : decode cX4_isRiskier 66 = .ok (.lstore 5, 2) := by decide +kernel
theorem dX4_isRiskier_68 : decode cX4_isRiskier 68 = .ok (.lload 5, 2) := by decide +kernel
theorem dX4_isRiskier_70 : decode cX4_isRiskier 70 = .ok (.lconst 0, 1) := by decide +kernel
theorem dX4_isRiskier_71 : decode cX4_isRiskier 71 = .ok (.lcmp, 1) := by decide +kernel
theorem dX4_isRiskier_72 : decode cX4_isRiskier 72 = .ok (.ifCond .lt 15, 3) := by decide +kernel
theorem dX4_isRiskier_75 : decode cX4_isRiskier 75 = .ok (.lload 5, 2) := by decide +kernel
theorem dX4_isRiskier_77 : decode cX4_isRiskier 77 = .ok (.lconst 0, 1) := by decide +kernel
theorem dX4_isRiskier_78 : decode cX4_isRiskier 78 = .ok (.lcmp, 1) := by decide +kernel
theorem dX4_isRiskier_79 : decode cX4_isRiskier 79 = .ok (.ifCond .ne 12, 3) := by decide +kernel
theorem dX4_isRiskier_82 : decode cX4_isRiskier 82 = .ok (.iload_n 1, 1) := by decide +kernel
theorem dX4_isRiskier_83 : decode cX4_isRiskier 83 = .ok (.iload_n 2, 1) := by decide +kernel
theorem dX4_isRiskier_84 : decode cX4_isRiskier 84 = .ok (.if_icmp .ge 7, 3) := by decide +kernel
theorem dX4_isRiskier_87 : decode cX4_isRiskier 87 = .ok (.iconst 1, 1) := by decide +kernel
theorem dX4_isRiskier_88 : decode cX4_isRiskier 88 = .ok (.goto 4, 3) := by decide +kernel
theorem dX4_isRiskier_91 : decode cX4_isRiskier 91 = .ok (.iconst 0, 1) := by decide +kernel
theorem dX4_isRiskier_92 : decode cX4_isRiskier 92 = .ok (.ireturn, 1) := by decide +kernel
theorem dX4_rank_0 : decode cX4_rank 0 = .ok (.iconst 0, 1) := by decide +kernel
theorem dX4_rank_1 : decode cX4_rank 1 = .ok (.istore_n 2, 1) := by decide +kernel
theorem dX4_rank_2 : decode cX4_rank 2 = .ok (.iconst 0, 1) := by decide +kernel
theorem dX4_rank_3 : decode cX4_rank 3 = .ok (.istore_n 3, 1) := by decide +kernel
theorem dX4_rank_4 : decode cX4_rank 4 = .ok (.iload_n 3, 1) := by decide +kernel
theorem dX4_rank_5 : decode cX4_rank 5 = .ok (.bipush 8, 2) := by decide +kernel
theorem dX4_rank_7 : decode cX4_rank 7 = .ok (.if_icmp .ge 31, 3) := by decide +kernel
theorem dX4_rank_10 : decode cX4_rank 10 = .ok (.iload_n 2, 1) := by decide +kernel
theorem dX4_rank_11 : decode cX4_rank 11 = .ok (.iload_n 3, 1) := by decide +kernel
theorem dX4_rank_12 : decode cX4_rank 12 = .ok (.iload_n 1, 1) := by decide +kernel
theorem dX4_rank_13 : decode cX4_rank 13 = .ok (.if_icmp .eq 16, 3) := by decide +kernel
theorem dX4_rank_16 : decode cX4_rank 16 = .ok (.aload_n 0, 1) := by decide +kernel
theorem dX4_rank_17 : decode cX4_rank 17 = .ok (.iload_n 3, 1) := by decide +kernel
theorem dX4_rank_18 : decode cX4_rank 18 = .ok (.iload_n 1, 1) := by decide +kernel
theorem dX4_rank_19 : decode cX4_rank 19 = .ok (.invokevirtual 185, 3) := by decide +kernel
theorem dX4_rank_22 : decode cX4_rank 22 = .ok (.ifCond .eq 7, 3) := by decide +kernel
theorem dX4_rank_25 : decode cX4_rank 25 = .ok (.iconst 1, 1) := by decide +kernel
theorem dX4_rank_26 : decode cX4_rank 26 = .ok (.goto 4, 3) := by decide +kernel
theorem dX4_rank_29 : decode cX4_rank 29 = .ok (.iconst 0, 1) := by decide +kernel
theorem dX4_rank_30 : decode cX4_rank 30 = .ok (.iadd, 1) := by decide +kernel
theorem dX4_rank_31 : decode cX4_rank 31 = .ok (.istore_n 2, 1) := by decide +kernel
theorem dX4_rank_32 : decode cX4_rank 32 = .ok (.iinc 3 1, 3) := by decide +kernel
theorem dX4_rank_35 : decode cX4_rank 35 = .ok (.goto (-31), 3) := by decide +kernel
theorem dX4_rank_38 : decode cX4_rank 38 = .ok (.iload_n 2, 1) := by decide +kernel
theorem dX4_rank_39 : decode cX4_rank 39 = .ok (.ireturn, 1) := by decide +kernel
theorem dX4_risky_0 : decode cX4_risky 0 = .ok (.iconst (-1), 1) := by decide +kernel
theorem dX4_risky_1 : decode cX4_risky 1 = .ok (.istore_n 2, 1) := by decide +kernel
theorem dX4_risky_2 : decode cX4_risky 2 = .ok (.iconst 0, 1) := by decide +kernel
theorem dX4_risky_3 : decode cX4_risky 3 = .ok (.istore_n 3, 1) := by decide +kernel
theorem dX4_risky_4 : decode cX4_risky 4 = .ok (.iload_n 3, 1) := by decide +kernel
theorem dX4_risky_5 : decode cX4_risky 5 = .ok (.bipush 8, 2) := by decide +kernel
theorem dX4_risky_7 : decode cX4_risky 7 = .ok (.if_icmp .ge 24, 3) := by decide +kernel
theorem dX4_risky_10 : decode cX4_risky 10 = .ok (.aload_n 0, 1) := by decide +kernel
theorem dX4_risky_11 : decode cX4_risky 11 = .ok (.iload_n 3, 1) := by decide +kernel
theorem dX4_risky_12 : decode cX4_risky 12 = .ok (.invokevirtual 188, 3) := by decide +kernel
theorem dX4_risky_15 : decode cX4_risky 15 = .ok (.iload_n 1, 1) := by decide +kernel
theorem dX4_risky_16 : decode cX4_risky 16 = .ok (.if_icmp .ne 7, 3) := by decide +kernel
theorem dX4_risky_19 : decode cX4_risky 19 = .ok (.iload_n 3, 1) := by decide +kernel
theorem dX4_risky_20 : decode cX4_risky 20 = .ok (.goto 4, 3) := by decide +kernel
theorem dX4_risky_23 : decode cX4_risky 23 = .ok (.iload_n 2, 1) := by decide +kernel
theorem dX4_risky_24 : decode cX4_risky 24 = .ok (.istore_n 2, 1) := by decide +kernel
theorem dX4_risky_25 : decode cX4_risky 25 = .ok (.iinc 3 1, 3) := by decide +kernel
theorem dX4_risky_28 : decode cX4_risky 28 = .ok (.goto (-24), 3) := by decide +kernel
theorem dX4_risky_31 : decode cX4_risky 31 = .ok (.iload_n 2, 1) := by decide +kernel
theorem dX4_risky_32 : decode cX4_risky 32 = .ok (.ireturn, 1) := by decide +kernel
theorem dX4_rankOf_0 : decode cX4_rankOf 0 = .ok (.aload_n 0, 1) := by decide +kernel
theorem dX4_rankOf_1 : decode cX4_rankOf 1 = .ok (.iload_n 1, 1) := by decide +kernel
theorem dX4_rankOf_2 : decode cX4_rankOf 2 = .ok (.invokevirtual 118, 3) := by decide +kernel
theorem dX4_rankOf_5 : decode cX4_rankOf 5 = .ok (.ifCond .eq 11, 3) := by decide +kernel
theorem dX4_rankOf_8 : decode cX4_rankOf 8 = .ok (.aload_n 0, 1) := by decide +kernel
theorem dX4_rankOf_9 : decode cX4_rankOf 9 = .ok (.iload_n 1, 1) := by decide +kernel
theorem dX4_rankOf_10 : decode cX4_rankOf 10 = .ok (.invokevirtual 188, 3) := by decide +kernel
theorem dX4_rankOf_13 : decode cX4_rankOf 13 = .ok (.goto 4, 3) := by decide +kernel
theorem dX4_rankOf_16 : decode cX4_rankOf 16 = .ok (.iconst 0, 1) := by decide +kernel
theorem dX4_rankOf_17 : decode cX4_rankOf 17 = .ok (.ireturn, 1) := by decide +kernel
theorem dX4_riskyBySorting_0 : decode cX4_riskyBySorting 0 = .ok (.aload_n 0, 1) := by decide +kernel
theorem dX4_riskyBySorting_1 : decode cX4_riskyBySorting 1 = .ok (.iload_n 1, 1) := by decide +kernel
theorem dX4_riskyBySorting_2 : decode cX4_riskyBySorting 2 = .ok (.invokevirtual 118, 3) := by decide +kernel
theorem dX4_riskyBySorting_5 : decode cX4_riskyBySorting 5 = .ok (.ifCond .eq 11, 3) := by decide +kernel
theorem dX4_riskyBySorting_8 : decode cX4_riskyBySorting 8 = .ok (.aload_n 0, 1) := by decide +kernel
theorem dX4_riskyBySorting_9 : decode cX4_riskyBySorting 9 = .ok (.iload_n 1, 1) := by decide +kernel
theorem dX4_riskyBySorting_10 : decode cX4_riskyBySorting 10 = .ok (.invokevirtual 191, 3) := by decide +kernel
theorem dX4_riskyBySorting_13 : decode cX4_riskyBySorting 13 = .ok (.goto 4, 3) := by decide +kernel
theorem dX4_riskyBySorting_16 : decode cX4_riskyBySorting 16 = .ok (.iconst 0, 1) := by decide +kernel
theorem dX4_riskyBySorting_17 : decode cX4_riskyBySorting 17 = .ok (.ireturn, 1) := by decide +kernel
theorem dX4_riskyByTaking_0 : decode cX4_riskyByTaking 0 = .ok (.aload_n 0, 1) := by decide +kernel
theorem dX4_riskyByTaking_1 : decode cX4_riskyByTaking 1 = .ok (.iload_n 1, 1) := by decide +kernel
theorem dX4_riskyByTaking_2 : decode cX4_riskyByTaking 2 = .ok (.invokevirtual 118, 3) := by decide +kernel
theorem dX4_riskyByTaking_5 : decode cX4_riskyByTaking 5 = .ok (.ifCond .eq 11, 3) := by decide +kernel
theorem dX4_riskyByTaking_8 : decode cX4_riskyByTaking 8 = .ok (.aload_n 0, 1) := by decide +kernel
theorem dX4_riskyByTaking_9 : decode cX4_riskyByTaking 9 = .ok (.iload_n 1, 1) := by decide +kernel
theorem dX4_riskyByTaking_10 : decode cX4_riskyByTaking 10 = .ok (.invokevirtual 191, 3) := by decide +kernel
theorem dX4_riskyByTaking_13 : decode cX4_riskyByTaking 13 = .ok (.goto 4, 3) := by decide +kernel
theorem dX4_riskyByTaking_16 : decode cX4_riskyByTaking 16 = .ok (.iconst 0, 1) := by decide +kernel
theorem dX4_riskyByTaking_17 : decode cX4_riskyByTaking 17 = .ok (.ireturn, 1) := by decide +kernel
theorem dX4_allCalled_0 : decode cX4_allCalled 0 = .ok (.iconst 0, 1) := by decide +kernel
theorem dX4_allCalled_1 : decode cX4_allCalled 1 = .ok (.istore_n 1, 1) := by decide +kernel
theorem dX4_allCalled_2 : decode cX4_allCalled 2 = .ok (.iconst 0, 1) := by decide +kernel
theorem dX4_allCalled_3 : decode cX4_allCalled 3 = .ok (.istore_n 2, 1) := by decide +kernel
theorem dX4_allCalled_4 : decode cX4_allCalled 4 = .ok (.iload_n 2, 1) := by decide +kernel
theorem dX4_allCalled_5 : decode cX4_allCalled 5 = .ok (.bipush 8, 2) := by decide +kernel
theorem dX4_allCalled_7 : decode cX4_allCalled 7 = .ok (.if_icmp .ge 25, 3) := by decide +kernel
theorem dX4_allCalled_10 : decode cX4_allCalled 10 = .ok (.iload_n 1, 1) := by decide +kernel
theorem dX4_allCalled_11 : decode cX4_allCalled 11 = .ok (.aload_n 0, 1) := by decide +kernel
theorem dX4_allCalled_12 : decode cX4_allCalled 12 = .ok (.iload_n 2, 1) := by decide +kernel
theorem dX4_allCalled_13 : decode cX4_allCalled 13 = .ok (.invokevirtual 59, 3) := by decide +kernel
theorem dX4_allCalled_16 : decode cX4_allCalled 16 = .ok (.ifCond .eq 7, 3) := by decide +kernel
theorem dX4_allCalled_19 : decode cX4_allCalled 19 = .ok (.iconst 1, 1) := by decide +kernel
theorem dX4_allCalled_20 : decode cX4_allCalled 20 = .ok (.goto 4, 3) := by decide +kernel
theorem dX4_allCalled_23 : decode cX4_allCalled 23 = .ok (.iconst 0, 1) := by decide +kernel
theorem dX4_allCalled_24 : decode cX4_allCalled 24 = .ok (.iadd, 1) := by decide +kernel
theorem dX4_allCalled_25 : decode cX4_allCalled 25 = .ok (.istore_n 1, 1) := by decide +kernel
theorem dX4_allCalled_26 : decode cX4_allCalled 26 = .ok (.iinc 2 1, 3) := by decide +kernel
theorem dX4_allCalled_29 : decode cX4_allCalled 29 = .ok (.goto (-25), 3) := by decide +kernel
theorem dX4_allCalled_32 : decode cX4_allCalled 32 = .ok (.iload_n 1, 1) := by decide +kernel
theorem dX4_allCalled_33 : decode cX4_allCalled 33 = .ok (.ireturn, 1) := by decide +kernel
theorem dX4_calledNow_0 : decode cX4_calledNow 0 = .ok (.aload_n 0, 1) := by decide +kernel
theorem dX4_calledNow_1 : decode cX4_calledNow 1 = .ok (.iconst 0, 1) := by decide +kernel
theorem dX4_calledNow_2 : decode cX4_calledNow 2 = .ok (.putfield 29, 3) := by decide +kernel
theorem dX4_calledNow_5 : decode cX4_calledNow 5 = .ok (.aload_n 0, 1) := by decide +kernel
theorem dX4_calledNow_6 : decode cX4_calledNow 6 = .ok (.invokevirtual 170, 3) := by decide +kernel
theorem dX4_calledNow_9 : decode cX4_calledNow 9 = .ok (.ireturn, 1) := by decide +kernel
theorem dX4_rule_0 : decode cX4_rule 0 = .ok (.aload_n 0, 1) := by decide +kernel
theorem dX4_rule_1 : decode cX4_rule 1 = .ok (.iconst 0, 1) := by decide +kernel
theorem dX4_rule_2 : decode cX4_rule 2 = .ok (.putfield 29, 3) := by decide +kernel
theorem dX4_rule_5 : decode cX4_rule 5 = .ok (.aload_n 0, 1) := by decide +kernel
theorem dX4_rule_6 : decode cX4_rule 6 = .ok (.getfield 7, 3) := by decide +kernel
theorem dX4_rule_9 : decode cX4_rule 9 = .ok (.iload_n 1, 1) := by decide +kernel
theorem dX4_rule_10 : decode cX4_rule 10 = .ok (.iaload, 1) := by decide +kernel
theorem dX4_rule_11 : decode cX4_rule 11 = .ok (.ireturn, 1) := by decide +kernel
theorem dX4_rate_0 : decode cX4_rate 0 = .ok (.aload_n 0, 1) := by decide +kernel
theorem dX4_rate_1 : decode cX4_rate 1 = .ok (.bipush 98, 2) := by decide +kernel
theorem dX4_rate_3 : decode cX4_rate 3 = .ok (.invokevirtual 194, 3) := by decide +kernel
theorem dX4_rate_6 : decode cX4_rate 6 = .ok (.ireturn, 1) := by decide +kernel
theorem dX4_grace_0 : decode cX4_grace 0 = .ok (.aload_n 0, 1) := by decide +kernel
theorem dX4_grace_1 : decode cX4_grace 1 = .ok (.bipush 99, 2) := by decide +kernel
theorem dX4_grace_3 : decode cX4_grace 3 = .ok (.invokevirtual 194, 3) := by decide +kernel
theorem dX4_grace_6 : decode cX4_grace 6 = .ok (.ireturn, 1) := by decide +kernel
theorem dX4_slip_0 : decode cX4_slip 0 = .ok (.aload_n 0, 1) := by decide +kernel
theorem dX4_slip_1 : decode cX4_slip 1 = .ok (.bipush 100, 2) := by decide +kernel
theorem dX4_slip_3 : decode cX4_slip 3 = .ok (.invokevirtual 194, 3) := by decide +kernel
theorem dX4_slip_6 : decode cX4_slip 6 = .ok (.ireturn, 1) := by decide +kernel
theorem dX4_order_0 : decode cX4_order 0 = .ok (.aload_n 0, 1) := by decide +kernel
theorem dX4_order_1 : decode cX4_order 1 = .ok (.bipush 101, 2) := by decide +kernel
theorem dX4_order_3 : decode cX4_order 3 = .ok (.invokevirtual 194, 3) := by decide +kernel
theorem dX4_order_6 : decode cX4_order 6 = .ok (.ireturn, 1) := by decide +kernel
theorem dX4_falling_0 : decode cX4_falling 0 = .ok (.aload_n 0, 1) := by decide +kernel
theorem dX4_falling_1 : decode cX4_falling 1 = .ok (.iload_n 1, 1) := by decide +kernel
theorem dX4_falling_2 : decode cX4_falling 2 = .ok (.invokevirtual 59, 3) := by decide +kernel
theorem dX4_falling_5 : decode cX4_falling 5 = .ok (.ifCond .eq 5, 3) := by decide +kernel
theorem dX4_falling_8 : decode cX4_falling 8 = .ok (.iconst 0, 1) := by decide +kernel
theorem dX4_falling_9 : decode cX4_falling 9 = .ok (.ireturn, 1) := by decide +kernel
theorem dX4_falling_10 : decode cX4_falling 10 = .ok (.iconst 1, 1) := by decide +kernel
theorem dX4_falling_11 : decode cX4_falling 11 = .ok (.istore_n 2, 1) := by decide +kernel
theorem dX4_falling_12 : decode cX4_falling 12 = .ok (.iload_n 2, 1) := by decide +kernel
theorem dX4_falling_13 : decode cX4_falling 13 = .ok (.bipush 100, 2) := by decide +kernel
theorem dX4_falling_15 : decode cX4_falling 15 = .ok (.if_icmp .gt 28, 3) := by decide +kernel
theorem dX4_falling_18 : decode cX4_falling 18 = .ok (.aload_n 0, 1) := by decide +kernel
theorem dX4_falling_19 : decode cX4_falling 19 = .ok (.iload_n 1, 1) := by decide +kernel
theorem dX4_falling_20 : decode cX4_falling 20 = .ok (.bipush 7, 2) := by decide +kernel
theorem dX4_falling_22 : decode cX4_falling 22 = .ok (.invokevirtual 44, 3) := by decide +kernel
theorem dX4_falling_25 : decode cX4_falling 25 = .ok (.aload_n 0, 1) := by decide +kernel
theorem dX4_falling_26 : decode cX4_falling 26 = .ok (.iload_n 1, 1) := by decide +kernel
theorem dX4_falling_27 : decode cX4_falling 27 = .ok (.iload_n 2, 1) := by decide +kernel
theorem dX4_falling_28 : decode cX4_falling 28 = .ok (.iconst 0, 1) := by decide +kernel
theorem dX4_falling_29 : decode cX4_falling 29 = .ok (.invokevirtual 47, 3) := by decide +kernel
theorem dX4_falling_32 : decode cX4_falling 32 = .ok (.if_icmp .le 5, 3) := by decide +kernel
theorem dX4_falling_35 : decode cX4_falling 35 = .ok (.iload_n 2, 1) := by decide +kernel
theorem dX4_falling_36 : decode cX4_falling 36 = .ok (.ireturn, 1) := by decide +kernel
theorem dX4_falling_37 : decode cX4_falling 37 = .ok (.iinc 2 1, 3) := by decide +kernel
theorem dX4_falling_40 : decode cX4_falling 40 = .ok (.goto (-28), 3) := by decide +kernel
theorem dX4_falling_43 : decode cX4_falling 43 = .ok (.iconst (-1), 1) := by decide +kernel
theorem dX4_falling_44 : decode cX4_falling 44 = .ok (.ireturn, 1) := by decide +kernel
theorem dX4_toldFall_0 : decode cX4_toldFall 0 = .ok (.aload_n 0, 1) := by decide +kernel
theorem dX4_toldFall_1 : decode cX4_toldFall 1 = .ok (.iload_n 1, 1) := by decide +kernel
theorem dX4_toldFall_2 : decode cX4_toldFall 2 = .ok (.invokevirtual 118, 3) := by decide +kernel
theorem dX4_toldFall_5 : decode cX4_toldFall 5 = .ok (.ifCond .ne 5, 3) := by decide +kernel
theorem dX4_toldFall_8 : decode cX4_toldFall 8 = .ok (.iconst 0, 1) := by decide +kernel
theorem dX4_toldFall_9 : decode cX4_toldFall 9 = .ok (.ireturn, 1) := by decide +kernel
theorem dX4_toldFall_10 : decode cX4_toldFall 10 = .ok (.aload_n 0, 1) := by decide +kernel
theorem dX4_toldFall_11 : decode cX4_toldFall 11 = .ok (.iload_n 1, 1) := by decide +kernel
theorem dX4_toldFall_12 : decode cX4_toldFall 12 = .ok (.invokevirtual 197, 3) := by decide +kernel
theorem dX4_toldFall_15 : decode cX4_toldFall 15 = .ok (.istore_n 2, 1) := by decide +kernel
theorem dX4_toldFall_16 : decode cX4_toldFall 16 = .ok (.iload_n 2, 1) := by decide +kernel
theorem dX4_toldFall_17 : decode cX4_toldFall 17 = .ok (.iconst (-1), 1) := by decide +kernel
theorem dX4_toldFall_18 : decode cX4_toldFall 18 = .ok (.if_icmp .ne 11, 3) := by decide +kernel
theorem dX4_toldFall_21 : decode cX4_toldFall 21 = .ok (.aload_n 0, 1) := by decide +kernel
theorem dX4_toldFall_22 : decode cX4_toldFall 22 = .ok (.iconst 2, 1) := by decide +kernel
theorem dX4_toldFall_23 : decode cX4_toldFall 23 = .ok (.invokevirtual 93, 3) := by decide +kernel
theorem dX4_toldFall_26 : decode cX4_toldFall 26 = .ok (.goto 4, 3) := by decide +kernel
theorem dX4_toldFall_29 : decode cX4_toldFall 29 = .ok (.iload_n 2, 1) := by decide +kernel
theorem dX4_toldFall_30 : decode cX4_toldFall 30 = .ok (.ireturn, 1) := by decide +kernel
theorem dX4_fallToCallByTrying_0 : decode cX4_fallToCallByTrying 0 = .ok (.aload_n 0, 1) := by decide +kernel
theorem dX4_fallToCallByTrying_1 : decode cX4_fallToCallByTrying 1 = .ok (.iload_n 1, 1) := by decide +kernel
theorem dX4_fallToCallByTrying_2 : decode cX4_fallToCallByTrying 2 = .ok (.invokevirtual 200, 3) := by decide +kernel
theorem dX4_fallToCallByTrying_5 : decode cX4_fallToCallByTrying 5 = .ok (.ireturn, 1) := by decide +kernel
theorem dX4_fallToCallByHalving_0 : decode cX4_fallToCallByHalving 0 = .ok (.aload_n 0, 1) := by decide +kernel
theorem dX4_fallToCallByHalving_1 : decode cX4_fallToCallByHalving 1 = .ok (.iload_n 1, 1) := by decide +kernel
theorem dX4_fallToCallByHalving_2 : decode cX4_fallToCallByHalving 2 = .ok (.invokevirtual 200, 3) := by decide +kernel
theorem dX4_fallToCallByHalving_5 : decode cX4_fallToCallByHalving 5 = .ok (.ireturn, 1) := by decide +kernel
theorem dX4_hoursToCall_0 : decode cX4_hoursToCall 0 = .ok (.aload_n 0, 1) := by decide +kernel
theorem dX4_hoursToCall_1 : decode cX4_hoursToCall 1 = .ok (.iload_n 1, 1) := by decide +kernel
theorem dX4_hoursToCall_2 : decode cX4_hoursToCall 2 = .ok (.invokevirtual 118, 3) := by decide +kernel
theorem dX4_hoursToCall_5 : decode cX4_hoursToCall 5 = .ok (.ifCond .eq 11, 3) := by decide +kernel
theorem dX4_hoursToCall_8 : decode cX4_hoursToCall 8 = .ok (.aload_n 0, 1) := by decide +kernel
theorem dX4_hoursToCall_9 : decode cX4_hoursToCall 9 = .ok (.iload_n 1, 1) := by decide +kernel
theorem dX4_hoursToCall_10 : decode cX4_hoursToCall 10 = .ok (.invokevirtual 59, 3) := by decide +kernel
theorem dX4_hoursToCall_13 : decode cX4_hoursToCall 13 = .ok (.ifCond .eq 5, 3) := by decide +kernel
theorem dX4_hoursToCall_16 : decode cX4_hoursToCall 16 = .ok (.iconst 0, 1) := by decide +kernel
theorem dX4_hoursToCall_17 : decode cX4_hoursToCall 17 = .ok (.ireturn, 1) := by decide +kernel
theorem dX4_hoursToCall_18 : decode cX4_hoursToCall 18 = .ok (.aload_n 0, 1) := by decide +kernel
theorem dX4_hoursToCall_19 : decode cX4_hoursToCall 19 = .ok (.iload_n 1, 1) := by decide +kernel
theorem dX4_hoursToCall_20 : decode cX4_hoursToCall 20 = .ok (.bipush 7, 2) := by decide +kernel
theorem dX4_hoursToCall_22 : decode cX4_hoursToCall 22 = .ok (.invokevirtual 44, 3) := by decide +kernel
theorem dX4_hoursToCall_25 : decode cX4_hoursToCall 25 = .ok (.istore_n 2, 1) := by decide +kernel
theorem dX4_hoursToCall_26 : decode cX4_hoursToCall 26 = .ok (.aload_n 0, 1) := by decide +kernel
theorem dX4_hoursToCall_27 : decode cX4_hoursToCall 27 = .ok (.iload_n 1, 1) := by decide +kernel
theorem dX4_hoursToCall_28 : decode cX4_hoursToCall 28 = .ok (.invokevirtual 51, 3) := by decide +kernel
theorem dX4_hoursToCall_31 : decode cX4_hoursToCall 31 = .ok (.istore_n 3, 1) := by decide +kernel
theorem dX4_hoursToCall_32 : decode cX4_hoursToCall 32 = .ok (.iconst 0, 1) := by decide +kernel
theorem dX4_hoursToCall_33 : decode cX4_hoursToCall 33 = .ok (.istore 4, 2) := by decide +kernel
theorem dX4_hoursToCall_35 : decode cX4_hoursToCall 35 = .ok (.iload 4, 2) := by decide +kernel
theorem dX4_hoursToCall_37 : decode cX4_hoursToCall 37 = .ok (.sipush 1000, 3) := by decide +kernel
theorem dX4_hoursToCall_40 : decode cX4_hoursToCall 40 = .ok (.if_icmp .ge 28, 3) := by decide +kernel
theorem dX4_hoursToCall_43 : decode cX4_hoursToCall 43 = .ok (.iload_n 2, 1) := by decide +kernel
theorem dX4_hoursToCall_44 : decode cX4_hoursToCall 44 = .ok (.iload_n 3, 1) := by decide +kernel
theorem dX4_hoursToCall_45 : decode cX4_hoursToCall 45 = .ok (.if_icmp .gt 23, 3) := by decide +kernel
theorem dX4_hoursToCall_48 : decode cX4_hoursToCall 48 = .ok (.iload_n 2, 1) := by decide +kernel
theorem dX4_hoursToCall_49 : decode cX4_hoursToCall 49 = .ok (.iload_n 2, 1) := by decide +kernel
theorem dX4_hoursToCall_50 : decode cX4_hoursToCall 50 = .ok (.aload_n 0, 1) := by decide +kernel
theorem dX4_hoursToCall_51 : decode cX4_hoursToCall 51 = .ok (.getfield 7, 3) := by decide +kernel
theorem dX4_hoursToCall_54 : decode cX4_hoursToCall 54 = .ok (.bipush 98, 2) := by decide +kernel
theorem dX4_hoursToCall_56 : decode cX4_hoursToCall 56 = .ok (.iaload, 1) := by decide +kernel
theorem dX4_hoursToCall_57 : decode cX4_hoursToCall 57 = .ok (.invokestatic 80, 3) := by decide +kernel
theorem dX4_hoursToCall_60 : decode cX4_hoursToCall 60 = .ok (.iadd, 1) := by decide +kernel
theorem dX4_hoursToCall_61 : decode cX4_hoursToCall 61 = .ok (.istore_n 2, 1) := by decide +kernel
theorem dX4_hoursToCall_62 : decode cX4_hoursToCall 62 = .ok (.iinc 4 1, 3) := by decide +kernel
theorem dX4_hoursToCall_65 : decode cX4_hoursToCall 65 = .ok (.goto (-30), 3) := by decide +kernel
theorem dX4_hoursToCall_68 : decode cX4_hoursToCall 68 = .ok (.iload 4, 2) := by decide +kernel
theorem dX4_hoursToCall_70 : decode cX4_hoursToCall 70 = .ok (.sipush 1000, 3) := by decide +kernel
theorem dX4_hoursToCall_73 : decode cX4_hoursToCall 73 = .ok (.if_icmp .ge 8, 3) := by decide +kernel
theorem dX4_hoursToCall_76 : decode cX4_hoursToCall 76 = .ok (.iload 4, 2) := by decide +kernel
theorem dX4_hoursToCall_78 : decode cX4_hoursToCall 78 = .ok (.goto 8, 3) := by decide +kernel
theorem dX4_hoursToCall_81 : decode cX4_hoursToCall 81 = .ok (.aload_n 0, 1) := by decide +kernel
theorem dX4_hoursToCall_82 : decode cX4_hoursToCall 82 = .ok (.iconst 2, 1) := by decide +kernel
theorem dX4_hoursToCall_83 : decode cX4_hoursToCall 83 = .ok (.invokevirtual 93, 3) := by decide +kernel
theorem dX4_hoursToCall_86 : decode cX4_hoursToCall 86 = .ok (.ireturn, 1) := by decide +kernel
theorem dX4_would_0 : decode cX4_would 0 = .ok (.aload_n 0, 1) := by decide +kernel
theorem dX4_would_1 : decode cX4_would 1 = .ok (.invokevirtual 164, 3) := by decide +kernel
theorem dX4_would_4 : decode cX4_would 4 = .ok (.aload_n 0, 1) := by decide +kernel
theorem dX4_would_5 : decode cX4_would 5 = .ok (.getfield 7, 3) := by decide +kernel
theorem dX4_would_8 : decode cX4_would 8 = .ok (.bipush 106, 2) := by decide +kernel
theorem dX4_would_10 : decode cX4_would 10 = .ok (.iaload, 1) := by decide +kernel
theorem dX4_would_11 : decode cX4_would 11 = .ok (.istore_n 3, 1) := by decide +kernel
theorem dX4_would_12 : decode cX4_would 12 = .ok (.aload_n 0, 1) := by decide +kernel
theorem dX4_would_13 : decode cX4_would 13 = .ok (.iload_n 1, 1) := by decide +kernel
theorem dX4_would_14 : decode cX4_would 14 = .ok (.invokevirtual 86, 3) := by decide +kernel
theorem dX4_would_17 : decode cX4_would 17 = .ok (.istore 4, 2) := by decide +kernel
theorem dX4_would_19 : decode cX4_would 19 = .ok (.aload_n 0, 1) := by decide +kernel
theorem dX4_would_20 : decode cX4_would 20 = .ok (.getfield 7, 3) := by decide +kernel
theorem dX4_would_23 : decode cX4_would 23 = .ok (.bipush 106, 2) := by decide +kernel
theorem dX4_would_25 : decode cX4_would 25 = .ok (.iaload, 1) := by decide +kernel
theorem dX4_would_26 : decode cX4_would 26 = .ok (.iload_n 3, 1) := by decide +kernel
theorem dX4_would_27 : decode cX4_would 27 = .ok (.isub, 1) := by decide +kernel
theorem dX4_would_28 : decode cX4_would 28 = .ok (.istore 5, 2) := by decide +kernel
theorem dX4_would_30 : decode cX4_would 30 = .ok (.aload_n 0, 1) := by decide +kernel
theorem dX4_would_31 : decode cX4_would 31 = .ok (.invokevirtual 167, 3) := by decide +kernel
theorem dX4_would_34 : decode cX4_would 34 = .ok (.iload_n 2, 1) := by decide +kernel
theorem dX4_would_35 : decode cX4_would 35 = .ok (.ifCond .eq 8, 3) := by decide +kernel
theorem dX4_would_38 : decode cX4_would 38 = .ok (.iload 5, 2) := by decide +kernel
theorem dX4_would_40 : decode cX4_would 40 = .ok (.goto 5, 3) := by decide +kernel
theorem dX4_would_43 : decode cX4_would 43 = .ok (.iload 4, 2) := by decide +kernel
theorem dX4_would_45 : decode cX4_would 45 = .ok (.ireturn, 1) := by decide +kernel
theorem dX4_wouldSell_0 : decode cX4_wouldSell 0 = .ok (.aload_n 0, 1) := by decide +kernel
theorem dX4_wouldSell_1 : decode cX4_wouldSell 1 = .ok (.iload_n 1, 1) := by decide +kernel
theorem dX4_wouldSell_2 : decode cX4_wouldSell 2 = .ok (.invokevirtual 118, 3) := by decide +kernel
theorem dX4_wouldSell_5 : decode cX4_wouldSell 5 = .ok (.ifCond .eq 12, 3) := by decide +kernel
theorem dX4_wouldSell_8 : decode cX4_wouldSell 8 = .ok (.aload_n 0, 1) := by decide +kernel
theorem dX4_wouldSell_9 : decode cX4_wouldSell 9 = .ok (.iload_n 1, 1) := by decide +kernel
theorem dX4_wouldSell_10 : decode cX4_wouldSell 10 = .ok (.iconst 0, 1) := by decide +kernel
theorem dX4_wouldSell_11 : decode cX4_wouldSell 11 = .ok (.invokevirtual 203, 3) := by decide +kernel
theorem dX4_wouldSell_14 : decode cX4_wouldSell 14 = .ok (.goto 4, 3) := by decide +kernel
theorem dX4_wouldSell_17 : decode cX4_wouldSell 17 = .ok (.iconst 0, 1) := by decide +kernel
theorem dX4_wouldSell_18 : decode cX4_wouldSell 18 = .ok (.ireturn, 1) := by decide +kernel
theorem dX4_wouldLose_0 : decode cX4_wouldLose 0 = .ok (.aload_n 0, 1) := by decide +kernel
theorem dX4_wouldLose_1 : decode cX4_wouldLose 1 = .ok (.iload_n 1, 1) := by decide +kernel
theorem dX4_wouldLose_2 : decode cX4_wouldLose 2 = .ok (.invokevirtual 118, 3) := by decide +kernel
theorem dX4_wouldLose_5 : decode cX4_wouldLose 5 = .ok (.ifCond .eq 12, 3) := by decide +kernel
theorem dX4_wouldLose_8 : decode cX4_wouldLose 8 = .ok (.aload_n 0, 1) := by decide +kernel
theorem dX4_wouldLose_9 : decode cX4_wouldLose 9 = .ok (.iload_n 1, 1) := by decide +kernel
theorem dX4_wouldLose_10 : decode cX4_wouldLose 10 = .ok (.iconst 1, 1) := by decide +kernel
theorem dX4_wouldLose_11 : decode cX4_wouldLose 11 = .ok (.invokevirtual 203, 3) := by decide +kernel
theorem dX4_wouldLose_14 : decode cX4_wouldLose 14 = .ok (.goto 4, 3) := by decide +kernel
theorem dX4_wouldLose_17 : decode cX4_wouldLose 17 = .ok (.iconst 0, 1) := by decide +kernel
theorem dX4_wouldLose_18 : decode cX4_wouldLose 18 = .ok (.ireturn, 1) := by decide +kernel
theorem dX4_ifFallen_0 : decode cX4_ifFallen 0 = .ok (.iconst 0, 1) := by decide +kernel
theorem dX4_ifFallen_1 : decode cX4_ifFallen 1 = .ok (.istore_n 2, 1) := by decide +kernel
theorem dX4_ifFallen_2 : decode cX4_ifFallen 2 = .ok (.iconst 0, 1) := by decide +kernel
theorem dX4_ifFallen_3 : decode cX4_ifFallen 3 = .ok (.istore_n 3, 1) := by decide +kernel
theorem dX4_ifFallen_4 : decode cX4_ifFallen 4 = .ok (.iload_n 3, 1) := by decide +kernel
theorem dX4_ifFallen_5 : decode cX4_ifFallen 5 = .ok (.bipush 8, 2) := by decide +kernel
theorem dX4_ifFallen_7 : decode cX4_ifFallen 7 = .ok (.if_icmp .ge 34, 3) := by decide +kernel
theorem dX4_ifFallen_10 : decode cX4_ifFallen 10 = .ok (.iload_n 2, 1) := by decide +kernel
theorem dX4_ifFallen_11 : decode cX4_ifFallen 11 = .ok (.aload_n 0, 1) := by decide +kernel
theorem dX4_ifFallen_12 : decode cX4_ifFallen 12 = .ok (.iload_n 3, 1) := by decide +kernel
theorem dX4_ifFallen_13 : decode cX4_ifFallen 13 = .ok (.bipush 7, 2) := by decide +kernel
theorem dX4_ifFallen_15 : decode cX4_ifFallen 15 = .ok (.invokevirtual 44, 3) := by decide +kernel
theorem dX4_ifFallen_18 : decode cX4_ifFallen 18 = .ok (.aload_n 0, 1) := by decide +kernel
theorem dX4_ifFallen_19 : decode cX4_ifFallen 19 = .ok (.iload_n 3, 1) := by decide +kernel
theorem dX4_ifFallen_20 : decode cX4_ifFallen 20 = .ok (.iload_n 1, 1) := by decide +kernel
theorem dX4_ifFallen_21 : decode cX4_ifFallen 21 = .ok (.iconst 1, 1) := by decide +kernel
theorem dX4_ifFallen_22 : decode cX4_ifFallen 22 = .ok (.invokevirtual 47, 3) := by decide +kernel
theorem dX4_ifFallen_25 : decode cX4_ifFallen 25 = .ok (.if_icmp .le 7, 3) := by decide +kernel
theorem dX4_ifFallen_28 : decode cX4_ifFallen 28 = .ok (.iconst 1, 1) := by decide +kernel
theorem dX4_ifFallen_29 : decode cX4_ifFallen 29 = .ok (.goto 4, 3) := by decide +kernel
theorem dX4_ifFallen_32 : decode cX4_ifFallen 32 = .ok (.iconst 0, 1) := by decide +kernel
theorem dX4_ifFallen_33 : decode cX4_ifFallen 33 = .ok (.iadd, 1) := by decide +kernel
theorem dX4_ifFallen_34 : decode cX4_ifFallen 34 = .ok (.istore_n 2, 1) := by decide +kernel
theorem dX4_ifFallen_35 : decode cX4_ifFallen 35 = .ok (.iinc 3 1, 3) := by decide +kernel
theorem dX4_ifFallen_38 : decode cX4_ifFallen 38 = .ok (.goto (-34), 3) := by decide +kernel
theorem dX4_ifFallen_41 : decode cX4_ifFallen 41 = .ok (.iload_n 2, 1) := by decide +kernel
theorem dX4_ifFallen_42 : decode cX4_ifFallen 42 = .ok (.ireturn, 1) := by decide +kernel
theorem dX4_calledIfFallen_0 : decode cX4_calledIfFallen 0 = .ok (.aload_n 0, 1) := by decide +kernel
theorem dX4_calledIfFallen_1 : decode cX4_calledIfFallen 1 = .ok (.iconst 0, 1) := by decide +kernel
theorem dX4_calledIfFallen_2 : decode cX4_calledIfFallen 2 = .ok (.putfield 29, 3) := by decide +kernel
theorem dX4_calledIfFallen_5 : decode cX4_calledIfFallen 5 = .ok (.iload_n 1, 1) := by decide +kernel
theorem dX4_calledIfFallen_6 : decode cX4_calledIfFallen 6 = .ok (.iconst 1, 1) := by decide +kernel
theorem dX4_calledIfFallen_7 : decode cX4_calledIfFallen 7 = .ok (.bipush 90, 2) := by decide +kernel
theorem dX4_calledIfFallen_9 : decode cX4_calledIfFallen 9 = .ok (.invokestatic 33, 3) := by decide +kernel
theorem dX4_calledIfFallen_12 : decode cX4_calledIfFallen 12 = .ok (.ifCond .eq 11, 3) := by decide +kernel
theorem dX4_calledIfFallen_15 : decode cX4_calledIfFallen 15 = .ok (.aload_n 0, 1) := by decide +kernel
theorem dX4_calledIfFallen_16 : decode cX4_calledIfFallen 16 = .ok (.iload_n 1, 1) := by decide +kernel
theorem dX4_calledIfFallen_17 : decode cX4_calledIfFallen 17 = .ok (.invokevirtual 207, 3) := by decide +kernel
theorem dX4_calledIfFallen_20 : decode cX4_calledIfFallen 20 = .ok (.goto 8, 3) := by decide +kernel
theorem dX4_calledIfFallen_23 : decode cX4_calledIfFallen 23 = .ok (.aload_n 0, 1) := by decide +kernel
theorem dX4_calledIfFallen_24 : decode cX4_calledIfFallen 24 = .ok (.iconst 1, 1) := by decide +kernel
theorem dX4_calledIfFallen_25 : decode cX4_calledIfFallen 25 = .ok (.invokevirtual 93, 3) := by decide +kernel
theorem dX4_calledIfFallen_28 : decode cX4_calledIfFallen 28 = .ok (.ireturn, 1) := by decide +kernel
theorem dX4_hours_0 : decode cX4_hours 0 = .ok (.aload_n 0, 1) := by decide +kernel
theorem dX4_hours_1 : decode cX4_hours 1 = .ok (.bipush 102, 2) := by decide +kernel
theorem dX4_hours_3 : decode cX4_hours 3 = .ok (.invokevirtual 194, 3) := by decide +kernel
theorem dX4_hours_6 : decode cX4_hours 6 = .ok (.ireturn, 1) := by decide +kernel
theorem dX4_debts_0 : decode cX4_debts 0 = .ok (.iconst 0, 1) := by decide +kernel
theorem dX4_debts_1 : decode cX4_debts 1 = .ok (.istore_n 1, 1) := by decide +kernel
theorem dX4_debts_2 : decode cX4_debts 2 = .ok (.iconst 0, 1) := by decide +kernel
theorem dX4_debts_3 : decode cX4_debts 3 = .ok (.istore_n 2, 1) := by decide +kernel
theorem dX4_debts_4 : decode cX4_debts 4 = .ok (.iload_n 2, 1) := by decide +kernel
theorem dX4_debts_5 : decode cX4_debts 5 = .ok (.bipush 8, 2) := by decide +kernel
theorem dX4_debts_7 : decode cX4_debts 7 = .ok (.if_icmp .ge 19, 3) := by decide +kernel
theorem dX4_debts_10 : decode cX4_debts 10 = .ok (.iload_n 1, 1) := by decide +kernel
theorem dX4_debts_11 : decode cX4_debts 11 = .ok (.aload_n 0, 1) := by decide +kernel
theorem dX4_debts_12 : decode cX4_debts 12 = .ok (.iload_n 2, 1) := by decide +kernel
theorem dX4_debts_13 : decode cX4_debts 13 = .ok (.bipush 7, 2) := by decide +kernel
theorem dX4_debts_15 : decode cX4_debts 15 = .ok (.invokevirtual 44, 3) := by decide +kernel
theorem dX4_debts_18 : decode cX4_debts 18 = .ok (.iadd, 1) := by decide +kernel
theorem dX4_debts_19 : decode cX4_debts 19 = .ok (.istore_n 1, 1) := by decide +kernel
theorem dX4_debts_20 : decode cX4_debts 20 = .ok (.iinc 2 1, 3) := by decide +kernel
theorem dX4_debts_23 : decode cX4_debts 23 = .ok (.goto (-19), 3) := by decide +kernel
theorem dX4_debts_26 : decode cX4_debts 26 = .ok (.iload_n 1, 1) := by decide +kernel
theorem dX4_debts_27 : decode cX4_debts 27 = .ok (.ireturn, 1) := by decide +kernel
theorem dX4_debtsByClients_0 : decode cX4_debtsByClients 0 = .ok (.aload_n 0, 1) := by decide +kernel
theorem dX4_debtsByClients_1 : decode cX4_debtsByClients 1 = .ok (.iconst 0, 1) := by decide +kernel
theorem dX4_debtsByClients_2 : decode cX4_debtsByClients 2 = .ok (.putfield 29, 3) := by decide +kernel
theorem dX4_debtsByClients_5 : decode cX4_debtsByClients 5 = .ok (.aload_n 0, 1) := by decide +kernel
theorem dX4_debtsByClients_6 : decode cX4_debtsByClients 6 = .ok (.invokevirtual 210, 3) := by decide +kernel
theorem dX4_debtsByClients_9 : decode cX4_debtsByClients 9 = .ok (.ireturn, 1) := by decide +kernel
theorem dX4_debtsByAccount_0 : decode cX4_debtsByAccount 0 = .ok (.aload_n 0, 1) := by decide +kernel
theorem dX4_debtsByAccount_1 : decode cX4_debtsByAccount 1 = .ok (.iconst 0, 1) := by decide +kernel
theorem dX4_debtsByAccount_2 : decode cX4_debtsByAccount 2 = .ok (.putfield 29, 3) := by decide +kernel
theorem dX4_debtsByAccount_5 : decode cX4_debtsByAccount 5 = .ok (.aload_n 0, 1) := by decide +kernel
theorem dX4_debtsByAccount_6 : decode cX4_debtsByAccount 6 = .ok (.getfield 7, 3) := by decide +kernel
theorem dX4_debtsByAccount_9 : decode cX4_debtsByAccount 9 = .ok (.bipush 103, 2) := by decide +kernel
theorem dX4_debtsByAccount_11 : decode cX4_debtsByAccount 11 = .ok (.iaload, 1) := by decide +kernel
theorem dX4_debtsByAccount_12 : decode cX4_debtsByAccount 12 = .ok (.aload_n 0, 1) := by decide +kernel
theorem dX4_debtsByAccount_13 : decode cX4_debtsByAccount 13 = .ok (.getfield 7, 3) := by decide +kernel
theorem dX4_debtsByAccount_16 : decode cX4_debtsByAccount 16 = .ok (.bipush 104, 2) := by decide +kernel
theorem dX4_debtsByAccount_18 : decode cX4_debtsByAccount 18 = .ok (.iaload, 1) := by decide +kernel
theorem dX4_debtsByAccount_19 : decode cX4_debtsByAccount 19 = .ok (.iadd, 1) := by decide +kernel
theorem dX4_debtsByAccount_20 : decode cX4_debtsByAccount 20 = .ok (.aload_n 0, 1) := by decide +kernel
theorem dX4_debtsByAccount_21 : decode cX4_debtsByAccount 21 = .ok (.getfield 7, 3) := by decide +kernel
theorem dX4_debtsByAccount_24 : decode cX4_debtsByAccount 24 = .ok (.bipush 105, 2) := by decide +kernel
theorem dX4_debtsByAccount_26 : decode cX4_debtsByAccount 26 = .ok (.iaload, 1) := by decide +kernel
theorem dX4_debtsByAccount_27 : decode cX4_debtsByAccount 27 = .ok (.isub, 1) := by decide +kernel
theorem dX4_debtsByAccount_28 : decode cX4_debtsByAccount 28 = .ok (.aload_n 0, 1) := by decide +kernel
theorem dX4_debtsByAccount_29 : decode cX4_debtsByAccount 29 = .ok (.getfield 7, 3) := by decide +kernel
theorem dX4_debtsByAccount_32 : decode cX4_debtsByAccount 32 = .ok (.bipush 106, 2) := by decide +kernel
theorem dX4_debtsByAccount_34 : decode cX4_debtsByAccount 34 = .ok (.iaload, 1) := by decide +kernel
theorem dX4_debtsByAccount_35 : decode cX4_debtsByAccount 35 = .ok (.isub, 1) := by decide +kernel
theorem dX4_debtsByAccount_36 : decode cX4_debtsByAccount 36 = .ok (.ireturn, 1) := by decide +kernel
theorem dX4_lent_0 : decode cX4_lent 0 = .ok (.aload_n 0, 1) := by decide +kernel
theorem dX4_lent_1 : decode cX4_lent 1 = .ok (.bipush 103, 2) := by decide +kernel
theorem dX4_lent_3 : decode cX4_lent 3 = .ok (.invokevirtual 194, 3) := by decide +kernel
theorem dX4_lent_6 : decode cX4_lent 6 = .ok (.ireturn, 1) := by decide +kernel
theorem dX4_interest_0 : decode cX4_interest 0 = .ok (.aload_n 0, 1) := by decide +kernel
theorem dX4_interest_1 : decode cX4_interest 1 = .ok (.bipush 104, 2) := by decide +kernel
theorem dX4_interest_3 : decode cX4_interest 3 = .ok (.invokevirtual 194, 3) := by decide +kernel
theorem dX4_interest_6 : decode cX4_interest 6 = .ok (.ireturn, 1) := by decide +kernel
theorem dX4_repaid_0 : decode cX4_repaid 0 = .ok (.aload_n 0, 1) := by decide +kernel
theorem dX4_repaid_1 : decode cX4_repaid 1 = .ok (.bipush 105, 2) := by decide +kernel
theorem dX4_repaid_3 : decode cX4_repaid 3 = .ok (.invokevirtual 194, 3) := by decide +kernel
theorem dX4_repaid_6 : decode cX4_repaid 6 = .ok (.ireturn, 1) := by decide +kernel
theorem dX4_lost_0 : decode cX4_lost 0 = .ok (.aload_n 0, 1) := by decide +kernel
theorem dX4_lost_1 : decode cX4_lost 1 = .ok (.bipush 106, 2) := by decide +kernel
theorem dX4_lost_3 : decode cX4_lost 3 = .ok (.invokevirtual 194, 3) := by decide +kernel
theorem dX4_lost_6 : decode cX4_lost 6 = .ok (.ireturn, 1) := by decide +kernel
theorem dX4_calls_0 : decode cX4_calls 0 = .ok (.aload_n 0, 1) := by decide +kernel
theorem dX4_calls_1 : decode cX4_calls 1 = .ok (.bipush 107, 2) := by decide +kernel
theorem dX4_calls_3 : decode cX4_calls 3 = .ok (.invokevirtual 194, 3) := by decide +kernel
theorem dX4_calls_6 : decode cX4_calls 6 = .ok (.ireturn, 1) := by decide +kernel
theorem dX4_soldOut_0 : decode cX4_soldOut 0 = .ok (.aload_n 0, 1) := by decide +kernel
theorem dX4_soldOut_1 : decode cX4_soldOut 1 = .ok (.bipush 108, 2) := by decide +kernel
theorem dX4_soldOut_3 : decode cX4_soldOut 3 = .ok (.invokevirtual 194, 3) := by decide +kernel
theorem dX4_soldOut_6 : decode cX4_soldOut 6 = .ok (.ireturn, 1) := by decide +kernel
theorem dX4_used_0 : decode cX4_used 0 = .ok (.iconst 0, 1) := by decide +kernel
theorem dX4_used_1 : decode cX4_used 1 = .ok (.istore_n 1, 1) := by decide +kernel
theorem dX4_used_2 : decode cX4_used 2 = .ok (.iconst 0, 1) := by decide +kernel
theorem dX4_used_3 : decode cX4_used 3 = .ok (.istore_n 2, 1) := by decide +kernel
theorem dX4_used_4 : decode cX4_used 4 = .ok (.iload_n 2, 1) := by decide +kernel
theorem dX4_used_5 : decode cX4_used 5 = .ok (.bipush 8, 2) := by decide +kernel
theorem dX4_used_7 : decode cX4_used 7 = .ok (.if_icmp .ge 17, 3) := by decide +kernel
theorem dX4_used_10 : decode cX4_used 10 = .ok (.iload_n 1, 1) := by decide +kernel
theorem dX4_used_11 : decode cX4_used 11 = .ok (.aload_n 0, 1) := by decide +kernel
theorem dX4_used_12 : decode cX4_used 12 = .ok (.iload_n 2, 1) := by decide +kernel
theorem dX4_used_13 : decode cX4_used 13 = .ok (.invokevirtual 51, 3) := by decide +kernel
theorem dX4_used_16 : decode cX4_used 16 = .ok (.iadd, 1) := by decide +kernel
theorem dX4_used_17 : decode cX4_used 17 = .ok (.istore_n 1, 1) := by decide +kernel
theorem dX4_used_18 : decode cX4_used 18 = .ok (.iinc 2 1, 3) := by decide +kernel
theorem dX4_used_21 : decode cX4_used 21 = .ok (.goto (-17), 3) := by decide +kernel
theorem dX4_used_24 : decode cX4_used 24 = .ok (.iload_n 1, 1) := by decide +kernel
theorem dX4_used_25 : decode cX4_used 25 = .ok (.ifCond .ne 7, 3) := by decide +kernel
theorem dX4_used_28 : decode cX4_used 28 = .ok (.dconst 0, 1) := by decide +kernel
theorem dX4_used_29 : decode cX4_used 29 = .ok (.goto 11, 3) := by decide +kernel
theorem dX4_used_32 : decode cX4_used 32 = .ok (.aload_n 0, 1) := by decide +kernel
theorem dX4_used_33 : decode cX4_used 33 = .ok (.invokevirtual 210, 3) := by decide +kernel
theorem dX4_used_36 : decode cX4_used 36 = .ok (.i2d, 1) := by decide +kernel
theorem dX4_used_37 : decode cX4_used 37 = .ok (.iload_n 1, 1) := by decide +kernel
theorem dX4_used_38 : decode cX4_used 38 = .ok (.i2d, 1) := by decide +kernel
theorem dX4_used_39 : decode cX4_used 39 = .ok (.ddiv, 1) := by decide +kernel
theorem dX4_used_40 : decode cX4_used 40 = .ok (.dreturn, 1) := by decide +kernel
theorem dX4_usedShare_0 : decode cX4_usedShare 0 = .ok (.aload_n 0, 1) := by decide +kernel
theorem dX4_usedShare_1 : decode cX4_usedShare 1 = .ok (.iconst 0, 1) := by decide +kernel
theorem dX4_usedShare_2 : decode cX4_usedShare 2 = .ok (.putfield 29, 3) := by decide +kernel
theorem dX4_usedShare_5 : decode cX4_usedShare 5 = .ok (.aload_n 0, 1) := by decide +kernel
theorem dX4_usedShare_6 : decode cX4_usedShare 6 = .ok (.invokevirtual 213, 3) := by decide +kernel
theorem dX4_usedShare_9 : decode cX4_usedShare 9 = .ok (.dreturn, 1) := by decide +kernel
theorem dX4_bitsOf_0 : decode cX4_bitsOf 0 = .ok (.dload_n 0, 1) := by decide +kernel
theorem dX4_bitsOf_1 : decode cX4_bitsOf 1 = .ok (.dconst 0, 1) := by decide +kernel
theorem dX4_bitsOf_2 : decode cX4_bitsOf 2 = .ok (.dcmp .l, 1) := by decide +kernel
theorem dX4_bitsOf_3 : decode cX4_bitsOf 3 = .ok (.ifCond .ne 5, 3) := by decide +kernel
theorem dX4_bitsOf_6 : decode cX4_bitsOf 6 = .ok (.lconst 0, 1) := by decide +kernel
theorem dX4_bitsOf_7 : decode cX4_bitsOf 7 = .ok (.lreturn, 1) := by decide +kernel
theorem dX4_bitsOf_8 : decode cX4_bitsOf 8 = .ok (.dload_n 0, 1) := by decide +kernel
theorem dX4_bitsOf_9 : decode cX4_bitsOf 9 = .ok (.dstore 4, 2) := by decide +kernel
theorem dX4_bitsOf_11 : decode cX4_bitsOf 11 = .ok (.iload_n 3, 1) := by decide +kernel
theorem dX4_bitsOf_12 : decode cX4_bitsOf 12 = .ok (.istore 6, 2) := by decide +kernel
theorem dX4_bitsOf_14 : decode cX4_bitsOf 14 = .ok (.dload 4, 2) := by decide +kernel
theorem dX4_bitsOf_16 : decode cX4_bitsOf 16 = .ok (.ldc2_w 217, 3) := by decide +kernel
theorem dX4_bitsOf_19 : decode cX4_bitsOf 19 = .ok (.dcmp .l, 1) := by decide +kernel
theorem dX4_bitsOf_20 : decode cX4_bitsOf 20 = .ok (.ifCond .lt 17, 3) := by decide +kernel
theorem dX4_bitsOf_23 : decode cX4_bitsOf 23 = .ok (.dload 4, 2) := by decide +kernel
theorem dX4_bitsOf_25 : decode cX4_bitsOf 25 = .ok (.ldc2_w 217, 3) := by decide +kernel
theorem dX4_bitsOf_28 : decode cX4_bitsOf 28 = .ok (.ddiv, 1) := by decide +kernel
theorem dX4_bitsOf_29 : decode cX4_bitsOf 29 = .ok (.dstore 4, 2) := by decide +kernel
theorem dX4_bitsOf_31 : decode cX4_bitsOf 31 = .ok (.iinc 6 1, 3) := by decide +kernel
theorem dX4_bitsOf_34 : decode cX4_bitsOf 34 = .ok (.goto (-20), 3) := by decide +kernel
theorem dX4_bitsOf_37 : decode cX4_bitsOf 37 = .ok (.dload 4, 2) := by decide +kernel
theorem dX4_bitsOf_39 : decode cX4_bitsOf 39 = .ok (.dconst 1, 1) := by decide +kernel
theorem dX4_bitsOf_40 : decode cX4_bitsOf 40 = .ok (.dcmp .g, 1) := by decide +kernel
theorem dX4_bitsOf_41 : decode cX4_bitsOf 41 = .ok (.ifCond .ge 17, 3) := by decide +kernel
theorem dX4_bitsOf_44 : decode cX4_bitsOf 44 = .ok (.dload 4, 2) := by decide +kernel
theorem dX4_bitsOf_46 : decode cX4_bitsOf 46 = .ok (.ldc2_w 217, 3) := by decide +kernel
theorem dX4_bitsOf_49 : decode cX4_bitsOf 49 = .ok (.dmul, 1) := by decide +kernel
theorem dX4_bitsOf_50 : decode cX4_bitsOf 50 = .ok (.dstore 4, 2) := by decide +kernel
theorem dX4_bitsOf_52 : decode cX4_bitsOf 52 = .ok (.iinc 6 (-1), 3) := by decide +kernel
theorem dX4_bitsOf_55 : decode cX4_bitsOf 55 = .ok (.goto (-18), 3) := by decide +kernel
theorem dX4_bitsOf_58 : decode cX4_bitsOf 58 = .ok (.dload 4, 2) := by decide +kernel
theorem dX4_bitsOf_60 : decode cX4_bitsOf 60 = .ok (.dconst 1, 1) := by decide +kernel
theorem dX4_bitsOf_61 : decode cX4_bitsOf 61 = .ok (.dsub, 1) := by decide +kernel
theorem dX4_bitsOf_62 : decode cX4_bitsOf 62 = .ok (.dstore 7, 2) := by decide +kernel
theorem dX4_bitsOf_64 : decode cX4_bitsOf 64 = .ok (.iload 6, 2) := by decide +kernel
theorem dX4_bitsOf_66 : decode cX4_bitsOf 66 = .ok (.i2l, 1) := by decide +kernel
theorem dX4_bitsOf_67 : decode cX4_bitsOf 67 = .ok (.lstore 9, 2) := by decide +kernel
theorem dX4_bitsOf_69 : decode cX4_bitsOf 69 = .ok (.iconst 0, 1) := by decide +kernel
theorem dX4_bitsOf_70 : decode cX4_bitsOf 70 = .ok (.istore 11, 2) := by decide +kernel
theorem dX4_bitsOf_72 : decode cX4_bitsOf 72 = .ok (.iload 11, 2) := by decide +kernel
theorem dX4_bitsOf_74 : decode cX4_bitsOf 74 = .ok (.iload_n 2, 1) := by decide +kernel
theorem dX4_bitsOf_75 : decode cX4_bitsOf 75 = .ok (.if_icmp .ge 50, 3) := by decide +kernel
theorem dX4_bitsOf_78 : decode cX4_bitsOf 78 = .ok (.dload 7, 2) := by decide +kernel
theorem dX4_bitsOf_80 : decode cX4_bitsOf 80 = .ok (.ldc2_w 217, 3) := by decide +kernel
theorem dX4_bitsOf_83 : decode cX4_bitsOf 83 = .ok (.dmul, 1) := by decide +kernel
theorem dX4_bitsOf_84 : decode cX4_bitsOf 84 = .ok (.dstore 7, 2) := by decide +kernel
theorem dX4_bitsOf_86 : decode cX4_bitsOf 86 = .ok (.dload 7, 2) := by decide +kernel
theorem dX4_bitsOf_88 : decode cX4_bitsOf 88 = .ok (.dconst 1, 1) := by decide +kernel
theorem dX4_bitsOf_89 : decode cX4_bitsOf 89 = .ok (.dcmp .l, 1) := by decide +kernel
theorem dX4_bitsOf_90 : decode cX4_bitsOf 90 = .ok (.ifCond .lt 7, 3) := by decide +kernel
theorem dX4_bitsOf_93 : decode cX4_bitsOf 93 = .ok (.lconst 1, 1) := by decide +kernel
theorem dX4_bitsOf_94 : decode cX4_bitsOf 94 = .ok (.goto 4, 3) := by decide +kernel
theorem dX4_bitsOf_97 : decode cX4_bitsOf 97 = .ok (.lconst 0, 1) := by decide +kernel
theorem dX4_bitsOf_98 : decode cX4_bitsOf 98 = .ok (.lstore 12, 2) := by decide +kernel
theorem dX4_bitsOf_100 : decode cX4_bitsOf 100 = .ok (.dload 7, 2) := by decide +kernel
theorem dX4_bitsOf_102 : decode cX4_bitsOf 102 = .ok (.lload 12, 2) := by decide +kernel
theorem dX4_bitsOf_104 : decode cX4_bitsOf 104 = .ok (.l2d, 1) := by decide +kernel
theorem dX4_bitsOf_105 : decode cX4_bitsOf 105 = .ok (.dsub, 1) := by decide +kernel
theorem dX4_bitsOf_106 : decode cX4_bitsOf 106 = .ok (.dstore 7, 2) := by decide +kernel
theorem dX4_bitsOf_108 : decode cX4_bitsOf 108 = .ok (.ldc2_w 219, 3) := by decide +kernel
theorem dX4_bitsOf_111 : decode cX4_bitsOf 111 = .ok (.lload 9, 2) := by decide +kernel
theorem dX4_bitsOf_113 : decode cX4_bitsOf 113 = .ok (.lmul, 1) := by decide +kernel
theorem dX4_bitsOf_114 : decode cX4_bitsOf 114 = .ok (.lload 12, 2) := by decide +kernel
theorem dX4_bitsOf_116 : decode cX4_bitsOf 116 = .ok (.ladd, 1) := by decide +kernel
theorem dX4_bitsOf_117 : decode cX4_bitsOf 117 = .ok (.lstore 9, 2) := by decide +kernel
theorem dX4_bitsOf_119 : decode cX4_bitsOf 119 = .ok (.iinc 11 1, 3) := by decide +kernel
theorem dX4_bitsOf_122 : decode cX4_bitsOf 122 = .ok (.goto (-50), 3) := by decide +kernel
theorem dX4_bitsOf_125 : decode cX4_bitsOf 125 = .ok (.lload 9, 2) := by decide +kernel
theorem dX4_bitsOf_127 : decode cX4_bitsOf 127 = .ok (.lreturn, 1) := by decide +kernel
theorem dX4_mix_0 : decode cX4_mix 0 = .ok (.aload_n 0, 1) := by decide +kernel
theorem dX4_mix_1 : decode cX4_mix 1 = .ok (.ldc2_w 221, 3) := by decide +kernel
theorem dX4_mix_4 : decode cX4_mix 4 = .ok (.aload_n 0, 1) := by decide +kernel
theorem dX4_mix_5 : decode cX4_mix 5 = .ok (.getfield 223, 3) := by decide +kernel
theorem dX4_mix_8 : decode cX4_mix 8 = .ok (.lmul, 1) := by decide +kernel
theorem dX4_mix_9 : decode cX4_mix 9 = .ok (.lload_n 1, 1) := by decide +kernel
theorem dX4_mix_10 : decode cX4_mix 10 = .ok (.ladd, 1) := by decide +kernel
theorem dX4_mix_11 : decode cX4_mix 11 = .ok (.putfield 223, 3) := by decide +kernel
theorem dX4_mix_14 : decode cX4_mix 14 = .ok (.return_, 1) := by decide +kernel
theorem dX4_digest_0 : decode cX4_digest 0 = .ok (.aload_n 0, 1) := by decide +kernel
theorem dX4_digest_1 : decode cX4_digest 1 = .ok (.iconst 0, 1) := by decide +kernel
theorem dX4_digest_2 : decode cX4_digest 2 = .ok (.putfield 29, 3) := by decide +kernel
theorem dX4_digest_5 : decode cX4_digest 5 = .ok (.aload_n 0, 1) := by decide +kernel
theorem dX4_digest_6 : decode cX4_digest 6 = .ok (.ldc2_w 227, 3) := by decide +kernel
theorem dX4_digest_9 : decode cX4_digest 9 = .ok (.putfield 223, 3) := by decide +kernel
theorem dX4_digest_12 : decode cX4_digest 12 = .ok (.iconst 0, 1) := by decide +kernel
theorem dX4_digest_13 : decode cX4_digest 13 = .ok (.istore_n 1, 1) := by decide +kernel
theorem dX4_digest_14 : decode cX4_digest 14 = .ok (.iload_n 1, 1) := by decide +kernel
theorem dX4_digest_15 : decode cX4_digest 15 = .ok (.bipush 6, 2) := by decide +kernel
theorem dX4_digest_17 : decode cX4_digest 17 = .ok (.if_icmp .ge 58, 3) := by decide +kernel
theorem dX4_digest_20 : decode cX4_digest 20 = .ok (.aload_n 0, 1) := by decide +kernel
theorem dX4_digest_21 : decode cX4_digest 21 = .ok (.aload_n 0, 1) := by decide +kernel
theorem dX4_digest_22 : decode cX4_digest 22 = .ok (.getfield 7, 3) := by decide +kernel
theorem dX4_digest_25 : decode cX4_digest 25 = .ok (.iload_n 1, 1) := by decide +kernel
theorem dX4_digest_26 : decode cX4_digest 26 = .ok (.iaload, 1) := by decide +kernel
theorem dX4_digest_27 : decode cX4_digest 27 = .ok (.i2l, 1) := by decide +kernel
theorem dX4_digest_28 : decode cX4_digest 28 = .ok (.invokevirtual 229, 3) := by decide +kernel
theorem dX4_digest_31 : decode cX4_digest 31 = .ok (.aload_n 0, 1) := by decide +kernel
theorem dX4_digest_32 : decode cX4_digest 32 = .ok (.aload_n 0, 1) := by decide +kernel
theorem dX4_digest_33 : decode cX4_digest 33 = .ok (.getfield 7, 3) := by decide +kernel
theorem dX4_digest_36 : decode cX4_digest 36 = .ok (.bipush 6, 2) := by decide +kernel
theorem dX4_digest_38 : decode cX4_digest 38 = .ok (.iload_n 1, 1) := by decide +kernel
theorem dX4_digest_39 : decode cX4_digest 39 = .ok (.iadd, 1) := by decide +kernel
theorem dX4_digest_40 : decode cX4_digest 40 = .ok (.iaload, 1) := by decide +kernel
theorem dX4_digest_41 : decode cX4_digest 41 = .ok (.i2l, 1) := by decide +kernel
theorem dX4_digest_42 : decode cX4_digest 42 = .ok (.invokevirtual 229, 3) := by decide +kernel
theorem dX4_digest_45 : decode cX4_digest 45 = .ok (.aload_n 0, 1) := by decide +kernel
theorem dX4_digest_46 : decode cX4_digest 46 = .ok (.aload_n 0, 1) := by decide +kernel
theorem dX4_digest_47 : decode cX4_digest 47 = .ok (.iload_n 1, 1) := by decide +kernel
theorem dX4_digest_48 : decode cX4_digest 48 = .ok (.invokevirtual 176, 3) := by decide +kernel
theorem dX4_digest_51 : decode cX4_digest 51 = .ok (.i2l, 1) := by decide +kernel
theorem dX4_digest_52 : decode cX4_digest 52 = .ok (.invokevirtual 229, 3) := by decide +kernel
theorem dX4_digest_55 : decode cX4_digest 55 = .ok (.aload_n 0, 1) := by decide +kernel
theorem dX4_digest_56 : decode cX4_digest 56 = .ok (.aload_n 0, 1) := by decide +kernel
theorem dX4_digest_57 : decode cX4_digest 57 = .ok (.getfield 7, 3) := by decide +kernel
theorem dX4_digest_60 : decode cX4_digest 60 = .ok (.bipush 12, 2) := by decide +kernel
theorem dX4_digest_62 : decode cX4_digest 62 = .ok (.iload_n 1, 1) := by decide +kernel
theorem dX4_digest_63 : decode cX4_digest 63 = .ok (.iadd, 1) := by decide +kernel
theorem dX4_digest_64 : decode cX4_digest 64 = .ok (.iaload, 1) := by decide +kernel
theorem dX4_digest_65 : decode cX4_digest 65 = .ok (.i2l, 1) := by decide +kernel
theorem dX4_digest_66 : decode cX4_digest 66 = .ok (.invokevirtual 229, 3) := by decide +kernel
theorem dX4_digest_69 : decode cX4_digest 69 = .ok (.iinc 1 1, 3) := by decide +kernel
theorem dX4_digest_72 : decode cX4_digest 72 = .ok (.goto (-58), 3) := by decide +kernel
theorem dX4_digest_75 : decode cX4_digest 75 = .ok (.iconst 0, 1) := by decide +kernel
theorem dX4_digest_76 : decode cX4_digest 76 = .ok (.istore_n 1, 1) := by decide +kernel
theorem dX4_digest_77 : decode cX4_digest 77 = .ok (.iload_n 1, 1) := by decide +kernel
theorem dX4_digest_78 : decode cX4_digest 78 = .ok (.bipush 8, 2) := by decide +kernel
theorem dX4_digest_80 : decode cX4_digest 80 = .ok (.if_icmp .ge 161, 3) := by decide +kernel
theorem dX4_digest_83 : decode cX4_digest 83 = .ok (.iconst 0, 1) := by decide +kernel
theorem dX4_digest_84 : decode cX4_digest 84 = .ok (.istore_n 2, 1) := by decide +kernel
theorem dX4_digest_85 : decode cX4_digest 85 = .ok (.iload_n 2, 1) := by decide +kernel
theorem dX4_digest_86 : decode cX4_digest 86 = .ok (.bipush 7, 2) := by decide +kernel
theorem dX4_digest_88 : decode cX4_digest 88 = .ok (.if_icmp .gt 20, 3) := by decide +kernel
theorem dX4_digest_91 : decode cX4_digest 91 = .ok (.aload_n 0, 1) := by decide +kernel
theorem dX4_digest_92 : decode cX4_digest 92 = .ok (.aload_n 0, 1) := by decide +kernel
theorem dX4_digest_93 : decode cX4_digest 93 = .ok (.iload_n 1, 1) := by decide +kernel
theorem dX4_digest_94 : decode cX4_digest 94 = .ok (.iload_n 2, 1) := by decide +kernel
theorem dX4_digest_95 : decode cX4_digest 95 = .ok (.invokevirtual 44, 3) := by decide +kernel
theorem dX4_digest_98 : decode cX4_digest 98 = .ok (.i2l, 1) := by decide +kernel
theorem dX4_digest_99 : decode cX4_digest 99 = .ok (.invokevirtual 229, 3) := by decide +kernel
theorem dX4_digest_102 : decode cX4_digest 102 = .ok (.iinc 2 1, 3) := by decide +kernel
theorem dX4_digest_105 : decode cX4_digest 105 = .ok (.goto (-20), 3) := by decide +kernel
theorem dX4_digest_108 : decode cX4_digest 108 = .ok (.aload_n 0, 1) := by decide +kernel
theorem dX4_digest_109 : decode cX4_digest 109 = .ok (.aload_n 0, 1) := by decide +kernel
theorem dX4_digest_110 : decode cX4_digest 110 = .ok (.iload_n 1, 1) := by decide +kernel
theorem dX4_digest_111 : decode cX4_digest 111 = .ok (.invokevirtual 179, 3) := by decide +kernel
theorem dX4_digest_114 : decode cX4_digest 114 = .ok (.i2l, 1) := by decide +kernel
theorem dX4_digest_115 : decode cX4_digest 115 = .ok (.invokevirtual 229, 3) := by decide +kernel
theorem dX4_digest_118 : decode cX4_digest 118 = .ok (.aload_n 0, 1) := by decide +kernel
theorem dX4_digest_119 : decode cX4_digest 119 = .ok (.aload_n 0, 1) := by decide +kernel
theorem dX4_digest_120 : decode cX4_digest 120 = .ok (.iload_n 1, 1) := by decide +kernel
theorem dX4_digest_121 : decode cX4_digest 121 = .ok (.invokevirtual 51, 3) := by decide +kernel
theorem dX4_digest_124 : decode cX4_digest 124 = .ok (.i2l, 1) := by decide +kernel
theorem dX4_digest_125 : decode cX4_digest 125 = .ok (.invokevirtual 229, 3) := by decide +kernel
theorem dX4_digest_128 : decode cX4_digest 128 = .ok (.aload_n 0, 1) := by decide +kernel
theorem dX4_digest_129 : decode cX4_digest 129 = .ok (.aload_n 0, 1) := by decide +kernel
theorem dX4_digest_130 : decode cX4_digest 130 = .ok (.iload_n 1, 1) := by decide +kernel
theorem dX4_digest_131 : decode cX4_digest 131 = .ok (.invokevirtual 182, 3) := by decide +kernel
theorem dX4_digest_134 : decode cX4_digest 134 = .ok (.i2l, 1) := by decide +kernel
theorem dX4_digest_135 : decode cX4_digest 135 = .ok (.invokevirtual 229, 3) := by decide +kernel
theorem dX4_digest_138 : decode cX4_digest 138 = .ok (.aload_n 0, 1) := by decide +kernel
theorem dX4_digest_139 : decode cX4_digest 139 = .ok (.aload_n 0, 1) := by decide +kernel
theorem dX4_digest_140 : decode cX4_digest 140 = .ok (.iload_n 1, 1) := by decide +kernel
theorem dX4_digest_141 : decode cX4_digest 141 = .ok (.invokevirtual 59, 3) := by decide +kernel
theorem dX4_digest_144 : decode cX4_digest 144 = .ok (.ifCond .eq 7, 3) := by decide +kernel
theorem dX4_digest_147 : decode cX4_digest 147 = .ok (.lconst 1, 1) := by decide +kernel
theorem dX4_digest_148 : decode cX4_digest 148 = .ok (.goto 4, 3) := by decide +kernel
theorem dX4_digest_151 : decode cX4_digest 151 = .ok (.lconst 0, 1) := by decide +kernel
theorem dX4_digest_152 : decode cX4_digest 152 = .ok (.invokevirtual 229, 3) := by decide +kernel
theorem dX4_digest_155 : decode cX4_digest 155 = .ok (.aload_n 0, 1) := by decide +kernel
theorem dX4_digest_156 : decode cX4_digest 156 = .ok (.aload_n 0, 1) := by decide +kernel
theorem dX4_digest_157 : decode cX4_digest 157 = .ok (.iload_n 1, 1) := by decide +kernel
theorem dX4_digest_158 : decode cX4_digest 158 = .ok (.bipush 8, 2) := by decide +kernel
theorem dX4_digest_160 : decode cX4_digest 160 = .ok (.invokevirtual 44, 3) := by decide +kernel
theorem dX4_digest_163 : decode cX4_digest 163 = .ok (.i2l, 1) := by decide +kernel
theorem dX4_digest_164 : decode cX4_digest 164 = .ok (.invokevirtual 229, 3) := by decide +kernel
theorem dX4_digest_167 : decode cX4_digest 167 = .ok (.aload_n 0, 1) := by decide +kernel
theorem dX4_digest_168 : decode cX4_digest 168 = .ok (.aload_n 0, 1) := by decide +kernel
theorem dX4_digest_169 : decode cX4_digest 169 = .ok (.iload_n 1, 1) := by decide +kernel
theorem dX4_digest_170 : decode cX4_digest 170 = .ok (.bipush 9, 2) := by decide +kernel
theorem dX4_digest_172 : decode cX4_digest 172 = .ok (.invokevirtual 44, 3) := by decide +kernel
theorem dX4_digest_175 : decode cX4_digest 175 = .ok (.i2l, 1) := by decide +kernel
theorem dX4_digest_176 : decode cX4_digest 176 = .ok (.invokevirtual 229, 3) := by decide +kernel
theorem dX4_digest_179 : decode cX4_digest 179 = .ok (.aload_n 0, 1) := by decide +kernel
theorem dX4_digest_180 : decode cX4_digest 180 = .ok (.aload_n 0, 1) := by decide +kernel
theorem dX4_digest_181 : decode cX4_digest 181 = .ok (.iload_n 1, 1) := by decide +kernel
theorem dX4_digest_182 : decode cX4_digest 182 = .ok (.invokevirtual 188, 3) := by decide +kernel
theorem dX4_digest_185 : decode cX4_digest 185 = .ok (.i2l, 1) := by decide +kernel
theorem dX4_digest_186 : decode cX4_digest 186 = .ok (.invokevirtual 229, 3) := by decide +kernel
theorem dX4_digest_189 : decode cX4_digest 189 = .ok (.aload_n 0, 1) := by decide +kernel
theorem dX4_digest_190 : decode cX4_digest 190 = .ok (.aload_n 0, 1) := by decide +kernel
theorem dX4_digest_191 : decode cX4_digest 191 = .ok (.iload_n 1, 1) := by decide +kernel
theorem dX4_digest_192 : decode cX4_digest 192 = .ok (.invokevirtual 197, 3) := by decide +kernel
theorem dX4_digest_195 : decode cX4_digest 195 = .ok (.iconst 1, 1) := by decide +kernel
theorem dX4_digest_196 : decode cX4_digest 196 = .ok (.iadd, 1) := by decide +kernel
theorem dX4_digest_197 : decode cX4_digest 197 = .ok (.i2l, 1) := by decide +kernel
theorem dX4_digest_198 : decode cX4_digest 198 = .ok (.invokevirtual 229, 3) := by decide +kernel
theorem dX4_digest_201 : decode cX4_digest 201 = .ok (.aload_n 0, 1) := by decide +kernel
theorem dX4_digest_202 : decode cX4_digest 202 = .ok (.aload_n 0, 1) := by decide +kernel
theorem dX4_digest_203 : decode cX4_digest 203 = .ok (.iload_n 1, 1) := by decide +kernel
theorem dX4_digest_204 : decode cX4_digest 204 = .ok (.invokevirtual 197, 3) := by decide +kernel
theorem dX4_digest_207 : decode cX4_digest 207 = .ok (.iconst 1, 1) := by decide +kernel
theorem dX4_digest_208 : decode cX4_digest 208 = .ok (.iadd, 1) := by decide +kernel
theorem dX4_digest_209 : decode cX4_digest 209 = .ok (.i2l, 1) := by decide +kernel
theorem dX4_digest_210 : decode cX4_digest 210 = .ok (.invokevirtual 229, 3) := by decide +kernel
theorem dX4_digest_213 : decode cX4_digest 213 = .ok (.aload_n 0, 1) := by decide +kernel
theorem dX4_digest_214 : decode cX4_digest 214 = .ok (.aload_n 0, 1) := by decide +kernel
theorem dX4_digest_215 : decode cX4_digest 215 = .ok (.iload_n 1, 1) := by decide +kernel
theorem dX4_digest_216 : decode cX4_digest 216 = .ok (.iconst 0, 1) := by decide +kernel
theorem dX4_digest_217 : decode cX4_digest 217 = .ok (.invokevirtual 203, 3) := by decide +kernel
theorem dX4_digest_220 : decode cX4_digest 220 = .ok (.i2l, 1) := by decide +kernel
theorem dX4_digest_221 : decode cX4_digest 221 = .ok (.invokevirtual 229, 3) := by decide +kernel
theorem dX4_digest_224 : decode cX4_digest 224 = .ok (.aload_n 0, 1) := by decide +kernel
theorem dX4_digest_225 : decode cX4_digest 225 = .ok (.aload_n 0, 1) := by decide +kernel
theorem dX4_digest_226 : decode cX4_digest 226 = .ok (.iload_n 1, 1) := by decide +kernel
theorem dX4_digest_227 : decode cX4_digest 227 = .ok (.iconst 1, 1) := by decide +kernel
theorem dX4_digest_228 : decode cX4_digest 228 = .ok (.invokevirtual 203, 3) := by decide +kernel
theorem dX4_digest_231 : decode cX4_digest 231 = .ok (.i2l, 1) := by decide +kernel
theorem dX4_digest_232 : decode cX4_digest 232 = .ok (.invokevirtual 229, 3) := by decide +kernel
theorem dX4_digest_235 : decode cX4_digest 235 = .ok (.iinc 1 1, 3) := by decide +kernel
theorem dX4_digest_238 : decode cX4_digest 238 = .ok (.goto (-161), 3) := by decide +kernel
theorem dX4_digest_241 : decode cX4_digest 241 = .ok (.iconst 0, 1) := by decide +kernel
theorem dX4_digest_242 : decode cX4_digest 242 = .ok (.istore_n 1, 1) := by decide +kernel
theorem dX4_digest_243 : decode cX4_digest 243 = .ok (.iload_n 1, 1) := by decide +kernel
theorem dX4_digest_244 : decode cX4_digest 244 = .ok (.bipush 8, 2) := by decide +kernel
theorem dX4_digest_246 : decode cX4_digest 246 = .ok (.if_icmp .ge 29, 3) := by decide +kernel
theorem dX4_digest_249 : decode cX4_digest 249 = .ok (.aload_n 0, 1) := by decide +kernel
theorem dX4_digest_250 : decode cX4_digest 250 = .ok (.aload_n 0, 1) := by decide +kernel
theorem dX4_digest_251 : decode cX4_digest 251 = .ok (.iload_n 1, 1) := by decide +kernel
theorem dX4_digest_252 : decode cX4_digest 252 = .ok (.invokevirtual 191, 3) := by decide +kernel
theorem dX4_digest_255 : decode cX4_digest 255 = .ok (.i2l, 1) := by decide +kernel
theorem dX4_digest_256 : decode cX4_digest 256 = .ok (.invokevirtual 229, 3) := by decide +kernel
theorem dX4_digest_259 : decode cX4_digest 259 = .ok (.aload_n 0, 1) := by decide +kernel
theorem dX4_digest_260 : decode cX4_digest 260 = .ok (.aload_n 0, 1) := by decide +kernel
theorem dX4_digest_261 : decode cX4_digest 261 = .ok (.iload_n 1, 1) := by decide +kernel
theorem dX4_digest_262 : decode cX4_digest 262 = .ok (.invokevirtual 191, 3) := by decide +kernel
theorem dX4_digest_265 : decode cX4_digest 265 = .ok (.i2l, 1) := by decide +kernel
theorem dX4_digest_266 : decode cX4_digest 266 = .ok (.invokevirtual 229, 3) := by decide +kernel
theorem dX4_digest_269 : decode cX4_digest 269 = .ok (.iinc 1 1, 3) := by decide +kernel
theorem dX4_digest_272 : decode cX4_digest 272 = .ok (.goto (-29), 3) := by decide +kernel
theorem dX4_digest_275 : decode cX4_digest 275 = .ok (.aload_n 0, 1) := by decide +kernel
theorem dX4_digest_276 : decode cX4_digest 276 = .ok (.aload_n 0, 1) := by decide +kernel
theorem dX4_digest_277 : decode cX4_digest 277 = .ok (.invokevirtual 170, 3) := by decide +kernel
theorem dX4_digest_280 : decode cX4_digest 280 = .ok (.i2l, 1) := by decide +kernel
theorem dX4_digest_281 : decode cX4_digest 281 = .ok (.invokevirtual 229, 3) := by decide +kernel
theorem dX4_digest_284 : decode cX4_digest 284 = .ok (.bipush 98, 2) := by decide +kernel
theorem dX4_digest_286 : decode cX4_digest 286 = .ok (.istore_n 1, 1) := by decide +kernel
theorem dX4_digest_287 : decode cX4_digest 287 = .ok (.iload_n 1, 1) := by decide +kernel
theorem dX4_digest_288 : decode cX4_digest 288 = .ok (.bipush 101, 2) := by decide +kernel
theorem dX4_digest_290 : decode cX4_digest 290 = .ok (.if_icmp .gt 20, 3) := by decide +kernel
theorem dX4_digest_293 : decode cX4_digest 293 = .ok (.aload_n 0, 1) := by decide +kernel
theorem dX4_digest_294 : decode cX4_digest 294 = .ok (.aload_n 0, 1) := by decide +kernel
theorem dX4_digest_295 : decode cX4_digest 295 = .ok (.getfield 7, 3) := by decide +kernel
theorem dX4_digest_298 : decode cX4_digest 298 = .ok (.iload_n 1, 1) := by decide +kernel
theorem dX4_digest_299 : decode cX4_digest 299 = .ok (.iaload, 1) := by decide +kernel
theorem dX4_digest_300 : decode cX4_digest 300 = .ok (.i2l, 1) := by decide +kernel
theorem dX4_digest_301 : decode cX4_digest 301 = .ok (.invokevirtual 229, 3) := by decide +kernel
theorem dX4_digest_304 : decode cX4_digest 304 = .ok (.iinc 1 1, 3) := by decide +kernel
theorem dX4_digest_307 : decode cX4_digest 307 = .ok (.goto (-20), 3) := by decide +kernel
theorem dX4_digest_310 : decode cX4_digest 310 = .ok (.aload_n 0, 1) := by decide +kernel
theorem dX4_digest_311 : decode cX4_digest 311 = .ok (.aload_n 0, 1) := by decide +kernel
theorem dX4_digest_312 : decode cX4_digest 312 = .ok (.bipush 10, 2) := by decide +kernel
theorem dX4_digest_314 : decode cX4_digest 314 = .ok (.invokevirtual 207, 3) := by decide +kernel
theorem dX4_digest_317 : decode cX4_digest 317 = .ok (.i2l, 1) := by decide +kernel
theorem dX4_digest_318 : decode cX4_digest 318 = .ok (.invokevirtual 229, 3) := by decide +kernel
theorem dX4_digest_321 : decode cX4_digest 321 = .ok (.aload_n 0, 1) := by decide +kernel
theorem dX4_digest_322 : decode cX4_digest 322 = .ok (.aload_n 0, 1) := by decide +kernel
theorem dX4_digest_323 : decode cX4_digest 323 = .ok (.bipush 50, 2) := by decide +kernel
theorem dX4_digest_325 : decode cX4_digest 325 = .ok (.invokevirtual 207, 3) := by decide +kernel
theorem dX4_digest_328 : decode cX4_digest 328 = .ok (.i2l, 1) := by decide +kernel
theorem dX4_digest_329 : decode cX4_digest 329 = .ok (.invokevirtual 229, 3) := by decide +kernel
theorem dX4_digest_332 : decode cX4_digest 332 = .ok (.aload_n 0, 1) := by decide +kernel
theorem dX4_digest_333 : decode cX4_digest 333 = .ok (.aload_n 0, 1) := by decide +kernel
theorem dX4_digest_334 : decode cX4_digest 334 = .ok (.getfield 7, 3) := by decide +kernel
theorem dX4_digest_337 : decode cX4_digest 337 = .ok (.bipush 102, 2) := by decide +kernel
theorem dX4_digest_339 : decode cX4_digest 339 = .ok (.iaload, 1) := by decide +kernel
theorem dX4_digest_340 : decode cX4_digest 340 = .ok (.i2l, 1) := by decide +kernel
theorem dX4_digest_341 : decode cX4_digest 341 = .ok (.invokevirtual 229, 3) := by decide +kernel
theorem dX4_digest_344 : decode cX4_digest 344 = .ok (.aload_n 0, 1) := by decide +kernel
theorem dX4_digest_345 : decode cX4_digest 345 = .ok (.aload_n 0, 1) := by decide +kernel
theorem dX4_digest_346 : decode cX4_digest 346 = .ok (.invokevirtual 210, 3) := by decide +kernel
theorem dX4_digest_349 : decode cX4_digest 349 = .ok (.i2l, 1) := by decide +kernel
theorem dX4_digest_350 : decode cX4_digest 350 = .ok (.invokevirtual 229, 3) := by decide +kernel
theorem dX4_digest_353 : decode cX4_digest 353 = .ok (.aload_n 0, 1) := by decide +kernel
theorem dX4_digest_354 : decode cX4_digest 354 = .ok (.aload_n 0, 1) := by decide +kernel
theorem dX4_digest_355 : decode cX4_digest 355 = .ok (.getfield 7, 3) := by decide +kernel
theorem dX4_digest_358 : decode cX4_digest 358 = .ok (.bipush 103, 2) := by decide +kernel
theorem dX4_digest_360 : decode cX4_digest 360 = .ok (.iaload, 1) := by decide +kernel
theorem dX4_digest_361 : decode cX4_digest 361 = .ok (.aload_n 0, 1) := by decide +kernel
theorem dX4_digest_362 : decode cX4_digest 362 = .ok (.getfield 7, 3) := by decide +kernel
theorem dX4_digest_365 : decode cX4_digest 365 = .ok (.bipush 104, 2) := by decide +kernel
theorem dX4_digest_367 : decode cX4_digest 367 = .ok (.iaload, 1) := by decide +kernel
theorem dX4_digest_368 : decode cX4_digest 368 = .ok (.iadd, 1) := by decide +kernel
theorem dX4_digest_369 : decode cX4_digest 369 = .ok (.aload_n 0, 1) := by decide +kernel
theorem dX4_digest_370 : decode cX4_digest 370 = .ok (.getfield 7, 3) := by decide +kernel
theorem dX4_digest_373 : decode cX4_digest 373 = .ok (.bipush 105, 2) := by decide +kernel
theorem dX4_digest_375 : decode cX4_digest 375 = .ok (.iaload, 1) := by decide +kernel
theorem dX4_digest_376 : decode cX4_digest 376 = .ok (.isub, 1) := by decide +kernel
theorem dX4_digest_377 : decode cX4_digest 377 = .ok (.aload_n 0, 1) := by decide +kernel
theorem dX4_digest_378 : decode cX4_digest 378 = .ok (.getfield 7, 3) := by decide +kernel
theorem dX4_digest_381 : decode cX4_digest 381 = .ok (.bipush 106, 2) := by decide +kernel
theorem dX4_digest_383 : decode cX4_digest 383 = .ok (.iaload, 1) := by decide +kernel
theorem dX4_digest_384 : decode cX4_digest 384 = .ok (.isub, 1) := by decide +kernel
theorem dX4_digest_385 : decode cX4_digest 385 = .ok (.i2l, 1) := by decide +kernel
theorem dX4_digest_386 : decode cX4_digest 386 = .ok (.invokevirtual 229, 3) := by decide +kernel
theorem dX4_digest_389 : decode cX4_digest 389 = .ok (.bipush 103, 2) := by decide +kernel
theorem dX4_digest_391 : decode cX4_digest 391 = .ok (.istore_n 1, 1) := by decide +kernel
theorem dX4_digest_392 : decode cX4_digest 392 = .ok (.iload_n 1, 1) := by decide +kernel
theorem dX4_digest_393 : decode cX4_digest 393 = .ok (.bipush 108, 2) := by decide +kernel
theorem dX4_digest_395 : decode cX4_digest 395 = .ok (.if_icmp .gt 20, 3) := by decide +kernel
theorem dX4_digest_398 : decode cX4_digest 398 = .ok (.aload_n 0, 1) := by decide +kernel
theorem dX4_digest_399 : decode cX4_digest 399 = .ok (.aload_n 0, 1) := by decide +kernel
theorem dX4_digest_400 : decode cX4_digest 400 = .ok (.getfield 7, 3) := by decide +kernel
theorem dX4_digest_403 : decode cX4_digest 403 = .ok (.iload_n 1, 1) := by decide +kernel
theorem dX4_digest_404 : decode cX4_digest 404 = .ok (.iaload, 1) := by decide +kernel
theorem dX4_digest_405 : decode cX4_digest 405 = .ok (.i2l, 1) := by decide +kernel
theorem dX4_digest_406 : decode cX4_digest 406 = .ok (.invokevirtual 229, 3) := by decide +kernel
theorem dX4_digest_409 : decode cX4_digest 409 = .ok (.iinc 1 1, 3) := by decide +kernel
theorem dX4_digest_412 : decode cX4_digest 412 = .ok (.goto (-20), 3) := by decide +kernel
theorem dX4_digest_415 : decode cX4_digest 415 = .ok (.aload_n 0, 1) := by decide +kernel
theorem dX4_digest_416 : decode cX4_digest 416 = .ok (.aload_n 0, 1) := by decide +kernel
theorem dX4_digest_417 : decode cX4_digest 417 = .ok (.getfield 37, 3) := by decide +kernel
theorem dX4_digest_420 : decode cX4_digest 420 = .ok (.i2l, 1) := by decide +kernel
theorem dX4_digest_421 : decode cX4_digest 421 = .ok (.invokevirtual 229, 3) := by decide +kernel
theorem dX4_digest_424 : decode cX4_digest 424 = .ok (.aload_n 0, 1) := by decide +kernel
theorem dX4_digest_425 : decode cX4_digest 425 = .ok (.aload_n 0, 1) := by decide +kernel
theorem dX4_digest_426 : decode cX4_digest 426 = .ok (.invokevirtual 213, 3) := by decide +kernel
theorem dX4_digest_429 : decode cX4_digest 429 = .ok (.bipush 52, 2) := by decide +kernel
theorem dX4_digest_431 : decode cX4_digest 431 = .ok (.sipush 1023, 3) := by decide +kernel
theorem dX4_digest_434 : decode cX4_digest 434 = .ok (.invokestatic 233, 3) := by decide +kernel
theorem dX4_digest_437 : decode cX4_digest 437 = .ok (.invokevirtual 229, 3) := by decide +kernel
theorem dX4_digest_440 : decode cX4_digest 440 = .ok (.aload_n 0, 1) := by decide +kernel
theorem dX4_digest_441 : decode cX4_digest 441 = .ok (.aload_n 0, 1) := by decide +kernel
theorem dX4_digest_442 : decode cX4_digest 442 = .ok (.getfield 19, 3) := by decide +kernel
theorem dX4_digest_445 : decode cX4_digest 445 = .ok (.iconst 0, 1) := by decide +kernel
theorem dX4_digest_446 : decode cX4_digest 446 = .ok (.baload, 1) := by decide +kernel
theorem dX4_digest_447 : decode cX4_digest 447 = .ok (.ifCond .eq 7, 3) := by decide +kernel
theorem dX4_digest_450 : decode cX4_digest 450 = .ok (.lconst 1, 1) := by decide +kernel
theorem dX4_digest_451 : decode cX4_digest 451 = .ok (.goto 4, 3) := by decide +kernel
theorem dX4_digest_454 : decode cX4_digest 454 = .ok (.lconst 0, 1) := by decide +kernel
theorem dX4_digest_455 : decode cX4_digest 455 = .ok (.invokevirtual 229, 3) := by decide +kernel
theorem dX4_digest_458 : decode cX4_digest 458 = .ok (.aload_n 0, 1) := by decide +kernel
theorem dX4_digest_459 : decode cX4_digest 459 = .ok (.aload_n 0, 1) := by decide +kernel
theorem dX4_digest_460 : decode cX4_digest 460 = .ok (.getfield 19, 3) := by decide +kernel
theorem dX4_digest_463 : decode cX4_digest 463 = .ok (.iconst 1, 1) := by decide +kernel
theorem dX4_digest_464 : decode cX4_digest 464 = .ok (.baload, 1) := by decide +kernel
theorem dX4_digest_465 : decode cX4_digest 465 = .ok (.ifCond .eq 7, 3) := by decide +kernel
theorem dX4_digest_468 : decode cX4_digest 468 = .ok (.lconst 1, 1) := by decide +kernel
theorem dX4_digest_469 : decode cX4_digest 469 = .ok (.goto 4, 3) := by decide +kernel
theorem dX4_digest_472 : decode cX4_digest 472 = .ok (.lconst 0, 1) := by decide +kernel
theorem dX4_digest_473 : decode cX4_digest 473 = .ok (.invokevirtual 229, 3) := by decide +kernel
theorem dX4_digest_476 : decode cX4_digest 476 = .ok (.aload_n 0, 1) := by decide +kernel
theorem dX4_digest_477 : decode cX4_digest 477 = .ok (.aload_n 0, 1) := by decide +kernel
theorem dX4_digest_478 : decode cX4_digest 478 = .ok (.getfield 137, 3) := by decide +kernel
theorem dX4_digest_481 : decode cX4_digest 481 = .ok (.i2l, 1) := by decide +kernel
theorem dX4_digest_482 : decode cX4_digest 482 = .ok (.invokevirtual 229, 3) := by decide +kernel
theorem dX4_digest_485 : decode cX4_digest 485 = .ok (.iconst 0, 1) := by decide +kernel
theorem dX4_digest_486 : decode cX4_digest 486 = .ok (.istore_n 1, 1) := by decide +kernel
theorem dX4_digest_487 : decode cX4_digest 487 = .ok (.iload_n 1, 1) := by decide +kernel
theorem dX4_digest_488 : decode cX4_digest 488 = .ok (.aload_n 0, 1) := by decide +kernel
theorem dX4_digest_489 : decode cX4_digest 489 = .ok (.getfield 137, 3) := by decide +kernel
theorem dX4_digest_492 : decode cX4_digest 492 = .ok (.if_icmp .ge 20, 3) := by decide +kernel
theorem dX4_digest_495 : decode cX4_digest 495 = .ok (.aload_n 0, 1) := by decide +kernel
theorem dX4_digest_496 : decode cX4_digest 496 = .ok (.aload_n 0, 1) := by decide +kernel
theorem dX4_digest_497 : decode cX4_digest 497 = .ok (.getfield 26, 3) := by decide +kernel
theorem dX4_digest_500 : decode cX4_digest 500 = .ok (.iload_n 1, 1) := by decide +kernel
theorem dX4_digest_501 : decode cX4_digest 501 = .ok (.iaload, 1) := by decide +kernel
theorem dX4_digest_502 : decode cX4_digest 502 = .ok (.i2l, 1) := by decide +kernel
theorem dX4_digest_503 : decode cX4_digest 503 = .ok (.invokevirtual 229, 3) := by decide +kernel
theorem dX4_digest_506 : decode cX4_digest 506 = .ok (.iinc 1 1, 3) := by decide +kernel
theorem dX4_digest_509 : decode cX4_digest 509 = .ok (.goto (-22), 3) := by decide +kernel
theorem dX4_digest_512 : decode cX4_digest 512 = .ok (.aload_n 0, 1) := by decide +kernel
theorem dX4_digest_513 : decode cX4_digest 513 = .ok (.getfield 223, 3) := by decide +kernel
theorem dX4_digest_516 : decode cX4_digest 516 = .ok (.lreturn, 1) := by decide +kernel
