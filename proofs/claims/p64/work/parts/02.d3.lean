theorem dX3_init_0 : decode cX3_init 0 = .ok (.aload_n 0, 1) := by decide +kernel
theorem dX3_init_1 : decode cX3_init 1 = .ok (.invokespecial 1, 3) := by decide +kernel
theorem dX3_init_4 : decode cX3_init 4 = .ok (.aload_n 0, 1) := by decide +kernel
theorem dX3_init_5 : decode cX3_init 5 = .ok (.new 7, 3) := by decide +kernel
theorem dX3_init_8 : decode cX3_init 8 = .ok (.dup, 1) := by decide +kernel
theorem dX3_init_9 : decode cX3_init 9 = .ok (.invokespecial 9, 3) := by decide +kernel
theorem dX3_init_12 : decode cX3_init 12 = .ok (.putfield 10, 3) := by decide +kernel
theorem dX3_init_15 : decode cX3_init 15 = .ok (.aload_n 0, 1) := by decide +kernel
theorem dX3_init_16 : decode cX3_init 16 = .ok (.new 16, 3) := by decide +kernel
theorem dX3_init_19 : decode cX3_init 19 = .ok (.dup, 1) := by decide +kernel
theorem dX3_init_20 : decode cX3_init 20 = .ok (.invokespecial 18, 3) := by decide +kernel
theorem dX3_init_23 : decode cX3_init 23 = .ok (.putfield 19, 3) := by decide +kernel
theorem dX3_init_26 : decode cX3_init 26 = .ok (.aload_n 0, 1) := by decide +kernel
theorem dX3_init_27 : decode cX3_init 27 = .ok (.bipush 8, 2) := by decide +kernel
theorem dX3_init_29 : decode cX3_init 29 = .ok (.newarray .int, 2) := by decide +kernel
theorem dX3_init_31 : decode cX3_init 31 = .ok (.putfield 23, 3) := by decide +kernel
theorem dX3_init_34 : decode cX3_init 34 = .ok (.aload_n 0, 1) := by decide +kernel
theorem dX3_init_35 : decode cX3_init 35 = .ok (.iconst 2, 1) := by decide +kernel
theorem dX3_init_36 : decode cX3_init 36 = .ok (.anewarray 27, 3) := by decide +kernel
theorem dX3_init_39 : decode cX3_init 39 = .ok (.putfield 29, 3) := by decide +kernel
theorem dX3_init_42 : decode cX3_init 42 = .ok (.aload_n 0, 1) := by decide +kernel
theorem dX3_init_43 : decode cX3_init 43 = .ok (.iconst 2, 1) := by decide +kernel
theorem dX3_init_44 : decode cX3_init 44 = .ok (.newarray .boolean, 2) := by decide +kernel
theorem dX3_init_46 : decode cX3_init 46 = .ok (.putfield 33, 3) := by decide +kernel
theorem dX3_init_49 : decode cX3_init 49 = .ok (.aload_n 0, 1) := by decide +kernel
theorem dX3_init_50 : decode cX3_init 50 = .ok (.bipush 6, 2) := by decide +kernel
theorem dX3_init_52 : decode cX3_init 52 = .ok (.anewarray 27, 3) := by decide +kernel
theorem dX3_init_55 : decode cX3_init 55 = .ok (.putfield 37, 3) := by decide +kernel
theorem dX3_init_58 : decode cX3_init 58 = .ok (.aload_n 0, 1) := by decide +kernel
theorem dX3_init_59 : decode cX3_init 59 = .ok (.new 27, 3) := by decide +kernel
theorem dX3_init_62 : decode cX3_init 62 = .ok (.dup, 1) := by decide +kernel
theorem dX3_init_63 : decode cX3_init 63 = .ok (.invokespecial 40, 3) := by decide +kernel
theorem dX3_init_66 : decode cX3_init 66 = .ok (.putfield 41, 3) := by decide +kernel
theorem dX3_init_69 : decode cX3_init 69 = .ok (.aload_n 0, 1) := by decide +kernel
theorem dX3_init_70 : decode cX3_init 70 = .ok (.new 27, 3) := by decide +kernel
theorem dX3_init_73 : decode cX3_init 73 = .ok (.dup, 1) := by decide +kernel
theorem dX3_init_74 : decode cX3_init 74 = .ok (.invokespecial 40, 3) := by decide +kernel
theorem dX3_init_77 : decode cX3_init 77 = .ok (.putfield 45, 3) := by decide +kernel
theorem dX3_init_80 : decode cX3_init 80 = .ok (.iconst 0, 1) := by decide +kernel
theorem dX3_init_81 : decode cX3_init 81 = .ok (.istore_n 1, 1) := by decide +kernel
theorem dX3_init_82 : decode cX3_init 82 = .ok (.iload_n 1, 1) := by decide +kernel
theorem dX3_init_83 : decode cX3_init 83 = .ok (.iconst 2, 1) := by decide +kernel
theorem dX3_init_84 : decode cX3_init 84 = .ok (.if_icmp .ge 22, 3) := by decide +kernel
theorem dX3_init_87 : decode cX3_init 87 = .ok (.aload_n 0, 1) := by decide +kernel
theorem dX3_init_88 : decode cX3_init 88 = .ok (.getfield 29, 3) := by decide +kernel
theorem dX3_init_91 : decode cX3_init 91 = .ok (.iload_n 1, 1) := by decide +kernel
theorem dX3_init_92 : decode cX3_init 92 = .ok (.new 27, 3) := by decide +kernel
theorem dX3_init_95 : decode cX3_init 95 = .ok (.dup, 1) := by decide +kernel
theorem dX3_init_96 : decode cX3_init 96 = .ok (.invokespecial 40, 3) := by decide +kernel
theorem dX3_init_99 : decode cX3_init 99 = .ok (.aastore, 1) := by decide +kernel
theorem dX3_init_100 : decode cX3_init 100 = .ok (.iinc 1 1, 3) := by decide +kernel
theorem dX3_init_103 : decode cX3_init 103 = .ok (.goto (-21), 3) := by decide +kernel
theorem dX3_init_106 : decode cX3_init 106 = .ok (.iconst 0, 1) := by decide +kernel
theorem dX3_init_107 : decode cX3_init 107 = .ok (.istore_n 1, 1) := by decide +kernel
theorem dX3_init_108 : decode cX3_init 108 = .ok (.iload_n 1, 1) := by decide +kernel
theorem dX3_init_109 : decode cX3_init 109 = .ok (.bipush 6, 2) := by decide +kernel
theorem dX3_init_111 : decode cX3_init 111 = .ok (.if_icmp .ge 22, 3) := by decide +kernel
theorem dX3_init_114 : decode cX3_init 114 = .ok (.aload_n 0, 1) := by decide +kernel
theorem dX3_init_115 : decode cX3_init 115 = .ok (.getfield 37, 3) := by decide +kernel
theorem dX3_init_118 : decode cX3_init 118 = .ok (.iload_n 1, 1) := by decide +kernel
theorem dX3_init_119 : decode cX3_init 119 = .ok (.new 27, 3) := by decide +kernel
theorem dX3_init_122 : decode cX3_init 122 = .ok (.dup, 1) := by decide +kernel
theorem dX3_init_123 : decode cX3_init 123 = .ok (.invokespecial 40, 3) := by decide +kernel
theorem dX3_init_126 : decode cX3_init 126 = .ok (.aastore, 1) := by decide +kernel
theorem dX3_init_127 : decode cX3_init 127 = .ok (.iinc 1 1, 3) := by decide +kernel
theorem dX3_init_130 : decode cX3_init 130 = .ok (.goto (-22), 3) := by decide +kernel
theorem dX3_init_133 : decode cX3_init 133 = .ok (.return_, 1) := by decide +kernel
theorem dX3_setPrice_0 : decode cX3_setPrice 0 = .ok (.iload_n 1, 1) := by decide +kernel
theorem dX3_setPrice_1 : decode cX3_setPrice 1 = .ok (.invokestatic 48, 3) := by decide +kernel
theorem dX3_setPrice_4 : decode cX3_setPrice 4 = .ok (.iload_n 2, 1) := by decide +kernel
theorem dX3_setPrice_5 : decode cX3_setPrice 5 = .ok (.iconst 1, 1) := by decide +kernel
theorem dX3_setPrice_6 : decode cX3_setPrice 6 = .ok (.sipush 500, 3) := by decide +kernel
theorem dX3_setPrice_9 : decode cX3_setPrice 9 = .ok (.invokestatic 52, 3) := by decide +kernel
theorem dX3_setPrice_12 : decode cX3_setPrice 12 = .ok (.aload_n 0, 1) := by decide +kernel
theorem dX3_setPrice_13 : decode cX3_setPrice 13 = .ok (.invokevirtual 56, 3) := by decide +kernel
theorem dX3_setPrice_16 : decode cX3_setPrice 16 = .ok (.aload_n 0, 1) := by decide +kernel
theorem dX3_setPrice_17 : decode cX3_setPrice 17 = .ok (.getfield 41, 3) := by decide +kernel
theorem dX3_setPrice_20 : decode cX3_setPrice 20 = .ok (.iload_n 1, 1) := by decide +kernel
theorem dX3_setPrice_21 : decode cX3_setPrice 21 = .ok (.iload_n 2, 1) := by decide +kernel
theorem dX3_setPrice_22 : decode cX3_setPrice 22 = .ok (.invokevirtual 59, 3) := by decide +kernel
theorem dX3_setPrice_25 : decode cX3_setPrice 25 = .ok (.ireturn, 1) := by decide +kernel
theorem dX3_setCut_0 : decode cX3_setCut 0 = .ok (.iload_n 1, 1) := by decide +kernel
theorem dX3_setCut_1 : decode cX3_setCut 1 = .ok (.invokestatic 48, 3) := by decide +kernel
theorem dX3_setCut_4 : decode cX3_setCut 4 = .ok (.iload_n 2, 1) := by decide +kernel
theorem dX3_setCut_5 : decode cX3_setCut 5 = .ok (.iconst 0, 1) := by decide +kernel
theorem dX3_setCut_6 : decode cX3_setCut 6 = .ok (.bipush 90, 2) := by decide +kernel
theorem dX3_setCut_8 : decode cX3_setCut 8 = .ok (.invokestatic 52, 3) := by decide +kernel
theorem dX3_setCut_11 : decode cX3_setCut 11 = .ok (.aload_n 0, 1) := by decide +kernel
theorem dX3_setCut_12 : decode cX3_setCut 12 = .ok (.invokevirtual 56, 3) := by decide +kernel
theorem dX3_setCut_15 : decode cX3_setCut 15 = .ok (.aload_n 0, 1) := by decide +kernel
theorem dX3_setCut_16 : decode cX3_setCut 16 = .ok (.getfield 41, 3) := by decide +kernel
theorem dX3_setCut_19 : decode cX3_setCut 19 = .ok (.iload_n 1, 1) := by decide +kernel
theorem dX3_setCut_20 : decode cX3_setCut 20 = .ok (.iload_n 2, 1) := by decide +kernel
theorem dX3_setCut_21 : decode cX3_setCut 21 = .ok (.invokevirtual 63, 3) := by decide +kernel
theorem dX3_setCut_24 : decode cX3_setCut 24 = .ok (.ireturn, 1) := by decide +kernel
theorem dX3_fall_0 : decode cX3_fall 0 = .ok (.iload_n 1, 1) := by decide +kernel
theorem dX3_fall_1 : decode cX3_fall 1 = .ok (.iconst 1, 1) := by decide +kernel
theorem dX3_fall_2 : decode cX3_fall 2 = .ok (.bipush 90, 2) := by decide +kernel
theorem dX3_fall_4 : decode cX3_fall 4 = .ok (.invokestatic 52, 3) := by decide +kernel
theorem dX3_fall_7 : decode cX3_fall 7 = .ok (.aload_n 0, 1) := by decide +kernel
theorem dX3_fall_8 : decode cX3_fall 8 = .ok (.invokevirtual 56, 3) := by decide +kernel
theorem dX3_fall_11 : decode cX3_fall 11 = .ok (.aload_n 0, 1) := by decide +kernel
theorem dX3_fall_12 : decode cX3_fall 12 = .ok (.getfield 41, 3) := by decide +kernel
theorem dX3_fall_15 : decode cX3_fall 15 = .ok (.iload_n 1, 1) := by decide +kernel
theorem dX3_fall_16 : decode cX3_fall 16 = .ok (.invokevirtual 66, 3) := by decide +kernel
theorem dX3_fall_19 : decode cX3_fall 19 = .ok (.ireturn, 1) := by decide +kernel
theorem dX3_pledge_0 : decode cX3_pledge 0 = .ok (.iload_n 1, 1) := by decide +kernel
theorem dX3_pledge_1 : decode cX3_pledge 1 = .ok (.invokestatic 70, 3) := by decide +kernel
theorem dX3_pledge_4 : decode cX3_pledge 4 = .ok (.iload_n 2, 1) := by decide +kernel
theorem dX3_pledge_5 : decode cX3_pledge 5 = .ok (.invokestatic 48, 3) := by decide +kernel
theorem dX3_pledge_8 : decode cX3_pledge 8 = .ok (.iload_n 3, 1) := by decide +kernel
theorem dX3_pledge_9 : decode cX3_pledge 9 = .ok (.iconst 1, 1) := by decide +kernel
theorem dX3_pledge_10 : decode cX3_pledge 10 = .ok (.bipush 50, 2) := by decide +kernel
theorem dX3_pledge_12 : decode cX3_pledge 12 = .ok (.invokestatic 52, 3) := by decide +kernel
theorem dX3_pledge_15 : decode cX3_pledge 15 = .ok (.aload_n 0, 1) := by decide +kernel
theorem dX3_pledge_16 : decode cX3_pledge 16 = .ok (.getfield 45, 3) := by decide +kernel
theorem dX3_pledge_19 : decode cX3_pledge 19 = .ok (.aload_n 0, 1) := by decide +kernel
theorem dX3_pledge_20 : decode cX3_pledge 20 = .ok (.getfield 41, 3) := by decide +kernel
theorem dX3_pledge_23 : decode cX3_pledge 23 = .ok (.invokevirtual 73, 3) := by decide +kernel
theorem dX3_pledge_26 : decode cX3_pledge 26 = .ok (.aload_n 0, 1) := by decide +kernel
theorem dX3_pledge_27 : decode cX3_pledge 27 = .ok (.getfield 41, 3) := by decide +kernel
theorem dX3_pledge_30 : decode cX3_pledge 30 = .ok (.iload_n 1, 1) := by decide +kernel
theorem dX3_pledge_31 : decode cX3_pledge 31 = .ok (.iload_n 2, 1) := by decide +kernel
theorem dX3_pledge_32 : decode cX3_pledge 32 = .ok (.iload_n 3, 1) := by decide +kernel
theorem dX3_pledge_33 : decode cX3_pledge 33 = .ok (.invokevirtual 77, 3) := by decide +kernel
theorem dX3_pledge_36 : decode cX3_pledge 36 = .ok (.invokestatic 81, 3) := by decide +kernel
theorem dX3_pledge_39 : decode cX3_pledge 39 = .ok (.aload_n 0, 1) := by decide +kernel
theorem dX3_pledge_40 : decode cX3_pledge 40 = .ok (.invokevirtual 85, 3) := by decide +kernel
theorem dX3_pledge_43 : decode cX3_pledge 43 = .ok (.aload_n 0, 1) := by decide +kernel
theorem dX3_pledge_44 : decode cX3_pledge 44 = .ok (.getfield 41, 3) := by decide +kernel
theorem dX3_pledge_47 : decode cX3_pledge 47 = .ok (.getfield 88, 3) := by decide +kernel
theorem dX3_pledge_50 : decode cX3_pledge 50 = .ok (.iload_n 1, 1) := by decide +kernel
theorem dX3_pledge_51 : decode cX3_pledge 51 = .ok (.iload_n 2, 1) := by decide +kernel
theorem dX3_pledge_52 : decode cX3_pledge 52 = .ok (.invokestatic 91, 3) := by decide +kernel
theorem dX3_pledge_55 : decode cX3_pledge 55 = .ok (.iaload, 1) := by decide +kernel
theorem dX3_pledge_56 : decode cX3_pledge 56 = .ok (.ireturn, 1) := by decide +kernel
theorem dX3_release_0 : decode cX3_release 0 = .ok (.iload_n 1, 1) := by decide +kernel
theorem dX3_release_1 : decode cX3_release 1 = .ok (.invokestatic 70, 3) := by decide +kernel
theorem dX3_release_4 : decode cX3_release 4 = .ok (.iload_n 2, 1) := by decide +kernel
theorem dX3_release_5 : decode cX3_release 5 = .ok (.invokestatic 48, 3) := by decide +kernel
theorem dX3_release_8 : decode cX3_release 8 = .ok (.iload_n 3, 1) := by decide +kernel
theorem dX3_release_9 : decode cX3_release 9 = .ok (.iconst 1, 1) := by decide +kernel
theorem dX3_release_10 : decode cX3_release 10 = .ok (.bipush 50, 2) := by decide +kernel
theorem dX3_release_12 : decode cX3_release 12 = .ok (.invokestatic 52, 3) := by decide +kernel
theorem dX3_release_15 : decode cX3_release 15 = .ok (.aload_n 0, 1) := by decide +kernel
theorem dX3_release_16 : decode cX3_release 16 = .ok (.getfield 45, 3) := by decide +kernel
theorem dX3_release_19 : decode cX3_release 19 = .ok (.aload_n 0, 1) := by decide +kernel
theorem dX3_release_20 : decode cX3_release 20 = .ok (.getfield 41, 3) := by decide +kernel
theorem dX3_release_23 : decode cX3_release 23 = .ok (.invokevirtual 73, 3) := by decide +kernel
theorem dX3_release_26 : decode cX3_release 26 = .ok (.aload_n 0, 1) := by decide +kernel
theorem dX3_release_27 : decode cX3_release 27 = .ok (.getfield 41, 3) := by decide +kernel
theorem dX3_release_30 : decode cX3_release 30 = .ok (.iload_n 1, 1) := by decide +kernel
theorem dX3_release_31 : decode cX3_release 31 = .ok (.iload_n 2, 1) := by decide +kernel
theorem dX3_release_32 : decode cX3_release 32 = .ok (.iload_n 3, 1) := by decide +kernel
theorem dX3_release_33 : decode cX3_release 33 = .ok (.invokevirtual 94, 3) := by decide +kernel
theorem dX3_release_36 : decode cX3_release 36 = .ok (.invokestatic 81, 3) := by decide +kernel
theorem dX3_release_39 : decode cX3_release 39 = .ok (.aload_n 0, 1) := by decide +kernel
theorem dX3_release_40 : decode cX3_release 40 = .ok (.invokevirtual 85, 3) := by decide +kernel
theorem dX3_release_43 : decode cX3_release 43 = .ok (.aload_n 0, 1) := by decide +kernel
theorem dX3_release_44 : decode cX3_release 44 = .ok (.getfield 41, 3) := by decide +kernel
theorem dX3_release_47 : decode cX3_release 47 = .ok (.getfield 88, 3) := by decide +kernel
theorem dX3_release_50 : decode cX3_release 50 = .ok (.iload_n 1, 1) := by decide +kernel
theorem dX3_release_51 : decode cX3_release 51 = .ok (.iload_n 2, 1) := by decide +kernel
theorem dX3_release_52 : decode cX3_release 52 = .ok (.invokestatic 91, 3) := by decide +kernel
theorem dX3_release_55 : decode cX3_release 55 = .ok (.iaload, 1) := by decide +kernel
theorem dX3_release_56 : decode cX3_release 56 = .ok (.ireturn, 1) := by decide +kernel
theorem dX3_deposit_0 : decode cX3_deposit 0 = .ok (.iload_n 1, 1) := by decide +kernel
theorem dX3_deposit_1 : decode cX3_deposit 1 = .ok (.invokestatic 70, 3) := by decide +kernel
theorem dX3_deposit_4 : decode cX3_deposit 4 = .ok (.iload_n 2, 1) := by decide +kernel
theorem dX3_deposit_5 : decode cX3_deposit 5 = .ok (.iconst 1, 1) := by decide +kernel
theorem dX3_deposit_6 : decode cX3_deposit 6 = .ok (.sipush 9999, 3) := by decide +kernel
theorem dX3_deposit_9 : decode cX3_deposit 9 = .ok (.invokestatic 52, 3) := by decide +kernel
theorem dX3_deposit_12 : decode cX3_deposit 12 = .ok (.aload_n 0, 1) := by decide +kernel
theorem dX3_deposit_13 : decode cX3_deposit 13 = .ok (.getfield 45, 3) := by decide +kernel
theorem dX3_deposit_16 : decode cX3_deposit 16 = .ok (.aload_n 0, 1) := by decide +kernel
theorem dX3_deposit_17 : decode cX3_deposit 17 = .ok (.getfield 41, 3) := by decide +kernel
theorem dX3_deposit_20 : decode cX3_deposit 20 = .ok (.invokevirtual 73, 3) := by decide +kernel
theorem dX3_deposit_23 : decode cX3_deposit 23 = .ok (.aload_n 0, 1) := by decide +kernel
theorem dX3_deposit_24 : decode cX3_deposit 24 = .ok (.getfield 41, 3) := by decide +kernel
theorem dX3_deposit_27 : decode cX3_deposit 27 = .ok (.iload_n 1, 1) := by decide +kernel
theorem dX3_deposit_28 : decode cX3_deposit 28 = .ok (.iload_n 2, 1) := by decide +kernel
theorem dX3_deposit_29 : decode cX3_deposit 29 = .ok (.invokevirtual 97, 3) := by decide +kernel
theorem dX3_deposit_32 : decode cX3_deposit 32 = .ok (.invokestatic 81, 3) := by decide +kernel
theorem dX3_deposit_35 : decode cX3_deposit 35 = .ok (.aload_n 0, 1) := by decide +kernel
theorem dX3_deposit_36 : decode cX3_deposit 36 = .ok (.invokevirtual 85, 3) := by decide +kernel
theorem dX3_deposit_39 : decode cX3_deposit 39 = .ok (.aload_n 0, 1) := by decide +kernel
theorem dX3_deposit_40 : decode cX3_deposit 40 = .ok (.getfield 41, 3) := by decide +kernel
theorem dX3_deposit_43 : decode cX3_deposit 43 = .ok (.getfield 101, 3) := by decide +kernel
theorem dX3_deposit_46 : decode cX3_deposit 46 = .ok (.iload_n 1, 1) := by decide +kernel
theorem dX3_deposit_47 : decode cX3_deposit 47 = .ok (.iaload, 1) := by decide +kernel
theorem dX3_deposit_48 : decode cX3_deposit 48 = .ok (.ireturn, 1) := by decide +kernel
theorem dX3_lend_0 : decode cX3_lend 0 = .ok (.iload_n 1, 1) := by decide +kernel
theorem dX3_lend_1 : decode cX3_lend 1 = .ok (.invokestatic 70, 3) := by decide +kernel
theorem dX3_lend_4 : decode cX3_lend 4 = .ok (.iload_n 2, 1) := by decide +kernel
theorem dX3_lend_5 : decode cX3_lend 5 = .ok (.iconst 1, 1) := by decide +kernel
theorem dX3_lend_6 : decode cX3_lend 6 = .ok (.sipush 9999, 3) := by decide +kernel
theorem dX3_lend_9 : decode cX3_lend 9 = .ok (.invokestatic 52, 3) := by decide +kernel
theorem dX3_lend_12 : decode cX3_lend 12 = .ok (.aload_n 0, 1) := by decide +kernel
theorem dX3_lend_13 : decode cX3_lend 13 = .ok (.getfield 45, 3) := by decide +kernel
theorem dX3_lend_16 : decode cX3_lend 16 = .ok (.aload_n 0, 1) := by decide +kernel
theorem dX3_lend_17 : decode cX3_lend 17 = .ok (.getfield 41, 3) := by decide +kernel
theorem dX3_lend_20 : decode cX3_lend 20 = .ok (.invokevirtual 73, 3) := by decide +kernel
theorem dX3_lend_23 : decode cX3_lend 23 = .ok (.aload_n 0, 1) := by decide +kernel
theorem dX3_lend_24 : decode cX3_lend 24 = .ok (.getfield 41, 3) := by decide +kernel
theorem dX3_lend_27 : decode cX3_lend 27 = .ok (.iload_n 1, 1) := by decide +kernel
theorem dX3_lend_28 : decode cX3_lend 28 = .ok (.iload_n 2, 1) := by decide +kernel
theorem dX3_lend_29 : decode cX3_lend 29 = .ok (.invokevirtual 107, 3) := by decide +kernel
theorem dX3_lend_32 : decode cX3_lend 32 = .ok (.invokestatic 81, 3) := by decide +kernel
theorem dX3_lend_35 : decode cX3_lend 35 = .ok (.aload_n 0, 1) := by decide +kernel
theorem dX3_lend_36 : decode cX3_lend 36 = .ok (.invokevirtual 85, 3) := by decide +kernel
theorem dX3_lend_39 : decode cX3_lend 39 = .ok (.aload_n 0, 1) := by decide +kernel
theorem dX3_lend_40 : decode cX3_lend 40 = .ok (.getfield 41, 3) := by decide +kernel
theorem dX3_lend_43 : decode cX3_lend 43 = .ok (.getfield 110, 3) := by decide +kernel
theorem dX3_lend_46 : decode cX3_lend 46 = .ok (.iload_n 1, 1) := by decide +kernel
theorem dX3_lend_47 : decode cX3_lend 47 = .ok (.iaload, 1) := by decide +kernel
theorem dX3_lend_48 : decode cX3_lend 48 = .ok (.ireturn, 1) := by decide +kernel
theorem dX3_payBack_0 : decode cX3_payBack 0 = .ok (.iload_n 1, 1) := by decide +kernel
theorem dX3_payBack_1 : decode cX3_payBack 1 = .ok (.invokestatic 70, 3) := by decide +kernel
theorem dX3_payBack_4 : decode cX3_payBack 4 = .ok (.iload_n 2, 1) := by decide +kernel
theorem dX3_payBack_5 : decode cX3_payBack 5 = .ok (.iconst 1, 1) := by decide +kernel
theorem dX3_payBack_6 : decode cX3_payBack 6 = .ok (.sipush 9999, 3) := by decide +kernel
theorem dX3_payBack_9 : decode cX3_payBack 9 = .ok (.invokestatic 52, 3) := by decide +kernel
theorem dX3_payBack_12 : decode cX3_payBack 12 = .ok (.aload_n 0, 1) := by decide +kernel
theorem dX3_payBack_13 : decode cX3_payBack 13 = .ok (.getfield 45, 3) := by decide +kernel
theorem dX3_payBack_16 : decode cX3_payBack 16 = .ok (.aload_n 0, 1) := by decide +kernel
theorem dX3_payBack_17 : decode cX3_payBack 17 = .ok (.getfield 41, 3) := by decide +kernel
theorem dX3_payBack_20 : decode cX3_payBack 20 = .ok (.invokevirtual 73, 3) := by decide +kernel
theorem dX3_payBack_23 : decode cX3_payBack 23 = .ok (.aload_n 0, 1) := by decide +kernel
theorem dX3_payBack_24 : decode cX3_payBack 24 = .ok (.getfield 41, 3) := by decide +kernel
theorem dX3_payBack_27 : decode cX3_payBack 27 = .ok (.iload_n 1, 1) := by decide +kernel
theorem dX3_payBack_28 : decode cX3_payBack 28 = .ok (.iload_n 2, 1) := by decide +kernel
theorem dX3_payBack_29 : decode cX3_payBack 29 = .ok (.invokevirtual 113, 3) := by decide +kernel
theorem dX3_payBack_32 : decode cX3_payBack 32 = .ok (.istore_n 3, 1) := by decide +kernel
theorem dX3_payBack_33 : decode cX3_payBack 33 = .ok (.iload_n 3, 1) := by decide +kernel
theorem dX3_payBack_34 : decode cX3_payBack 34 = .ok (.iconst (-1), 1) := by decide +kernel
theorem dX3_payBack_35 : decode cX3_payBack 35 = .ok (.if_icmp .eq 7, 3) := by decide +kernel
theorem dX3_payBack_38 : decode cX3_payBack 38 = .ok (.iconst 1, 1) := by decide +kernel
theorem dX3_payBack_39 : decode cX3_payBack 39 = .ok (.goto 4, 3) := by decide +kernel
theorem dX3_payBack_42 : decode cX3_payBack 42 = .ok (.iconst 0, 1) := by decide +kernel
theorem dX3_payBack_43 : decode cX3_payBack 43 = .ok (.invokestatic 81, 3) := by decide +kernel
theorem dX3_payBack_46 : decode cX3_payBack 46 = .ok (.aload_n 0, 1) := by decide +kernel
theorem dX3_payBack_47 : decode cX3_payBack 47 = .ok (.invokevirtual 85, 3) := by decide +kernel
theorem dX3_payBack_50 : decode cX3_payBack 50 = .ok (.iload_n 3, 1) := by decide +kernel
theorem dX3_payBack_51 : decode cX3_payBack 51 = .ok (.ireturn, 1) := by decide +kernel
theorem dX3_pass_0 : decode cX3_pass 0 = .ok (.iload_n 1, 1) := by decide +kernel
theorem dX3_pass_1 : decode cX3_pass 1 = .ok (.iconst 1, 1) := by decide +kernel
theorem dX3_pass_2 : decode cX3_pass 2 = .ok (.bipush 100, 2) := by decide +kernel
theorem dX3_pass_4 : decode cX3_pass 4 = .ok (.invokestatic 52, 3) := by decide +kernel
theorem dX3_pass_7 : decode cX3_pass 7 = .ok (.aload_n 0, 1) := by decide +kernel
theorem dX3_pass_8 : decode cX3_pass 8 = .ok (.invokevirtual 56, 3) := by decide +kernel
theorem dX3_pass_11 : decode cX3_pass 11 = .ok (.aload_n 0, 1) := by decide +kernel
theorem dX3_pass_12 : decode cX3_pass 12 = .ok (.getfield 41, 3) := by decide +kernel
theorem dX3_pass_15 : decode cX3_pass 15 = .ok (.iload_n 1, 1) := by decide +kernel
theorem dX3_pass_16 : decode cX3_pass 16 = .ok (.aload_n 0, 1) := by decide +kernel
theorem dX3_pass_17 : decode cX3_pass 17 = .ok (.getfield 19, 3) := by decide +kernel
theorem dX3_pass_20 : decode cX3_pass 20 = .ok (.invokevirtual 120, 3) := by decide +kernel
theorem dX3_pass_23 : decode cX3_pass 23 = .ok (.ireturn, 1) := by decide +kernel
theorem dX3_changeRate_0 : decode cX3_changeRate 0 = .ok (.iload_n 1, 1) := by decide +kernel
theorem dX3_changeRate_1 : decode cX3_changeRate 1 = .ok (.iconst 0, 1) := by decide +kernel
theorem dX3_changeRate_2 : decode cX3_changeRate 2 = .ok (.bipush 100, 2) := by decide +kernel
theorem dX3_changeRate_4 : decode cX3_changeRate 4 = .ok (.invokestatic 52, 3) := by decide +kernel
theorem dX3_changeRate_7 : decode cX3_changeRate 7 = .ok (.aload_n 0, 1) := by decide +kernel
theorem dX3_changeRate_8 : decode cX3_changeRate 8 = .ok (.invokevirtual 56, 3) := by decide +kernel
theorem dX3_changeRate_11 : decode cX3_changeRate 11 = .ok (.aload_n 0, 1) := by decide +kernel
theorem dX3_changeRate_12 : decode cX3_changeRate 12 = .ok (.getfield 41, 3) := by decide +kernel
theorem dX3_changeRate_15 : decode cX3_changeRate 15 = .ok (.getfield 124, 3) := by decide +kernel
theorem dX3_changeRate_18 : decode cX3_changeRate 18 = .ok (.istore_n 2, 1) := by decide +kernel
theorem dX3_changeRate_19 : decode cX3_changeRate 19 = .ok (.aload_n 0, 1) := by decide +kernel
theorem dX3_changeRate_20 : decode cX3_changeRate 20 = .ok (.getfield 41, 3) := by decide +kernel
theorem dX3_changeRate_23 : decode cX3_changeRate 23 = .ok (.iload_n 1, 1) := by decide +kernel
theorem dX3_changeRate_24 : decode cX3_changeRate 24 = .ok (.putfield 124, 3) := by decide +kernel
theorem dX3_changeRate_27 : decode cX3_changeRate 27 = .ok (.iload_n 2, 1) := by decide +kernel
theorem dX3_changeRate_28 : decode cX3_changeRate 28 = .ok (.ireturn, 1) := by decide +kernel
theorem dX3_changeGrace_0 : decode cX3_changeGrace 0 = .ok (.iload_n 1, 1) := by decide +kernel
theorem dX3_changeGrace_1 : decode cX3_changeGrace 1 = .ok (.iconst 1, 1) := by decide +kernel
theorem dX3_changeGrace_2 : decode cX3_changeGrace 2 = .ok (.bipush 24, 2) := by decide +kernel
theorem dX3_changeGrace_4 : decode cX3_changeGrace 4 = .ok (.invokestatic 52, 3) := by decide +kernel
theorem dX3_changeGrace_7 : decode cX3_changeGrace 7 = .ok (.aload_n 0, 1) := by decide +kernel
theorem dX3_changeGrace_8 : decode cX3_changeGrace 8 = .ok (.invokevirtual 56, 3) := by decide +kernel
theorem dX3_changeGrace_11 : decode cX3_changeGrace 11 = .ok (.aload_n 0, 1) := by decide +kernel
theorem dX3_changeGrace_12 : decode cX3_changeGrace 12 = .ok (.getfield 41, 3) := by decide +kernel
theorem dX3_changeGrace_15 : decode cX3_changeGrace 15 = .ok (.getfield 128, 3) := by decide +kernel
theorem dX3_changeGrace_18 : decode cX3_changeGrace 18 = .ok (.istore_n 2, 1) := by decide +kernel
theorem dX3_changeGrace_19 : decode cX3_changeGrace 19 = .ok (.aload_n 0, 1) := by decide +kernel
theorem dX3_changeGrace_20 : decode cX3_changeGrace 20 = .ok (.getfield 41, 3) := by decide +kernel
theorem dX3_changeGrace_23 : decode cX3_changeGrace 23 = .ok (.iload_n 1, 1) := by decide +kernel
theorem dX3_changeGrace_24 : decode cX3_changeGrace 24 = .ok (.putfield 128, 3) := by decide +kernel
theorem dX3_changeGrace_27 : decode cX3_changeGrace 27 = .ok (.iload_n 2, 1) := by decide +kernel
theorem dX3_changeGrace_28 : decode cX3_changeGrace 28 = .ok (.ireturn, 1) := by decide +kernel
theorem dX3_changeSlip_0 : decode cX3_changeSlip 0 = .ok (.iload_n 1, 1) := by decide +kernel
theorem dX3_changeSlip_1 : decode cX3_changeSlip 1 = .ok (.iconst 0, 1) := by decide +kernel
theorem dX3_changeSlip_2 : decode cX3_changeSlip 2 = .ok (.bipush 50, 2) := by decide +kernel
theorem dX3_changeSlip_4 : decode cX3_changeSlip 4 = .ok (.invokestatic 52, 3) := by decide +kernel
theorem dX3_changeSlip_7 : decode cX3_changeSlip 7 = .ok (.aload_n 0, 1) := by decide +kernel
theorem dX3_changeSlip_8 : decode cX3_changeSlip 8 = .ok (.invokevirtual 56, 3) := by decide +kernel
theorem dX3_changeSlip_11 : decode cX3_changeSlip 11 = .ok (.aload_n 0, 1) := by decide +kernel
theorem dX3_changeSlip_12 : decode cX3_changeSlip 12 = .ok (.getfield 41, 3) := by decide +kernel
theorem dX3_changeSlip_15 : decode cX3_changeSlip 15 = .ok (.getfield 131, 3) := by decide +kernel
theorem dX3_changeSlip_18 : decode cX3_changeSlip 18 = .ok (.istore_n 2, 1) := by decide +kernel
theorem dX3_changeSlip_19 : decode cX3_changeSlip 19 = .ok (.aload_n 0, 1) := by decide +kernel
theorem dX3_changeSlip_20 : decode cX3_changeSlip 20 = .ok (.getfield 41, 3) := by decide +kernel
theorem dX3_changeSlip_23 : decode cX3_changeSlip 23 = .ok (.iload_n 1, 1) := by decide +kernel
theorem dX3_changeSlip_24 : decode cX3_changeSlip 24 = .ok (.putfield 131, 3) := by decide +kernel
theorem dX3_changeSlip_27 : decode cX3_changeSlip 27 = .ok (.iload_n 2, 1) := by decide +kernel
theorem dX3_changeSlip_28 : decode cX3_changeSlip 28 = .ok (.ireturn, 1) := by decide +kernel
theorem dX3_turnOrder_0 : decode cX3_turnOrder 0 = .ok (.aload_n 0, 1) := by decide +kernel
theorem dX3_turnOrder_1 : decode cX3_turnOrder 1 = .ok (.invokevirtual 56, 3) := by decide +kernel
theorem dX3_turnOrder_4 : decode cX3_turnOrder 4 = .ok (.aload_n 0, 1) := by decide +kernel
theorem dX3_turnOrder_5 : decode cX3_turnOrder 5 = .ok (.getfield 41, 3) := by decide +kernel
theorem dX3_turnOrder_8 : decode cX3_turnOrder 8 = .ok (.aload_n 0, 1) := by decide +kernel
theorem dX3_turnOrder_9 : decode cX3_turnOrder 9 = .ok (.getfield 41, 3) := by decide +kernel
theorem dX3_turnOrder_12 : decode cX3_turnOrder 12 = .ok (.getfield 134, 3) := by decide +kernel
theorem dX3_turnOrder_15 : decode cX3_turnOrder 15 = .ok (.iconst 1, 1) := by decide +kernel
theorem dX3_turnOrder_16 : decode cX3_turnOrder 16 = .ok (.iadd, 1) := by decide +kernel
theorem dX3_turnOrder_17 : decode cX3_turnOrder 17 = .ok (.iconst 3, 1) := by decide +kernel
theorem dX3_turnOrder_18 : decode cX3_turnOrder 18 = .ok (.irem, 1) := by decide +kernel
theorem dX3_turnOrder_19 : decode cX3_turnOrder 19 = .ok (.putfield 134, 3) := by decide +kernel
theorem dX3_turnOrder_22 : decode cX3_turnOrder 22 = .ok (.aload_n 0, 1) := by decide +kernel
theorem dX3_turnOrder_23 : decode cX3_turnOrder 23 = .ok (.getfield 41, 3) := by decide +kernel
theorem dX3_turnOrder_26 : decode cX3_turnOrder 26 = .ok (.getfield 134, 3) := by decide +kernel
theorem dX3_turnOrder_29 : decode cX3_turnOrder 29 = .ok (.ireturn, 1) := by decide +kernel
theorem dX3_priceOf_0 : decode cX3_priceOf 0 = .ok (.iload_n 1, 1) := by decide +kernel
theorem dX3_priceOf_1 : decode cX3_priceOf 1 = .ok (.invokestatic 48, 3) := by decide +kernel
theorem dX3_priceOf_4 : decode cX3_priceOf 4 = .ok (.aload_n 0, 1) := by decide +kernel
theorem dX3_priceOf_5 : decode cX3_priceOf 5 = .ok (.getfield 41, 3) := by decide +kernel
theorem dX3_priceOf_8 : decode cX3_priceOf 8 = .ok (.getfield 175, 3) := by decide +kernel
theorem dX3_priceOf_11 : decode cX3_priceOf 11 = .ok (.iload_n 1, 1) := by decide +kernel
theorem dX3_priceOf_12 : decode cX3_priceOf 12 = .ok (.iaload, 1) := by decide +kernel
theorem dX3_priceOf_13 : decode cX3_priceOf 13 = .ok (.ireturn, 1) := by decide +kernel
theorem dX3_cutOf_0 : decode cX3_cutOf 0 = .ok (.iload_n 1, 1) := by decide +kernel
theorem dX3_cutOf_1 : decode cX3_cutOf 1 = .ok (.invokestatic 48, 3) := by decide +kernel
theorem dX3_cutOf_4 : decode cX3_cutOf 4 = .ok (.aload_n 0, 1) := by decide +kernel
theorem dX3_cutOf_5 : decode cX3_cutOf 5 = .ok (.getfield 41, 3) := by decide +kernel
theorem dX3_cutOf_8 : decode cX3_cutOf 8 = .ok (.getfield 178, 3) := by decide +kernel
theorem dX3_cutOf_11 : decode cX3_cutOf 11 = .ok (.iload_n 1, 1) := by decide +kernel
theorem dX3_cutOf_12 : decode cX3_cutOf 12 = .ok (.iaload, 1) := by decide +kernel
theorem dX3_cutOf_13 : decode cX3_cutOf 13 = .ok (.ireturn, 1) := by decide +kernel
theorem dX3_pledgedOf_0 : decode cX3_pledgedOf 0 = .ok (.iload_n 1, 1) := by decide +kernel
theorem dX3_pledgedOf_1 : decode cX3_pledgedOf 1 = .ok (.invokestatic 48, 3) := by decide +kernel
theorem dX3_pledgedOf_4 : decode cX3_pledgedOf 4 = .ok (.aload_n 0, 1) := by decide +kernel
theorem dX3_pledgedOf_5 : decode cX3_pledgedOf 5 = .ok (.getfield 41, 3) := by decide +kernel
theorem dX3_pledgedOf_8 : decode cX3_pledgedOf 8 = .ok (.iload_n 1, 1) := by decide +kernel
theorem dX3_pledgedOf_9 : decode cX3_pledgedOf 9 = .ok (.invokevirtual 181, 3) := by decide +kernel
theorem dX3_pledgedOf_12 : decode cX3_pledgedOf 12 = .ok (.ireturn, 1) := by decide +kernel
theorem dX3_soldOf_0 : decode cX3_soldOf 0 = .ok (.iload_n 1, 1) := by decide +kernel
theorem dX3_soldOf_1 : decode cX3_soldOf 1 = .ok (.invokestatic 48, 3) := by decide +kernel
theorem dX3_soldOf_4 : decode cX3_soldOf 4 = .ok (.aload_n 0, 1) := by decide +kernel
theorem dX3_soldOf_5 : decode cX3_soldOf 5 = .ok (.getfield 41, 3) := by decide +kernel
theorem dX3_soldOf_8 : decode cX3_soldOf 8 = .ok (.getfield 184, 3) := by decide +kernel
theorem dX3_soldOf_11 : decode cX3_soldOf 11 = .ok (.iload_n 1, 1) := by decide +kernel
theorem dX3_soldOf_12 : decode cX3_soldOf 12 = .ok (.iaload, 1) := by decide +kernel
theorem dX3_soldOf_13 : decode cX3_soldOf 13 = .ok (.ireturn, 1) := by decide +kernel
theorem dX3_piecesOf_0 : decode cX3_piecesOf 0 = .ok (.iload_n 1, 1) := by decide +kernel
theorem dX3_piecesOf_1 : decode cX3_piecesOf 1 = .ok (.invokestatic 70, 3) := by decide +kernel
theorem dX3_piecesOf_4 : decode cX3_piecesOf 4 = .ok (.iload_n 2, 1) := by decide +kernel
theorem dX3_piecesOf_5 : decode cX3_piecesOf 5 = .ok (.invokestatic 48, 3) := by decide +kernel
theorem dX3_piecesOf_8 : decode cX3_piecesOf 8 = .ok (.aload_n 0, 1) := by decide +kernel
theorem dX3_piecesOf_9 : decode cX3_piecesOf 9 = .ok (.getfield 41, 3) := by decide +kernel
theorem dX3_piecesOf_12 : decode cX3_piecesOf 12 = .ok (.getfield 88, 3) := by decide +kernel
theorem dX3_piecesOf_15 : decode cX3_piecesOf 15 = .ok (.iload_n 1, 1) := by decide +kernel
theorem dX3_piecesOf_16 : decode cX3_piecesOf 16 = .ok (.iload_n 2, 1) := by decide +kernel
theorem dX3_piecesOf_17 : decode cX3_piecesOf 17 = .ok (.invokestatic 91, 3) := by decide +kernel
theorem dX3_piecesOf_20 : decode cX3_piecesOf 20 = .ok (.iaload, 1) := by decide +kernel
theorem dX3_piecesOf_21 : decode cX3_piecesOf 21 = .ok (.ireturn, 1) := by decide +kernel
theorem dX3_coinsOf_0 : decode cX3_coinsOf 0 = .ok (.iload_n 1, 1) := by decide +kernel
theorem dX3_coinsOf_1 : decode cX3_coinsOf 1 = .ok (.invokestatic 70, 3) := by decide +kernel
theorem dX3_coinsOf_4 : decode cX3_coinsOf 4 = .ok (.aload_n 0, 1) := by decide +kernel
theorem dX3_coinsOf_5 : decode cX3_coinsOf 5 = .ok (.getfield 41, 3) := by decide +kernel
theorem dX3_coinsOf_8 : decode cX3_coinsOf 8 = .ok (.getfield 101, 3) := by decide +kernel
theorem dX3_coinsOf_11 : decode cX3_coinsOf 11 = .ok (.iload_n 1, 1) := by decide +kernel
theorem dX3_coinsOf_12 : decode cX3_coinsOf 12 = .ok (.iaload, 1) := by decide +kernel
theorem dX3_coinsOf_13 : decode cX3_coinsOf 13 = .ok (.ireturn, 1) := by decide +kernel
theorem dX3_debtOf_0 : decode cX3_debtOf 0 = .ok (.iload_n 1, 1) := by decide +kernel
theorem dX3_debtOf_1 : decode cX3_debtOf 1 = .ok (.invokestatic 70, 3) := by decide +kernel
theorem dX3_debtOf_4 : decode cX3_debtOf 4 = .ok (.aload_n 0, 1) := by decide +kernel
theorem dX3_debtOf_5 : decode cX3_debtOf 5 = .ok (.getfield 41, 3) := by decide +kernel
theorem dX3_debtOf_8 : decode cX3_debtOf 8 = .ok (.getfield 110, 3) := by decide +kernel
theorem dX3_debtOf_11 : decode cX3_debtOf 11 = .ok (.iload_n 1, 1) := by decide +kernel
theorem dX3_debtOf_12 : decode cX3_debtOf 12 = .ok (.iaload, 1) := by decide +kernel
theorem dX3_debtOf_13 : decode cX3_debtOf 13 = .ok (.ireturn, 1) := by decide +kernel
theorem dX3_worthOf_0 : decode cX3_worthOf 0 = .ok (.iload_n 1, 1) := by decide +kernel
theorem dX3_worthOf_1 : decode cX3_worthOf 1 = .ok (.invokestatic 70, 3) := by decide +kernel
theorem dX3_worthOf_4 : decode cX3_worthOf 4 = .ok (.aload_n 0, 1) := by decide +kernel
theorem dX3_worthOf_5 : decode cX3_worthOf 5 = .ok (.getfield 41, 3) := by decide +kernel
theorem dX3_worthOf_8 : decode cX3_worthOf 8 = .ok (.iload_n 1, 1) := by decide +kernel
theorem dX3_worthOf_9 : decode cX3_worthOf 9 = .ok (.invokevirtual 187, 3) := by decide +kernel
theorem dX3_worthOf_12 : decode cX3_worthOf 12 = .ok (.ireturn, 1) := by decide +kernel
theorem dX3_coverOf_0 : decode cX3_coverOf 0 = .ok (.iload_n 1, 1) := by decide +kernel
theorem dX3_coverOf_1 : decode cX3_coverOf 1 = .ok (.invokestatic 70, 3) := by decide +kernel
theorem dX3_coverOf_4 : decode cX3_coverOf 4 = .ok (.aload_n 0, 1) := by decide +kernel
theorem dX3_coverOf_5 : decode cX3_coverOf 5 = .ok (.getfield 41, 3) := by decide +kernel
theorem dX3_coverOf_8 : decode cX3_coverOf 8 = .ok (.iload_n 1, 1) := by decide +kernel
theorem dX3_coverOf_9 : decode cX3_coverOf 9 = .ok (.invokevirtual 190, 3) := by decide +kernel
theorem dX3_coverOf_12 : decode cX3_coverOf 12 = .ok (.ireturn, 1) := by decide +kernel
theorem dX3_roomOf_0 : decode cX3_roomOf 0 = .ok (.iload_n 1, 1) := by decide +kernel
theorem dX3_roomOf_1 : decode cX3_roomOf 1 = .ok (.invokestatic 70, 3) := by decide +kernel
theorem dX3_roomOf_4 : decode cX3_roomOf 4 = .ok (.aload_n 0, 1) := by decide +kernel
theorem dX3_roomOf_5 : decode cX3_roomOf 5 = .ok (.getfield 41, 3) := by decide +kernel
theorem dX3_roomOf_8 : decode cX3_roomOf 8 = .ok (.iload_n 1, 1) := by decide +kernel
theorem dX3_roomOf_9 : decode cX3_roomOf 9 = .ok (.invokevirtual 193, 3) := by decide +kernel
theorem dX3_roomOf_12 : decode cX3_roomOf 12 = .ok (.ireturn, 1) := by decide +kernel
theorem dX3_isCalled_0 : decode cX3_isCalled 0 = .ok (.iload_n 1, 1) := by decide +kernel
theorem dX3_isCalled_1 : decode cX3_isCalled 1 = .ok (.invokestatic 70, 3) := by decide +kernel
theorem dX3_isCalled_4 : decode cX3_isCalled 4 = .ok (.aload_n 0, 1) := by decide +kernel
theorem dX3_isCalled_5 : decode cX3_isCalled 5 = .ok (.getfield 41, 3) := by decide +kernel
theorem dX3_isCalled_8 : decode cX3_isCalled 8 = .ok (.getfield 196, 3) := by decide +kernel
theorem dX3_isCalled_11 : decode cX3_isCalled 11 = .ok (.iload_n 1, 1) := by decide +kernel
theorem dX3_isCalled_12 : decode cX3_isCalled 12 = .ok (.iaload, 1) := by decide +kernel
theorem dX3_isCalled_13 : decode cX3_isCalled 13 = .ok (.ifCond .le 7, 3) := by decide +kernel
theorem dX3_isCalled_16 : decode cX3_isCalled 16 = .ok (.iconst 1, 1) := by decide +kernel
theorem dX3_isCalled_17 : decode cX3_isCalled 17 = .ok (.goto 4, 3) := by decide +kernel
theorem dX3_isCalled_20 : decode cX3_isCalled 20 = .ok (.iconst 0, 1) := by decide +kernel
theorem dX3_isCalled_21 : decode cX3_isCalled 21 = .ok (.ireturn, 1) := by decide +kernel
theorem dX3_hoursLeft_0 : decode cX3_hoursLeft 0 = .ok (.iload_n 1, 1) := by decide +kernel
theorem dX3_hoursLeft_1 : decode cX3_hoursLeft 1 = .ok (.invokestatic 70, 3) := by decide +kernel
theorem dX3_hoursLeft_4 : decode cX3_hoursLeft 4 = .ok (.aload_n 0, 1) := by decide +kernel
theorem dX3_hoursLeft_5 : decode cX3_hoursLeft 5 = .ok (.getfield 41, 3) := by decide +kernel
theorem dX3_hoursLeft_8 : decode cX3_hoursLeft 8 = .ok (.getfield 196, 3) := by decide +kernel
theorem dX3_hoursLeft_11 : decode cX3_hoursLeft 11 = .ok (.iload_n 1, 1) := by decide +kernel
theorem dX3_hoursLeft_12 : decode cX3_hoursLeft 12 = .ok (.iaload, 1) := by decide +kernel
theorem dX3_hoursLeft_13 : decode cX3_hoursLeft 13 = .ok (.ifCond .le 7, 3) := by decide +kernel
theorem dX3_hoursLeft_16 : decode cX3_hoursLeft 16 = .ok (.iconst 1, 1) := by decide +kernel
theorem dX3_hoursLeft_17 : decode cX3_hoursLeft 17 = .ok (.goto 4, 3) := by decide +kernel
theorem dX3_hoursLeft_20 : decode cX3_hoursLeft 20 = .ok (.iconst 0, 1) := by decide +kernel
theorem dX3_hoursLeft_21 : decode cX3_hoursLeft 21 = .ok (.invokestatic 81, 3) := by decide +kernel
theorem dX3_hoursLeft_24 : decode cX3_hoursLeft 24 = .ok (.aload_n 0, 1) := by decide +kernel
theorem dX3_hoursLeft_25 : decode cX3_hoursLeft 25 = .ok (.getfield 41, 3) := by decide +kernel
theorem dX3_hoursLeft_28 : decode cX3_hoursLeft 28 = .ok (.getfield 196, 3) := by decide +kernel
theorem dX3_hoursLeft_31 : decode cX3_hoursLeft 31 = .ok (.iload_n 1, 1) := by decide +kernel
theorem dX3_hoursLeft_32 : decode cX3_hoursLeft 32 = .ok (.iaload, 1) := by decide +kernel
theorem dX3_hoursLeft_33 : decode cX3_hoursLeft 33 = .ok (.ireturn, 1) := by decide +kernel
theorem dX3_isBarred_0 : decode cX3_isBarred 0 = .ok (.iload_n 1, 1) := by decide +kernel
theorem dX3_isBarred_1 : decode cX3_isBarred 1 = .ok (.invokestatic 70, 3) := by decide +kernel
theorem dX3_isBarred_4 : decode cX3_isBarred 4 = .ok (.aload_n 0, 1) := by decide +kernel
theorem dX3_isBarred_5 : decode cX3_isBarred 5 = .ok (.getfield 41, 3) := by decide +kernel
theorem dX3_isBarred_8 : decode cX3_isBarred 8 = .ok (.getfield 199, 3) := by decide +kernel
theorem dX3_isBarred_11 : decode cX3_isBarred 11 = .ok (.iload_n 1, 1) := by decide +kernel
theorem dX3_isBarred_12 : decode cX3_isBarred 12 = .ok (.baload, 1) := by decide +kernel
theorem dX3_isBarred_13 : decode cX3_isBarred 13 = .ok (.ireturn, 1) := by decide +kernel
theorem dX3_rankOf_0 : decode cX3_rankOf 0 = .ok (.iload_n 1, 1) := by decide +kernel
theorem dX3_rankOf_1 : decode cX3_rankOf 1 = .ok (.invokestatic 70, 3) := by decide +kernel
theorem dX3_rankOf_4 : decode cX3_rankOf 4 = .ok (.aload_n 0, 1) := by decide +kernel
theorem dX3_rankOf_5 : decode cX3_rankOf 5 = .ok (.getfield 41, 3) := by decide +kernel
theorem dX3_rankOf_8 : decode cX3_rankOf 8 = .ok (.iload_n 1, 1) := by decide +kernel
theorem dX3_rankOf_9 : decode cX3_rankOf 9 = .ok (.invokevirtual 202, 3) := by decide +kernel
theorem dX3_rankOf_12 : decode cX3_rankOf 12 = .ok (.ireturn, 1) := by decide +kernel
theorem dX3_riskyBySorting_0 : decode cX3_riskyBySorting 0 = .ok (.iload_n 1, 1) := by decide +kernel
theorem dX3_riskyBySorting_1 : decode cX3_riskyBySorting 1 = .ok (.invokestatic 205, 3) := by decide +kernel
theorem dX3_riskyBySorting_4 : decode cX3_riskyBySorting 4 = .ok (.aload_n 0, 1) := by decide +kernel
theorem dX3_riskyBySorting_5 : decode cX3_riskyBySorting 5 = .ok (.getfield 41, 3) := by decide +kernel
theorem dX3_riskyBySorting_8 : decode cX3_riskyBySorting 8 = .ok (.aload_n 0, 1) := by decide +kernel
theorem dX3_riskyBySorting_9 : decode cX3_riskyBySorting 9 = .ok (.getfield 23, 3) := by decide +kernel
theorem dX3_riskyBySorting_12 : decode cX3_riskyBySorting 12 = .ok (.invokevirtual 208, 3) := by decide +kernel
theorem dX3_riskyBySorting_15 : decode cX3_riskyBySorting 15 = .ok (.aload_n 0, 1) := by decide +kernel
theorem dX3_riskyBySorting_16 : decode cX3_riskyBySorting 16 = .ok (.getfield 23, 3) := by decide +kernel
theorem dX3_riskyBySorting_19 : decode cX3_riskyBySorting 19 = .ok (.iload_n 1, 1) := by decide +kernel
theorem dX3_riskyBySorting_20 : decode cX3_riskyBySorting 20 = .ok (.iaload, 1) := by decide +kernel
theorem dX3_riskyBySorting_21 : decode cX3_riskyBySorting 21 = .ok (.ireturn, 1) := by decide +kernel
theorem dX3_riskyByTaking_0 : decode cX3_riskyByTaking 0 = .ok (.iload_n 1, 1) := by decide +kernel
theorem dX3_riskyByTaking_1 : decode cX3_riskyByTaking 1 = .ok (.invokestatic 205, 3) := by decide +kernel
theorem dX3_riskyByTaking_4 : decode cX3_riskyByTaking 4 = .ok (.aload_n 0, 1) := by decide +kernel
theorem dX3_riskyByTaking_5 : decode cX3_riskyByTaking 5 = .ok (.getfield 41, 3) := by decide +kernel
theorem dX3_riskyByTaking_8 : decode cX3_riskyByTaking 8 = .ok (.iload_n 1, 1) := by decide +kernel
theorem dX3_riskyByTaking_9 : decode cX3_riskyByTaking 9 = .ok (.invokevirtual 212, 3) := by decide +kernel
theorem dX3_riskyByTaking_12 : decode cX3_riskyByTaking 12 = .ok (.ireturn, 1) := by decide +kernel
theorem dX3_calledNow_0 : decode cX3_calledNow 0 = .ok (.aload_n 0, 1) := by decide +kernel
theorem dX3_calledNow_1 : decode cX3_calledNow 1 = .ok (.getfield 41, 3) := by decide +kernel
theorem dX3_calledNow_4 : decode cX3_calledNow 4 = .ok (.invokevirtual 169, 3) := by decide +kernel
theorem dX3_calledNow_7 : decode cX3_calledNow 7 = .ok (.ireturn, 1) := by decide +kernel
theorem dX3_order_0 : decode cX3_order 0 = .ok (.aload_n 0, 1) := by decide +kernel
theorem dX3_order_1 : decode cX3_order 1 = .ok (.getfield 41, 3) := by decide +kernel
theorem dX3_order_4 : decode cX3_order 4 = .ok (.getfield 134, 3) := by decide +kernel
theorem dX3_order_7 : decode cX3_order 7 = .ok (.ireturn, 1) := by decide +kernel
theorem dX3_fallToCallByTrying_0 : decode cX3_fallToCallByTrying 0 = .ok (.iload_n 1, 1) := by decide +kernel
theorem dX3_fallToCallByTrying_1 : decode cX3_fallToCallByTrying 1 = .ok (.invokestatic 70, 3) := by decide +kernel
theorem dX3_fallToCallByTrying_4 : decode cX3_fallToCallByTrying 4 = .ok (.aload_n 0, 1) := by decide +kernel
theorem dX3_fallToCallByTrying_5 : decode cX3_fallToCallByTrying 5 = .ok (.getfield 41, 3) := by decide +kernel
theorem dX3_fallToCallByTrying_8 : decode cX3_fallToCallByTrying 8 = .ok (.iload_n 1, 1) := by decide +kernel
theorem dX3_fallToCallByTrying_9 : decode cX3_fallToCallByTrying 9 = .ok (.invokevirtual 215, 3) := by decide +kernel
theorem dX3_fallToCallByTrying_12 : decode cX3_fallToCallByTrying 12 = .ok (.istore_n 2, 1) := by decide +kernel
theorem dX3_fallToCallByTrying_13 : decode cX3_fallToCallByTrying 13 = .ok (.iload_n 2, 1) := by decide +kernel
theorem dX3_fallToCallByTrying_14 : decode cX3_fallToCallByTrying 14 = .ok (.iconst (-1), 1) := by decide +kernel
theorem dX3_fallToCallByTrying_15 : decode cX3_fallToCallByTrying 15 = .ok (.if_icmp .eq 7, 3) := by decide +kernel
theorem dX3_fallToCallByTrying_18 : decode cX3_fallToCallByTrying 18 = .ok (.iconst 1, 1) := by decide +kernel
theorem dX3_fallToCallByTrying_19 : decode cX3_fallToCallByTrying 19 = .ok (.goto 4, 3) := by decide +kernel
theorem dX3_fallToCallByTrying_22 : decode cX3_fallToCallByTrying 22 = .ok (.iconst 0, 1) := by decide +kernel
theorem dX3_fallToCallByTrying_23 : decode cX3_fallToCallByTrying 23 = .ok (.invokestatic 81, 3) := by decide +kernel
theorem dX3_fallToCallByTrying_26 : decode cX3_fallToCallByTrying 26 = .ok (.iload_n 2, 1) := by decide +kernel
theorem dX3_fallToCallByTrying_27 : decode cX3_fallToCallByTrying 27 = .ok (.ireturn, 1) := by decide +kernel
theorem dX3_fallToCallByHalving_0 : decode cX3_fallToCallByHalving 0 = .ok (.iload_n 1, 1) := by decide +kernel
theorem dX3_fallToCallByHalving_1 : decode cX3_fallToCallByHalving 1 = .ok (.invokestatic 70, 3) := by decide +kernel
theorem dX3_fallToCallByHalving_4 : decode cX3_fallToCallByHalving 4 = .ok (.aload_n 0, 1) := by decide +kernel
theorem dX3_fallToCallByHalving_5 : decode cX3_fallToCallByHalving 5 = .ok (.getfield 41, 3) := by decide +kernel
theorem dX3_fallToCallByHalving_8 : decode cX3_fallToCallByHalving 8 = .ok (.iload_n 1, 1) := by decide +kernel
theorem dX3_fallToCallByHalving_9 : decode cX3_fallToCallByHalving 9 = .ok (.invokevirtual 218, 3) := by decide +kernel
theorem dX3_fallToCallByHalving_12 : decode cX3_fallToCallByHalving 12 = .ok (.istore_n 2, 1) := by decide +kernel
theorem dX3_fallToCallByHalving_13 : decode cX3_fallToCallByHalving 13 = .ok (.iload_n 2, 1) := by decide +kernel
theorem dX3_fallToCallByHalving_14 : decode cX3_fallToCallByHalving 14 = .ok (.iconst (-1), 1) := by decide +kernel
theorem dX3_fallToCallByHalving_15 : decode cX3_fallToCallByHalving 15 = .ok (.if_icmp .eq 7, 3) := by decide +kernel
theorem dX3_fallToCallByHalving_18 : decode cX3_fallToCallByHalving 18 = .ok (.iconst 1, 1) := by decide +kernel
theorem dX3_fallToCallByHalving_19 : decode cX3_fallToCallByHalving 19 = .ok (.goto 4, 3) := by decide +kernel
theorem dX3_fallToCallByHalving_22 : decode cX3_fallToCallByHalving 22 = .ok (.iconst 0, 1) := by decide +kernel
theorem dX3_fallToCallByHalving_23 : decode cX3_fallToCallByHalving 23 = .ok (.invokestatic 81, 3) := by decide +kernel
theorem dX3_fallToCallByHalving_26 : decode cX3_fallToCallByHalving 26 = .ok (.iload_n 2, 1) := by decide +kernel
theorem dX3_fallToCallByHalving_27 : decode cX3_fallToCallByHalving 27 = .ok (.ireturn, 1) := by decide +kernel
theorem dX3_hoursToCall_0 : decode cX3_hoursToCall 0 = .ok (.iload_n 1, 1) := by decide +kernel
theorem dX3_hoursToCall_1 : decode cX3_hoursToCall 1 = .ok (.invokestatic 70, 3) := by decide +kernel
theorem dX3_hoursToCall_4 : decode cX3_hoursToCall 4 = .ok (.aload_n 0, 1) := by decide +kernel
theorem dX3_hoursToCall_5 : decode cX3_hoursToCall 5 = .ok (.getfield 41, 3) := by decide +kernel
theorem dX3_hoursToCall_8 : decode cX3_hoursToCall 8 = .ok (.iload_n 1, 1) := by decide +kernel
theorem dX3_hoursToCall_9 : decode cX3_hoursToCall 9 = .ok (.invokevirtual 221, 3) := by decide +kernel
theorem dX3_hoursToCall_12 : decode cX3_hoursToCall 12 = .ok (.istore_n 2, 1) := by decide +kernel
theorem dX3_hoursToCall_13 : decode cX3_hoursToCall 13 = .ok (.iload_n 2, 1) := by decide +kernel
theorem dX3_hoursToCall_14 : decode cX3_hoursToCall 14 = .ok (.iconst (-1), 1) := by decide +kernel
theorem dX3_hoursToCall_15 : decode cX3_hoursToCall 15 = .ok (.if_icmp .eq 7, 3) := by decide +kernel
theorem dX3_hoursToCall_18 : decode cX3_hoursToCall 18 = .ok (.iconst 1, 1) := by decide +kernel
theorem dX3_hoursToCall_19 : decode cX3_hoursToCall 19 = .ok (.goto 4, 3) := by decide +kernel
theorem dX3_hoursToCall_22 : decode cX3_hoursToCall 22 = .ok (.iconst 0, 1) := by decide +kernel
theorem dX3_hoursToCall_23 : decode cX3_hoursToCall 23 = .ok (.invokestatic 81, 3) := by decide +kernel
theorem dX3_hoursToCall_26 : decode cX3_hoursToCall 26 = .ok (.iload_n 2, 1) := by decide +kernel
theorem dX3_hoursToCall_27 : decode cX3_hoursToCall 27 = .ok (.ireturn, 1) := by decide +kernel
theorem dX3_wouldSell_0 : decode cX3_wouldSell 0 = .ok (.iload_n 1, 1) := by decide +kernel
theorem dX3_wouldSell_1 : decode cX3_wouldSell 1 = .ok (.invokestatic 70, 3) := by decide +kernel
theorem dX3_wouldSell_4 : decode cX3_wouldSell 4 = .ok (.aload_n 0, 1) := by decide +kernel
theorem dX3_wouldSell_5 : decode cX3_wouldSell 5 = .ok (.getfield 19, 3) := by decide +kernel
theorem dX3_wouldSell_8 : decode cX3_wouldSell 8 = .ok (.aload_n 0, 1) := by decide +kernel
theorem dX3_wouldSell_9 : decode cX3_wouldSell 9 = .ok (.getfield 41, 3) := by decide +kernel
theorem dX3_wouldSell_12 : decode cX3_wouldSell 12 = .ok (.iload_n 1, 1) := by decide +kernel
theorem dX3_wouldSell_13 : decode cX3_wouldSell 13 = .ok (.invokevirtual 224, 3) := by decide +kernel
theorem dX3_wouldSell_16 : decode cX3_wouldSell 16 = .ok (.aload_n 0, 1) := by decide +kernel
theorem dX3_wouldSell_17 : decode cX3_wouldSell 17 = .ok (.getfield 19, 3) := by decide +kernel
theorem dX3_wouldSell_20 : decode cX3_wouldSell 20 = .ok (.getfield 228, 3) := by decide +kernel
theorem dX3_wouldSell_23 : decode cX3_wouldSell 23 = .ok (.ireturn, 1) := by decide +kernel
theorem dX3_wouldLose_0 : decode cX3_wouldLose 0 = .ok (.iload_n 1, 1) := by decide +kernel
theorem dX3_wouldLose_1 : decode cX3_wouldLose 1 = .ok (.invokestatic 70, 3) := by decide +kernel
theorem dX3_wouldLose_4 : decode cX3_wouldLose 4 = .ok (.aload_n 0, 1) := by decide +kernel
theorem dX3_wouldLose_5 : decode cX3_wouldLose 5 = .ok (.getfield 19, 3) := by decide +kernel
theorem dX3_wouldLose_8 : decode cX3_wouldLose 8 = .ok (.aload_n 0, 1) := by decide +kernel
theorem dX3_wouldLose_9 : decode cX3_wouldLose 9 = .ok (.getfield 41, 3) := by decide +kernel
theorem dX3_wouldLose_12 : decode cX3_wouldLose 12 = .ok (.iload_n 1, 1) := by decide +kernel
theorem dX3_wouldLose_13 : decode cX3_wouldLose 13 = .ok (.invokevirtual 224, 3) := by decide +kernel
theorem dX3_wouldLose_16 : decode cX3_wouldLose 16 = .ok (.aload_n 0, 1) := by decide +kernel
theorem dX3_wouldLose_17 : decode cX3_wouldLose 17 = .ok (.getfield 19, 3) := by decide +kernel
theorem dX3_wouldLose_20 : decode cX3_wouldLose 20 = .ok (.getfield 231, 3) := by decide +kernel
theorem dX3_wouldLose_23 : decode cX3_wouldLose 23 = .ok (.ireturn, 1) := by decide +kernel
theorem dX3_calledIfFallen_0 : decode cX3_calledIfFallen 0 = .ok (.iload_n 1, 1) := by decide +kernel
theorem dX3_calledIfFallen_1 : decode cX3_calledIfFallen 1 = .ok (.iconst 1, 1) := by decide +kernel
theorem dX3_calledIfFallen_2 : decode cX3_calledIfFallen 2 = .ok (.bipush 90, 2) := by decide +kernel
theorem dX3_calledIfFallen_4 : decode cX3_calledIfFallen 4 = .ok (.invokestatic 52, 3) := by decide +kernel
theorem dX3_calledIfFallen_7 : decode cX3_calledIfFallen 7 = .ok (.aload_n 0, 1) := by decide +kernel
theorem dX3_calledIfFallen_8 : decode cX3_calledIfFallen 8 = .ok (.getfield 41, 3) := by decide +kernel
theorem dX3_calledIfFallen_11 : decode cX3_calledIfFallen 11 = .ok (.iload_n 1, 1) := by decide +kernel
theorem dX3_calledIfFallen_12 : decode cX3_calledIfFallen 12 = .ok (.invokevirtual 234, 3) := by decide +kernel
theorem dX3_calledIfFallen_15 : decode cX3_calledIfFallen 15 = .ok (.ireturn, 1) := by decide +kernel
theorem dX3_hours_0 : decode cX3_hours 0 = .ok (.aload_n 0, 1) := by decide +kernel
theorem dX3_hours_1 : decode cX3_hours 1 = .ok (.getfield 41, 3) := by decide +kernel
theorem dX3_hours_4 : decode cX3_hours 4 = .ok (.getfield 237, 3) := by decide +kernel
theorem dX3_hours_7 : decode cX3_hours 7 = .ok (.ireturn, 1) := by decide +kernel
theorem dX3_debtsByClients_0 : decode cX3_debtsByClients 0 = .ok (.aload_n 0, 1) := by decide +kernel
theorem dX3_debtsByClients_1 : decode cX3_debtsByClients 1 = .ok (.getfield 41, 3) := by decide +kernel
theorem dX3_debtsByClients_4 : decode cX3_debtsByClients 4 = .ok (.invokevirtual 240, 3) := by decide +kernel
theorem dX3_debtsByClients_7 : decode cX3_debtsByClients 7 = .ok (.ireturn, 1) := by decide +kernel
theorem dX3_debtsByAccount_0 : decode cX3_debtsByAccount 0 = .ok (.aload_n 0, 1) := by decide +kernel
theorem dX3_debtsByAccount_1 : decode cX3_debtsByAccount 1 = .ok (.getfield 41, 3) := by decide +kernel
theorem dX3_debtsByAccount_4 : decode cX3_debtsByAccount 4 = .ok (.getfield 243, 3) := by decide +kernel
theorem dX3_debtsByAccount_7 : decode cX3_debtsByAccount 7 = .ok (.aload_n 0, 1) := by decide +kernel
theorem dX3_debtsByAccount_8 : decode cX3_debtsByAccount 8 = .ok (.getfield 41, 3) := by decide +kernel
theorem dX3_debtsByAccount_11 : decode cX3_debtsByAccount 11 = .ok (.getfield 246, 3) := by decide +kernel
theorem dX3_debtsByAccount_14 : decode cX3_debtsByAccount 14 = .ok (.iadd, 1) := by decide +kernel
theorem dX3_debtsByAccount_15 : decode cX3_debtsByAccount 15 = .ok (.aload_n 0, 1) := by decide +kernel
theorem dX3_debtsByAccount_16 : decode cX3_debtsByAccount 16 = .ok (.getfield 41, 3) := by decide +kernel
theorem dX3_debtsByAccount_19 : decode cX3_debtsByAccount 19 = .ok (.getfield 249, 3) := by decide +kernel
theorem dX3_debtsByAccount_22 : decode cX3_debtsByAccount 22 = .ok (.isub, 1) := by decide +kernel
theorem dX3_debtsByAccount_23 : decode cX3_debtsByAccount 23 = .ok (.aload_n 0, 1) := by decide +kernel
theorem dX3_debtsByAccount_24 : decode cX3_debtsByAccount 24 = .ok (.getfield 41, 3) := by decide +kernel
theorem dX3_debtsByAccount_27 : decode cX3_debtsByAccount 27 = .ok (.getfield 252, 3) := by decide +kernel
theorem dX3_debtsByAccount_30 : decode cX3_debtsByAccount 30 = .ok (.isub, 1) := by decide +kernel
theorem dX3_debtsByAccount_31 : decode cX3_debtsByAccount 31 = .ok (.ireturn, 1) := by decide +kernel
theorem dX3_lent_0 : decode cX3_lent 0 = .ok (.aload_n 0, 1) := by decide +kernel
theorem dX3_lent_1 : decode cX3_lent 1 = .ok (.getfield 41, 3) := by decide +kernel
theorem dX3_lent_4 : decode cX3_lent 4 = .ok (.getfield 243, 3) := by decide +kernel
theorem dX3_lent_7 : decode cX3_lent 7 = .ok (.ireturn, 1) := by decide +kernel
theorem dX3_interest_0 : decode cX3_interest 0 = .ok (.aload_n 0, 1) := by decide +kernel
theorem dX3_interest_1 : decode cX3_interest 1 = .ok (.getfield 41, 3) := by decide +kernel
theorem dX3_interest_4 : decode cX3_interest 4 = .ok (.getfield 246, 3) := by decide +kernel
theorem dX3_interest_7 : decode cX3_interest 7 = .ok (.ireturn, 1) := by decide +kernel
theorem dX3_repaid_0 : decode cX3_repaid 0 = .ok (.aload_n 0, 1) := by decide +kernel
theorem dX3_repaid_1 : decode cX3_repaid 1 = .ok (.getfield 41, 3) := by decide +kernel
theorem dX3_repaid_4 : decode cX3_repaid 4 = .ok (.getfield 249, 3) := by decide +kernel
theorem dX3_repaid_7 : decode cX3_repaid 7 = .ok (.ireturn, 1) := by decide +kernel
theorem dX3_lost_0 : decode cX3_lost 0 = .ok (.aload_n 0, 1) := by decide +kernel
theorem dX3_lost_1 : decode cX3_lost 1 = .ok (.getfield 41, 3) := by decide +kernel
theorem dX3_lost_4 : decode cX3_lost 4 = .ok (.getfield 252, 3) := by decide +kernel
theorem dX3_lost_7 : decode cX3_lost 7 = .ok (.ireturn, 1) := by decide +kernel
theorem dX3_calls_0 : decode cX3_calls 0 = .ok (.aload_n 0, 1) := by decide +kernel
theorem dX3_calls_1 : decode cX3_calls 1 = .ok (.getfield 41, 3) := by decide +kernel
theorem dX3_calls_4 : decode cX3_calls 4 = .ok (.getfield 255, 3) := by decide +kernel
theorem dX3_calls_7 : decode cX3_calls 7 = .ok (.ireturn, 1) := by decide +kernel
theorem dX3_soldOut_0 : decode cX3_soldOut 0 = .ok (.aload_n 0, 1) := by decide +kernel
theorem dX3_soldOut_1 : decode cX3_soldOut 1 = .ok (.getfield 41, 3) := by decide +kernel
theorem dX3_soldOut_4 : decode cX3_soldOut 4 = .ok (.getfield 258, 3) := by decide +kernel
theorem dX3_soldOut_7 : decode cX3_soldOut 7 = .ok (.ireturn, 1) := by decide +kernel
theorem dX3_usedShare_0 : decode cX3_usedShare 0 = .ok (.aload_n 0, 1) := by decide +kernel
theorem dX3_usedShare_1 : decode cX3_usedShare 1 = .ok (.getfield 41, 3) := by decide +kernel
theorem dX3_usedShare_4 : decode cX3_usedShare 4 = .ok (.invokevirtual 261, 3) := by decide +kernel
theorem dX3_usedShare_7 : decode cX3_usedShare 7 = .ok (.istore_n 1, 1) := by decide +kernel
theorem dX3_usedShare_8 : decode cX3_usedShare 8 = .ok (.iload_n 1, 1) := by decide +kernel
theorem dX3_usedShare_9 : decode cX3_usedShare 9 = .ok (.ifCond .ne 7, 3) := by decide +kernel
theorem dX3_usedShare_12 : decode cX3_usedShare 12 = .ok (.dconst 0, 1) := by decide +kernel
theorem dX3_usedShare_13 : decode cX3_usedShare 13 = .ok (.goto 14, 3) := by decide +kernel
theorem dX3_usedShare_16 : decode cX3_usedShare 16 = .ok (.aload_n 0, 1) := by decide +kernel
theorem dX3_usedShare_17 : decode cX3_usedShare 17 = .ok (.getfield 41, 3) := by decide +kernel
theorem dX3_usedShare_20 : decode cX3_usedShare 20 = .ok (.invokevirtual 240, 3) := by decide +kernel
theorem dX3_usedShare_23 : decode cX3_usedShare 23 = .ok (.i2d, 1) := by decide +kernel
theorem dX3_usedShare_24 : decode cX3_usedShare 24 = .ok (.iload_n 1, 1) := by decide +kernel
theorem dX3_usedShare_25 : decode cX3_usedShare 25 = .ok (.i2d, 1) := by decide +kernel
theorem dX3_usedShare_26 : decode cX3_usedShare 26 = .ok (.ddiv, 1) := by decide +kernel
theorem dX3_usedShare_27 : decode cX3_usedShare 27 = .ok (.dreturn, 1) := by decide +kernel
theorem dX3_save_0 : decode cX3_save 0 = .ok (.aload_n 0, 1) := by decide +kernel
theorem dX3_save_1 : decode cX3_save 1 = .ok (.getfield 45, 3) := by decide +kernel
theorem dX3_save_4 : decode cX3_save 4 = .ok (.aload_n 0, 1) := by decide +kernel
theorem dX3_save_5 : decode cX3_save 5 = .ok (.getfield 41, 3) := by decide +kernel
theorem dX3_save_8 : decode cX3_save 8 = .ok (.invokevirtual 73, 3) := by decide +kernel
theorem dX3_save_11 : decode cX3_save 11 = .ok (.aload_n 0, 1) := by decide +kernel
theorem dX3_save_12 : decode cX3_save 12 = .ok (.invokevirtual 85, 3) := by decide +kernel
theorem dX3_save_15 : decode cX3_save 15 = .ok (.return_, 1) := by decide +kernel
theorem dX3_saveBefore_0 : decode cX3_saveBefore 0 = .ok (.aload_n 0, 1) := by decide +kernel
theorem dX3_saveBefore_1 : decode cX3_saveBefore 1 = .ok (.getfield 172, 3) := by decide +kernel
theorem dX3_saveBefore_4 : decode cX3_saveBefore 4 = .ok (.bipush 6, 2) := by decide +kernel
theorem dX3_saveBefore_6 : decode cX3_saveBefore 6 = .ok (.if_icmp .ge 26, 3) := by decide +kernel
theorem dX3_saveBefore_9 : decode cX3_saveBefore 9 = .ok (.aload_n 0, 1) := by decide +kernel
theorem dX3_saveBefore_10 : decode cX3_saveBefore 10 = .ok (.getfield 37, 3) := by decide +kernel
theorem dX3_saveBefore_13 : decode cX3_saveBefore 13 = .ok (.aload_n 0, 1) := by decide +kernel
theorem dX3_saveBefore_14 : decode cX3_saveBefore 14 = .ok (.getfield 172, 3) := by decide +kernel
theorem dX3_saveBefore_17 : decode cX3_saveBefore 17 = .ok (.aaload, 1) := by decide +kernel
theorem dX3_saveBefore_18 : decode cX3_saveBefore 18 = .ok (.astore_n 1, 1) := by decide +kernel
theorem dX3_saveBefore_19 : decode cX3_saveBefore 19 = .ok (.aload_n 0, 1) := by decide +kernel
theorem dX3_saveBefore_20 : decode cX3_saveBefore 20 = .ok (.dup, 1) := by decide +kernel
theorem dX3_saveBefore_21 : decode cX3_saveBefore 21 = .ok (.getfield 172, 3) := by decide +kernel
theorem dX3_saveBefore_24 : decode cX3_saveBefore 24 = .ok (.iconst 1, 1) := by decide +kernel
theorem dX3_saveBefore_25 : decode cX3_saveBefore 25 = .ok (.iadd, 1) := by decide +kernel
theorem dX3_saveBefore_26 : decode cX3_saveBefore 26 = .ok (.putfield 172, 3) := by decide +kernel
theorem dX3_saveBefore_29 : decode cX3_saveBefore 29 = .ok (.goto 38, 3) := by decide +kernel
theorem dX3_saveBefore_32 : decode cX3_saveBefore 32 = .ok (.aload_n 0, 1) := by decide +kernel
theorem dX3_saveBefore_33 : decode cX3_saveBefore 33 = .ok (.getfield 37, 3) := by decide +kernel
theorem dX3_saveBefore_36 : decode cX3_saveBefore 36 = .ok (.iconst 0, 1) := by decide +kernel
theorem dX3_saveBefore_37 : decode cX3_saveBefore 37 = .ok (.aaload, 1) := by decide +kernel
theorem dX3_saveBefore_38 : decode cX3_saveBefore 38 = .ok (.astore_n 1, 1) := by decide +kernel
theorem dX3_saveBefore_39 : decode cX3_saveBefore 39 = .ok (.iconst 1, 1) := by decide +kernel
theorem dX3_saveBefore_40 : decode cX3_saveBefore 40 = .ok (.istore_n 2, 1) := by decide +kernel
theorem dX3_saveBefore_41 : decode cX3_saveBefore 41 = .ok (.iload_n 2, 1) := by decide +kernel
theorem dX3_saveBefore_42 : decode cX3_saveBefore 42 = .ok (.bipush 6, 2) := by decide +kernel
theorem dX3_saveBefore_44 : decode cX3_saveBefore 44 = .ok (.if_icmp .ge 23, 3) := by decide +kernel
theorem dX3_saveBefore_47 : decode cX3_saveBefore 47 = .ok (.aload_n 0, 1) := by decide +kernel
theorem dX3_saveBefore_48 : decode cX3_saveBefore 48 = .ok (.getfield 37, 3) := by decide +kernel
theorem dX3_saveBefore_51 : decode cX3_saveBefore 51 = .ok (.iload_n 2, 1) := by decide +kernel
theorem dX3_saveBefore_52 : decode cX3_saveBefore 52 = .ok (.iconst 1, 1) := by decide +kernel
theorem dX3_saveBefore_53 : decode cX3_saveBefore 53 = .ok (.isub, 1) := by decide +kernel
theorem dX3_saveBefore_54 : decode cX3_saveBefore 54 = .ok (.aload_n 0, 1) := by decide +kernel
theorem dX3_saveBefore_55 : decode cX3_saveBefore 55 = .ok (.getfield 37, 3) := by decide +kernel
theorem dX3_saveBefore_58 : decode cX3_saveBefore 58 = .ok (.iload_n 2, 1) := by decide +kernel
theorem dX3_saveBefore_59 : decode cX3_saveBefore 59 = .ok (.aaload, 1) := by decide +kernel
theorem dX3_saveBefore_60 : decode cX3_saveBefore 60 = .ok (.aastore, 1) := by decide +kernel
theorem dX3_saveBefore_61 : decode cX3_saveBefore 61 = .ok (.iinc 2 1, 3) := by decide +kernel
theorem dX3_saveBefore_64 : decode cX3_saveBefore 64 = .ok (.goto (-23), 3) := by decide +kernel
theorem dX3_saveBefore_67 : decode cX3_saveBefore 67 = .ok (.aload_n 0, 1) := by decide +kernel
theorem dX3_saveBefore_68 : decode cX3_saveBefore 68 = .ok (.getfield 37, 3) := by decide +kernel
theorem dX3_saveBefore_71 : decode cX3_saveBefore 71 = .ok (.aload_n 0, 1) := by decide +kernel
theorem dX3_saveBefore_72 : decode cX3_saveBefore 72 = .ok (.getfield 172, 3) := by decide +kernel
theorem dX3_saveBefore_75 : decode cX3_saveBefore 75 = .ok (.iconst 1, 1) := by decide +kernel
theorem dX3_saveBefore_76 : decode cX3_saveBefore 76 = .ok (.isub, 1) := by decide +kernel
theorem dX3_saveBefore_77 : decode cX3_saveBefore 77 = .ok (.aload_n 0, 1) := by decide +kernel
theorem dX3_saveBefore_78 : decode cX3_saveBefore 78 = .ok (.getfield 45, 3) := by decide +kernel
theorem dX3_saveBefore_81 : decode cX3_saveBefore 81 = .ok (.aastore, 1) := by decide +kernel
theorem dX3_saveBefore_82 : decode cX3_saveBefore 82 = .ok (.aload_n 0, 1) := by decide +kernel
theorem dX3_saveBefore_83 : decode cX3_saveBefore 83 = .ok (.aload_n 1, 1) := by decide +kernel
theorem dX3_saveBefore_84 : decode cX3_saveBefore 84 = .ok (.putfield 45, 3) := by decide +kernel
theorem dX3_saveBefore_87 : decode cX3_saveBefore 87 = .ok (.return_, 1) := by decide +kernel
theorem dX3_at_0 : decode cX3_at 0 = .ok (.iload_n 0, 1) := by decide +kernel
theorem dX3_at_1 : decode cX3_at 1 = .ok (.bipush 6, 2) := by decide +kernel
theorem dX3_at_3 : decode cX3_at 3 = .ok (.imul, 1) := by decide +kernel
theorem dX3_at_4 : decode cX3_at 4 = .ok (.iload_n 1, 1) := by decide +kernel
theorem dX3_at_5 : decode cX3_at 5 = .ok (.iadd, 1) := by decide +kernel
theorem dX3_at_6 : decode cX3_at 6 = .ok (.ireturn, 1) := by decide +kernel
theorem dX3_fallen_0 : decode cX3_fallen 0 = .ok (.iload_n 0, 1) := by decide +kernel
theorem dX3_fallen_1 : decode cX3_fallen 1 = .ok (.bipush 100, 2) := by decide +kernel
theorem dX3_fallen_3 : decode cX3_fallen 3 = .ok (.iload_n 1, 1) := by decide +kernel
theorem dX3_fallen_4 : decode cX3_fallen 4 = .ok (.isub, 1) := by decide +kernel
theorem dX3_fallen_5 : decode cX3_fallen 5 = .ok (.imul, 1) := by decide +kernel
theorem dX3_fallen_6 : decode cX3_fallen 6 = .ok (.bipush 100, 2) := by decide +kernel
theorem dX3_fallen_8 : decode cX3_fallen 8 = .ok (.idiv, 1) := by decide +kernel
theorem dX3_fallen_9 : decode cX3_fallen 9 = .ok (.istore_n 3, 1) := by decide +kernel
theorem dX3_fallen_10 : decode cX3_fallen 10 = .ok (.iload_n 3, 1) := by decide +kernel
theorem dX3_fallen_11 : decode cX3_fallen 11 = .ok (.iload_n 2, 1) := by decide +kernel
theorem dX3_fallen_12 : decode cX3_fallen 12 = .ok (.if_icmp .ge 7, 3) := by decide +kernel
theorem dX3_fallen_15 : decode cX3_fallen 15 = .ok (.iload_n 2, 1) := by decide +kernel
theorem dX3_fallen_16 : decode cX3_fallen 16 = .ok (.goto 4, 3) := by decide +kernel
theorem dX3_fallen_19 : decode cX3_fallen 19 = .ok (.iload_n 3, 1) := by decide +kernel
theorem dX3_fallen_20 : decode cX3_fallen 20 = .ok (.ireturn, 1) := by decide +kernel
theorem dX3_needKind_0 : decode cX3_needKind 0 = .ok (.iload_n 0, 1) := by decide +kernel
theorem dX3_needKind_1 : decode cX3_needKind 1 = .ok (.ifCond .lt 9, 3) := by decide +kernel
theorem dX3_needKind_4 : decode cX3_needKind 4 = .ok (.iload_n 0, 1) := by decide +kernel
theorem dX3_needKind_5 : decode cX3_needKind 5 = .ok (.bipush 6, 2) := by decide +kernel
theorem dX3_needKind_7 : decode cX3_needKind 7 = .ok (.if_icmp .lt 11, 3) := by decide +kernel
theorem dX3_needKind_10 : decode cX3_needKind 10 = .ok (.new 322, 3) := by decide +kernel
theorem dX3_needKind_13 : decode cX3_needKind 13 = .ok (.dup, 1) := by decide +kernel
theorem dX3_needKind_14 : decode cX3_needKind 14 = .ok (.invokespecial 324, 3) := by decide +kernel
theorem dX3_needKind_17 : decode cX3_needKind 17 = .ok (.athrow, 1) := by decide +kernel
theorem dX3_needKind_18 : decode cX3_needKind 18 = .ok (.return_, 1) := by decide +kernel
theorem dX3_needClient_0 : decode cX3_needClient 0 = .ok (.iload_n 0, 1) := by decide +kernel
theorem dX3_needClient_1 : decode cX3_needClient 1 = .ok (.ifCond .lt 9, 3) := by decide +kernel
theorem dX3_needClient_4 : decode cX3_needClient 4 = .ok (.iload_n 0, 1) := by decide +kernel
theorem dX3_needClient_5 : decode cX3_needClient 5 = .ok (.bipush 8, 2) := by decide +kernel
theorem dX3_needClient_7 : decode cX3_needClient 7 = .ok (.if_icmp .lt 11, 3) := by decide +kernel
theorem dX3_needClient_10 : decode cX3_needClient 10 = .ok (.new 322, 3) := by decide +kernel
theorem dX3_needClient_13 : decode cX3_needClient 13 = .ok (.dup, 1) := by decide +kernel
theorem dX3_needClient_14 : decode cX3_needClient 14 = .ok (.invokespecial 324, 3) := by decide +kernel
theorem dX3_needClient_17 : decode cX3_needClient 17 = .ok (.athrow, 1) := by decide +kernel
theorem dX3_needClient_18 : decode cX3_needClient 18 = .ok (.return_, 1) := by decide +kernel
theorem dX3_needPlace_0 : decode cX3_needPlace 0 = .ok (.iload_n 0, 1) := by decide +kernel
theorem dX3_needPlace_1 : decode cX3_needPlace 1 = .ok (.ifCond .lt 9, 3) := by decide +kernel
theorem dX3_needPlace_4 : decode cX3_needPlace 4 = .ok (.iload_n 0, 1) := by decide +kernel
theorem dX3_needPlace_5 : decode cX3_needPlace 5 = .ok (.bipush 8, 2) := by decide +kernel
theorem dX3_needPlace_7 : decode cX3_needPlace 7 = .ok (.if_icmp .lt 11, 3) := by decide +kernel
theorem dX3_needPlace_10 : decode cX3_needPlace 10 = .ok (.new 322, 3) := by decide +kernel
theorem dX3_needPlace_13 : decode cX3_needPlace 13 = .ok (.dup, 1) := by decide +kernel
theorem dX3_needPlace_14 : decode cX3_needPlace 14 = .ok (.invokespecial 324, 3) := by decide +kernel
theorem dX3_needPlace_17 : decode cX3_needPlace 17 = .ok (.athrow, 1) := by decide +kernel
theorem dX3_needPlace_18 : decode cX3_needPlace 18 = .ok (.return_, 1) := by decide +kernel
theorem dX3_needRange_0 : decode cX3_needRange 0 = .ok (.iload_n 0, 1) := by decide +kernel
theorem dX3_needRange_1 : decode cX3_needRange 1 = .ok (.iload_n 1, 1) := by decide +kernel
theorem dX3_needRange_2 : decode cX3_needRange 2 = .ok (.if_icmp .lt 8, 3) := by decide +kernel
theorem dX3_needRange_5 : decode cX3_needRange 5 = .ok (.iload_n 0, 1) := by decide +kernel
theorem dX3_needRange_6 : decode cX3_needRange 6 = .ok (.iload_n 2, 1) := by decide +kernel
theorem dX3_needRange_7 : decode cX3_needRange 7 = .ok (.if_icmp .le 11, 3) := by decide +kernel
theorem dX3_needRange_10 : decode cX3_needRange 10 = .ok (.new 154, 3) := by decide +kernel
theorem dX3_needRange_13 : decode cX3_needRange 13 = .ok (.dup, 1) := by decide +kernel
theorem dX3_needRange_14 : decode cX3_needRange 14 = .ok (.invokespecial 156, 3) := by decide +kernel
theorem dX3_needRange_17 : decode cX3_needRange 17 = .ok (.athrow, 1) := by decide +kernel
theorem dX3_needRange_18 : decode cX3_needRange 18 = .ok (.return_, 1) := by decide +kernel
theorem dX3_need_0 : decode cX3_need 0 = .ok (.iload_n 0, 1) := by decide +kernel
theorem dX3_need_1 : decode cX3_need 1 = .ok (.ifCond .ne 11, 3) := by decide +kernel
theorem dX3_need_4 : decode cX3_need 4 = .ok (.new 140, 3) := by decide +kernel
theorem dX3_need_7 : decode cX3_need 7 = .ok (.dup, 1) := by decide +kernel
theorem dX3_need_8 : decode cX3_need 8 = .ok (.invokespecial 142, 3) := by decide +kernel
theorem dX3_need_11 : decode cX3_need 11 = .ok (.athrow, 1) := by decide +kernel
theorem dX3_need_12 : decode cX3_need 12 = .ok (.return_, 1) := by decide +kernel
