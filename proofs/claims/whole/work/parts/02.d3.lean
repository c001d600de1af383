theorem dX3_init_0 : decode cX3_init 0 = .ok (.aload_n 0, 1) := by decide +kernel
theorem dX3_init_1 : decode cX3_init 1 = .ok (.invokespecial 1, 3) := by decide +kernel
theorem dX3_init_4 : decode cX3_init 4 = .ok (.aload_n 0, 1) := by decide +kernel
theorem dX3_init_5 : decode cX3_init 5 = .ok (.new 7, 3) := by decide +kernel
theorem dX3_init_8 : decode cX3_init 8 = .ok (.dup, 1) := by decide +kernel
theorem dX3_init_9 : decode cX3_init 9 = .ok (.invokespecial 9, 3) := by decide +kernel
theorem dX3_init_12 : decode cX3_init 12 = .ok (.putfield 10, 3) := by decide +kernel
theorem dX3_init_15 : decode cX3_init 15 = .ok (.aload_n 0, 1) := by decide +kernel
theorem dX3_init_16 : decode cX3_init 16 = .ok (.new 16, 3) := by decide +kernel
theorem dX3_init_19 : decode cX3_init 19 = .ok (.dup, 1) := by decide +kernel
theorem dX3_init_20 : decode cX3_init 20 = .ok (.invokespecial 18, 3) := by decide +kernel
theorem dX3_init_23 : decode cX3_init 23 = .ok (.putfield 19, 3) := by decide +kernel
theorem dX3_init_26 : decode cX3_init 26 = .ok (.aload_n 0, 1) := by decide +kernel
theorem dX3_init_27 : decode cX3_init 27 = .ok (.bipush 8, 2) := by decide +kernel
theorem dX3_init_29 : decode cX3_init 29 = .ok (.newarray .int, 2) := by decide +kernel
theorem dX3_init_31 : decode cX3_init 31 = .ok (.putfield 23, 3) := by decide +kernel
theorem dX3_init_34 : decode cX3_init 34 = .ok (.aload_n 0, 1) := by decide +kernel
theorem dX3_init_35 : decode cX3_init 35 = .ok (.iconst 2, 1) := by decide +kernel
theorem dX3_init_36 : decode cX3_init 36 = .ok (.anewarray 27, 3) := by decide +kernel
theorem dX3_init_39 : decode cX3_init 39 = .ok (.putfield 29, 3) := by decide +kernel
theorem dX3_init_42 : decode cX3_init 42 = .ok (.aload_n 0, 1) := by decide +kernel
theorem dX3_init_43 : decode cX3_init 43 = .ok (.iconst 2, 1) := by decide +kernel
theorem dX3_init_44 : decode cX3_init 44 = .ok (.newarray .boolean, 2) := by decide +kernel
theorem dX3_init_46 : decode cX3_init 46 = .ok (.putfield 33, 3) := by decide +kernel
theorem dX3_init_49 : decode cX3_init 49 = .ok (.aload_n 0, 1) := by decide +kernel
theorem dX3_init_50 : decode cX3_init 50 = .ok (.bipush 6, 2) := by decide +kernel
theorem dX3_init_52 : decode cX3_init 52 = .ok (.anewarray 27, 3) := by decide +kernel
theorem dX3_init_55 : decode cX3_init 55 = .ok (.putfield 37, 3) := by decide +kernel
theorem dX3_init_58 : decode cX3_init 58 = .ok (.aload_n 0, 1) := by decide +kernel
theorem dX3_init_59 : decode cX3_init 59 = .ok (.new 27, 3) := by decide +kernel
theorem dX3_init_62 : decode cX3_init 62 = .ok (.dup, 1) := by decide +kernel
theorem dX3_init_63 : decode cX3_init 63 = .ok (.invokespecial 40, 3) := by decide +kernel
theorem dX3_init_66 : decode cX3_init 66 = .ok (.putfield 41, 3) := by decide +kernel
theorem dX3_init_69 : decode cX3_init 69 = .ok (.aload_n 0, 1) := by decide +kernel
theorem dX3_init_70 : decode cX3_init 70 = .ok (.new 27, 3) := by decide +kernel
theorem dX3_init_73 : decode cX3_init 73 = .ok (.dup, 1) := by decide +kernel
theorem dX3_init_74 : decode cX3_init 74 = .ok (.invokespecial 40, 3) := by decide +kernel
theorem dX3_init_77 : decode cX3_init 77 = .ok (.putfield 45, 3) := by decide +kernel
theorem dX3_init_80 : decode cX3_init 80 = .ok (.iconst 0, 1) := by decide +kernel
theorem dX3_init_81 : decode cX3_init 81 = .ok (.istore_n 1, 1) := by decide +kernel
theorem dX3_init_82 : decode cX3_init 82 = .ok (.iload_n 1, 1) := by decide +kernel
theorem dX3_init_83 : decode cX3_init 83 = .ok (.iconst 2, 1) := by decide +kernel
theorem dX3_init_84 : decode cX3_init 84 = .ok (.if_icmp .ge 22, 3) := by decide +kernel
theorem dX3_init_87 : decode cX3_init 87 = .ok (.aload_n 0, 1) := by decide +kernel
theorem dX3_init_88 : decode cX3_init 88 = .ok (.getfield 29, 3) := by decide +kernel
theorem dX3_init_91 : decode cX3_init 91 = .ok (.iload_n 1, 1) := by decide +kernel
theorem dX3_init_92 : decode cX3_init 92 = .ok (.new 27, 3) := by decide +kernel
theorem dX3_init_95 : decode cX3_init 95 = .ok (.dup, 1) := by decide +kernel
theorem dX3_init_96 : decode cX3_init 96 = .ok (.invokespecial 40, 3) := by decide +kernel
theorem dX3_init_99 : decode cX3_init 99 = .ok (.aastore, 1) := by decide +kernel
theorem dX3_init_100 : decode cX3_init 100 = .ok (.iinc 1 1, 3) := by decide +kernel
theorem dX3_init_103 : decode cX3_init 103 = .ok (.goto (-21), 3) := by decide +kernel
theorem dX3_init_106 : decode cX3_init 106 = .ok (.iconst 0, 1) := by decide +kernel
theorem dX3_init_107 : decode cX3_init 107 = .ok (.istore_n 1, 1) := by decide +kernel
theorem dX3_init_108 : decode cX3_init 108 = .ok (.iload_n 1, 1) := by decide +kernel
theorem dX3_init_109 : decode cX3_init 109 = .ok (.bipush 6, 2) := by decide +kernel
theorem dX3_init_111 : decode cX3_init 111 = .ok (.if_icmp .ge 22, 3) := by decide +kernel
theorem dX3_init_114 : decode cX3_init 114 = .ok (.aload_n 0, 1) := by decide +kernel
theorem dX3_init_115 : decode cX3_init 115 = .ok (.getfield 37, 3) := by decide +kernel
theorem dX3_init_118 : decode cX3_init 118 = .ok (.iload_n 1, 1) := by decide +kernel
theorem dX3_init_119 : decode cX3_init 119 = .ok (.new 27, 3) := by decide +kernel
theorem dX3_init_122 : decode cX3_init 122 = .ok (.dup, 1) := by decide +kernel
theorem dX3_init_123 : decode cX3_init 123 = .ok (.invokespecial 40, 3) := by decide +kernel
theorem dX3_init_126 : decode cX3_init 126 = .ok (.aastore, 1) := by decide +kernel
theorem dX3_init_127 : decode cX3_init 127 = .ok (.iinc 1 1, 3) := by decide +kernel
theorem dX3_init_130 : decode cX3_init 130 = .ok (.goto (-22), 3) := by decide +kernel
theorem dX3_init_133 : decode cX3_init 133 = .ok (.return_, 1) := by decide +kernel
theorem dX3_setPrice_0 : decode cX3_setPrice 0 = .ok (.iload_n 1, 1) := by decide +kernel
theorem dX3_setPrice_1 : decode cX3_setPrice 1 = .ok (.invokestatic 48, 3) := by decide +kernel
theorem dX3_setPrice_4 : decode cX3_setPrice 4 = .ok (.iload_n 2, 1) := by decide +kernel
theorem dX3_setPrice_5 : decode cX3_setPrice 5 = .ok (.iconst 1, 1) := by decide +kernel
theorem dX3_setPrice_6 : decode cX3_setPrice 6 = .ok (.sipush 500, 3) := by decide +kernel
theorem dX3_setPrice_9 : decode cX3_setPrice 9 = .ok (.invokestatic 52, 3) := by decide +kernel
theorem dX3_setPrice_12 : decode cX3_setPrice 12 = .ok (.aload_n 0, 1) := by decide +kernel
theorem dX3_setPrice_13 : decode cX3_setPrice 13 = .ok (.invokevirtual 56, 3) := by decide +kernel
theorem dX3_setPrice_16 : decode cX3_setPrice 16 = .ok (.aload_n 0, 1) := by decide +kernel
theorem dX3_setPrice_17 : decode cX3_setPrice 17 = .ok (.getfield 41, 3) := by decide +kernel
theorem dX3_setPrice_20 : decode cX3_setPrice 20 = .ok (.iload_n 1, 1) := by decide +kernel
theorem dX3_setPrice_21 : decode cX3_setPrice 21 = .ok (.iload_n 2, 1) := by decide +kernel
theorem dX3_setPrice_22 : decode cX3_setPrice 22 = .ok (.invokevirtual 59, 3) := by decide +kernel
theorem dX3_setPrice_25 : decode cX3_setPrice 25 = .ok (.ireturn, 1) := by decide +kernel
theorem dX3_setCut_0 : decode cX3_setCut 0 = .ok (.iload_n 1, 1) := by decide +kernel
theorem dX3_setCut_1 : decode cX3_setCut 1 = .ok (.invokestatic 48, 3) := by decide +kernel
theorem dX3_setCut_4 : decode cX3_setCut 4 = .ok (.iload_n 2, 1) := by decide +kernel
theorem dX3_setCut_5 : decode cX3_setCut 5 = .ok (.iconst 0, 1) := by decide +kernel
theorem dX3_setCut_6 : decode cX3_setCut 6 = .ok (.bipush 90, 2) := by decide +kernel
theorem dX3_setCut_8 : decode cX3_setCut 8 = .ok (.invokestatic 52, 3) := by decide +kernel
theorem dX3_setCut_11 : decode cX3_setCut 11 = .ok (.aload_n 0, 1) := by decide +kernel
theorem dX3_setCut_12 : decode cX3_setCut 12 = .ok (.invokevirtual 56, 3) := by decide +kernel
theorem dX3_setCut_15 : decode cX3_setCut 15 = .ok (.aload_n 0, 1) := by decide +kernel
theorem dX3_setCut_16 : decode cX3_setCut 16 = .ok (.getfield 41, 3) := by decide +kernel
theorem dX3_setCut_19 : decode cX3_setCut 19 = .ok (.iload_n 1, 1) := by decide +kernel
theorem dX3_setCut_20 : decode cX3_setCut 20 = .ok (.iload_n 2, 1) := by decide +kernel
theorem dX3_setCut_21 : decode cX3_setCut 21 = .ok (.invokevirtual 63, 3) := by decide +kernel
theorem dX3_setCut_24 : decode cX3_setCut 24 = .ok (.ireturn, 1) := by decide +kernel
theorem dX3_fall_0 : decode cX3_fall 0 = .ok (.iload_n 1, 1) := by decide +kernel
theorem dX3_fall_1 : decode cX3_fall 1 = .ok (.iconst 1, 1) := by decide +kernel
theorem dX3_fall_2 : decode cX3_fall 2 = .ok (.bipush 90, 2) := by decide +kernel
theorem dX3_fall_4 : decode cX3_fall 4 = .ok (.invokestatic 52, 3) := by decide +kernel
theorem dX3_fall_7 : decode cX3_fall 7 = .ok (.aload_n 0, 1) := by decide +kernel
theorem dX3_fall_8 : decode cX3_fall 8 = .ok (.invokevirtual 56, 3) := by decide +kernel
theorem dX3_fall_11 : decode cX3_fall 11 = .ok (.aload_n 0, 1) := by decide +kernel
theorem dX3_fall_12 : decode cX3_fall 12 = .ok (.getfield 41, 3) := by decide +kernel
theorem dX3_fall_15 : decode cX3_fall 15 = .ok (.iload_n 1, 1) := by decide +kernel
theorem dX3_fall_16 : decode cX3_fall 16 = .ok (.invokevirtual 66, 3) := by decide +kernel
theorem dX3_fall_19 : decode cX3_fall 19 = .ok (.ireturn, 1) := by decide +kernel
theorem dX3_pledge_0 : decode cX3_pledge 0 = .ok (.iload_n 1, 1) := by decide +kernel
theorem dX3_pledge_1 : decode cX3_pledge 1 = .ok (.invokestatic 70, 3) := by decide +kernel
theorem dX3_pledge_4 : decode cX3_pledge 4 = .ok (.iload_n 2, 1) := by decide +kernel
theorem dX3_pledge_5 : decode cX3_pledge 5 = .ok (.invokestatic 48, 3) := by decide +kernel
theorem dX3_pledge_8 : decode cX3_pledge 8 = .ok (.iload_n 3, 1) := by decide +kernel
theorem dX3_pledge_9 : decode cX3_pledge 9 = .ok (.iconst 1, 1) := by decide +kernel
theorem dX3_pledge_10 : decode cX3_pledge 10 = .ok (.bipush 50, 2) := by decide +kernel
theorem dX3_pledge_12 : decode cX3_pledge 12 = .ok (.invokestatic 52, 3) := by decide +kernel
theorem dX3_pledge_15 : decode cX3_pledge 15 = .ok (.aload_n 0, 1) := by decide +kernel
theorem dX3_pledge_16 : decode cX3_pledge 16 = .ok (.getfield 45, 3) := by decide +kernel
theorem dX3_pledge_19 : decode cX3_pledge 19 = .ok (.aload_n 0, 1) := by decide +kernel
theorem dX3_pledge_20 : decode cX3_pledge 20 = .ok (.getfield 41, 3) := by decide +kernel
theorem dX3_pledge_23 : decode cX3_pledge 23 = .ok (.invokevirtual 73, 3) := by decide +kernel
theorem dX3_pledge_26 : decode cX3_pledge 26 = .ok (.aload_n 0, 1) := by decide +kernel
theorem dX3_pledge_27 : decode cX3_pledge 27 = .ok (.getfield 41, 3) := by decide +kernel
theorem dX3_pledge_30 : decode cX3_pledge 30 = .ok (.iload_n 1, 1) := by decide +kernel
theorem dX3_pledge_31 : decode cX3_pledge 31 = .ok (.iload_n 2, 1) := by decide +kernel
theorem dX3_pledge_32 : decode cX3_pledge 32 = .ok (.iload_n 3, 1) := by decide +kernel
theorem dX3_pledge_33 : decode cX3_pledge 33 = .ok (.invokevirtual 77, 3) := by decide +kernel
theorem dX3_pledge_36 : decode cX3_pledge 36 = .ok (.invokestatic 81, 3) := by decide +kernel
theorem dX3_pledge_39 : decode cX3_pledge 39 = .ok (.aload_n 0, 1) := by decide +kernel
theorem dX3_pledge_40 : decode cX3_pledge 40 = .ok (.invokevirtual 85, 3) := by decide +kernel
theorem dX3_pledge_43 : decode cX3_pledge 43 = .ok (.aload_n 0, 1) := by decide +kernel
theorem dX3_pledge_44 : decode cX3_pledge 44 = .ok (.getfield 41, 3) := by decide +kernel
theorem dX3_pledge_47 : decode cX3_pledge 47 = .ok (.getfield 88, 3) := by decide +kernel
theorem dX3_pledge_50 : decode cX3_pledge 50 = .ok (.iload_n 1, 1) := by decide +kernel
theorem dX3_pledge_51 : decode cX3_pledge 51 = .ok (.iload_n 2, 1) := by decide +kernel
theorem dX3_pledge_52 : decode cX3_pledge 52 = .ok (.invokestatic 91, 3) := by decide +kernel
theorem dX3_pledge_55 : decode cX3_pledge 55 = .ok (.iaload, 1) := by decide +kernel
theorem dX3_pledge_56 : decode cX3_pledge 56 = .ok (.ireturn, 1) := by decide +kernel
theorem dX3_release_0 : decode cX3_release 0 = .ok (.iload_n 1, 1) := by decide +kernel
theorem dX3_release_1 : decode cX3_release 1 = .ok (.invokestatic 70, 3) := by decide +kernel
theorem dX3_release_4 : decode cX3_release 4 = .ok (.iload_n 2, 1) := by decide +kernel
theorem dX3_release_5 : decode cX3_release 5 = .ok (.invokestatic 48, 3) := by decide +kernel
theorem dX3_release_8 : decode cX3_release 8 = .ok (.iload_n 3, 1) := by decide +kernel
theorem dX3_release_9 : decode cX3_release 9 = .ok (.iconst 1, 1) := by decide +kernel
theorem dX3_release_10 : decode cX3_release 10 = .ok (.bipush 50, 2) := by decide +kernel
theorem dX3_release_12 : decode cX3_release 12 = .ok (.invokestatic 52, 3) := by decide +kernel
theorem dX3_release_15 : decode cX3_release 15 = .ok (.aload_n 0, 1) := by decide +kernel
theorem dX3_release_16 : decode cX3_release 16 = .ok (.getfield 45, 3) := by decide +kernel
theorem dX3_release_19 : decode cX3_release 19 = .ok (.aload_n 0, 1) := by decide +kernel
theorem dX3_release_20 : decode cX3_release 20 = .ok (.getfield 41, 3) := by decide +kernel
theorem dX3_release_23 : decode cX3_release 23 = .ok (.invokevirtual 73, 3) := by decide +kernel
theorem dX3_release_26 : decode cX3_release 26 = .ok (.aload_n 0, 1) := by decide +kernel
theorem dX3_release_27 : decode cX3_release 27 = .ok (.getfield 41, 3) := by decide +kernel
theorem dX3_release_30 : decode cX3_release 30 = .ok (.iload_n 1, 1) := by decide +kernel
theorem dX3_release_31 : decode cX3_release 31 = .ok (.iload_n 2, 1) := by decide +kernel
theorem dX3_release_32 : decode cX3_release 32 = .ok (.iload_n 3, 1) := by decide +kernel
theorem dX3_release_33 : decode cX3_release 33 = .ok (.invokevirtual 94, 3) := by decide +kernel
theorem dX3_release_36 : decode cX3_release 36 = .ok (.invokestatic 81, 3) := by decide +kernel
theorem dX3_release_39 : decode cX3_release 39 = .ok (.aload_n 0, 1) := by decide +kernel
theorem dX3_release_40 : decode cX3_release 40 = .ok (.invokevirtual 85, 3) := by decide +kernel
theorem dX3_release_43 : decode cX3_release 43 = .ok (.aload_n 0, 1) := by decide +kernel
theorem dX3_release_44 : decode cX3_release 44 = .ok (.getfield 41, 3) := by decide +kernel
theorem dX3_release_47 : decode cX3_release 47 = .ok (.getfield 88, 3) := by decide +kernel
theorem dX3_release_50 : decode cX3_release 50 = .ok (.iload_n 1, 1) := by decide +kernel
theorem dX3_release_51 : decode cX3_release 51 = .ok (.iload_n 2, 1) := by decide +kernel
theorem dX3_release_52 : decode cX3_release 52 = .ok (.invokestatic 91, 3) := by decide +kernel
theorem dX3_release_55 : decode cX3_release 55 = .ok (.iaload, 1) := by decide +kernel
theorem dX3_release_56 : decode cX3_release 56 = .ok (.ireturn, 1) := by decide +kernel
theorem dX3_deposit_0 : decode cX3_deposit 0 = .ok (.iload_n 1, 1) := by decide +kernel
theorem dX3_deposit_1 : decode cX3_deposit 1 = .ok (.invokestatic 70, 3) := by decide +kernel
theorem dX3_deposit_4 : decode cX3_deposit 4 = .ok (.iload_n 2, 1) := by decide +kernel
theorem dX3_deposit_5 : decode cX3_deposit 5 = .ok (.iconst 1, 1) := by decide +kernel
theorem dX3_deposit_6 : decode cX3_deposit 6 = .ok (.sipush 9999, 3) := by decide +kernel
theorem dX3_deposit_9 : decode cX3_deposit 9 = .ok (.invokestatic 52, 3) := by decide +kernel
theorem dX3_deposit_12 : decode cX3_deposit 12 = .ok (.aload_n 0, 1) := by decide +kernel
theorem dX3_deposit_13 : decode cX3_deposit 13 = .ok (.getfield 45, 3) := by decide +kernel
theorem dX3_deposit_16 : decode cX3_deposit 16 = .ok (.aload_n 0, 1) := by decide +kernel
theorem dX3_deposit_17 : decode cX3_deposit 17 = .ok (.getfield 41, 3) := by decide +kernel
theorem dX3_deposit_20 : decode cX3_deposit 20 = .ok (.invokevirtual 73, 3) := by decide +kernel
theorem dX3_deposit_23 : decode cX3_deposit 23 = .ok (.aload_n 0, 1) := by decide +kernel
theorem dX3_deposit_24 : decode cX3_deposit 24 = .ok (.getfield 41, 3) := by decide +kernel
theorem dX3_deposit_27 : decode cX3_deposit 27 = .ok (.iload_n 1, 1) := by decide +kernel
theorem dX3_deposit_28 : decode cX3_deposit 28 = .ok (.iload_n 2, 1) := by decide +kernel
theorem dX3_deposit_29 : decode cX3_deposit 29 = .ok (.invokevirtual 97, 3) := by decide +kernel
theorem dX3_deposit_32 : decode cX3_deposit 32 = .ok (.invokestatic 81, 3) := by decide +kernel
theorem dX3_deposit_35 : decode cX3_deposit 35 = .ok (.aload_n 0, 1) := by decide +kernel
theorem dX3_deposit_36 : decode cX3_deposit 36 = .ok (.invokevirtual 85, 3) := by decide +kernel
theorem dX3_deposit_39 : decode cX3_deposit 39 = .ok (.aload_n 0, 1) := by decide +kernel
theorem dX3_deposit_40 : decode cX3_deposit 40 = .ok (.getfield 41, 3) := by decide +kernel
theorem dX3_deposit_43 : decode cX3_deposit 43 = .ok (.getfield 101, 3) := by decide +kernel
theorem dX3_deposit_46 : decode cX3_deposit 46 = .ok (.iload_n 1, 1) := by decide +kernel
theorem dX3_deposit_47 : decode cX3_deposit 47 = .ok (.iaload, 1) := by decide +kernel
theorem dX3_deposit_48 : decode cX3_deposit 48 = .ok (.ireturn, 1) := by decide +kernel
theorem dX3_withdraw_0 : decode cX3_withdraw 0 = .ok (.iload_n 1, 1) := by decide +kernel
theorem dX3_withdraw_1 : decode cX3_withdraw 1 = .ok (.invokestatic 70, 3) := by decide +kernel
theorem dX3_withdraw_4 : decode cX3_withdraw 4 = .ok (.iload_n 2, 1) := by decide +kernel
theorem dX3_withdraw_5 : decode cX3_withdraw 5 = .ok (.iconst 1, 1) := by decide +kernel
theorem dX3_withdraw_6 : decode cX3_withdraw 6 = .ok (.sipush 9999, 3) := by decide +kernel
theorem dX3_withdraw_9 : decode cX3_withdraw 9 = .ok (.invokestatic 52, 3) := by decide +kernel
theorem dX3_withdraw_12 : decode cX3_withdraw 12 = .ok (.aload_n 0, 1) := by decide +kernel
theorem dX3_withdraw_13 : decode cX3_withdraw 13 = .ok (.getfield 45, 3) := by decide +kernel
theorem dX3_withdraw_16 : decode cX3_withdraw 16 = .ok (.aload_n 0, 1) := by decide +kernel
theorem dX3_withdraw_17 : decode cX3_withdraw 17 = .ok (.getfield 41, 3) := by decide +kernel
theorem dX3_withdraw_20 : decode cX3_withdraw 20 = .ok (.invokevirtual 73, 3) := by decide +kernel
theorem dX3_withdraw_23 : decode cX3_withdraw 23 = .ok (.aload_n 0, 1) := by decide +kernel
theorem dX3_withdraw_24 : decode cX3_withdraw 24 = .ok (.getfield 41, 3) := by decide +kernel
theorem dX3_withdraw_27 : decode cX3_withdraw 27 = .ok (.iload_n 1, 1) := by decide +kernel
theorem dX3_withdraw_28 : decode cX3_withdraw 28 = .ok (.iload_n 2, 1) := by decide +kernel
theorem dX3_withdraw_29 : decode cX3_withdraw 29 = .ok (.invokevirtual 104, 3) := by decide +kernel
theorem dX3_withdraw_32 : decode cX3_withdraw 32 = .ok (.invokestatic 81, 3) := by decide +kernel
theorem dX3_withdraw_35 : decode cX3_withdraw 35 = .ok (.aload_n 0, 1) := by decide +kernel
theorem dX3_withdraw_36 : decode cX3_withdraw 36 = .ok (.invokevirtual 85, 3) := by decide +kernel
theorem dX3_withdraw_39 : decode cX3_withdraw 39 = .ok (.aload_n 0, 1) := by decide +kernel
theorem dX3_withdraw_40 : decode cX3_withdraw 40 = .ok (.getfield 41, 3) := by decide +kernel
theorem dX3_withdraw_43 : decode cX3_withdraw 43 = .ok (.getfield 101, 3) := by decide +kernel
theorem dX3_withdraw_46 : decode cX3_withdraw 46 = .ok (.iload_n 1, 1) := by decide +kernel
theorem dX3_withdraw_47 : decode cX3_withdraw 47 = .ok (.iaload, 1) := by decide +kernel
theorem dX3_withdraw_48 : decode cX3_withdraw 48 = .ok (.ireturn, 1) := by decide +kernel
theorem dX3_lend_0 : decode cX3_lend 0 = .ok (.iload_n 1, 1) := by decide +kernel
theorem dX3_lend_1 : decode cX3_lend 1 = .ok (.invokestatic 70, 3) := by decide +kernel
theorem dX3_lend_4 : decode cX3_lend 4 = .ok (.iload_n 2, 1) := by decide +kernel
theorem dX3_lend_5 : decode cX3_lend 5 = .ok (.iconst 1, 1) := by decide +kernel
theorem dX3_lend_6 : decode cX3_lend 6 = .ok (.sipush 9999, 3) := by decide +kernel
theorem dX3_lend_9 : decode cX3_lend 9 = .ok (.invokestatic 52, 3) := by decide +kernel
theorem dX3_lend_12 : decode cX3_lend 12 = .ok (.aload_n 0, 1) := by decide +kernel
theorem dX3_lend_13 : decode cX3_lend 13 = .ok (.getfield 45, 3) := by decide +kernel
theorem dX3_lend_16 : decode cX3_lend 16 = .ok (.aload_n 0, 1) := by decide +kernel
theorem dX3_lend_17 : decode cX3_lend 17 = .ok (.getfield 41, 3) := by decide +kernel
theorem dX3_lend_20 : decode cX3_lend 20 = .ok (.invokevirtual 73, 3) := by decide +kernel
theorem dX3_lend_23 : decode cX3_lend 23 = .ok (.aload_n 0, 1) := by decide +kernel
theorem dX3_lend_24 : decode cX3_lend 24 = .ok (.getfield 41, 3) := by decide +kernel
theorem dX3_lend_27 : decode cX3_lend 27 = .ok (.iload_n 1, 1) := by decide +kernel
theorem dX3_lend_28 : decode cX3_lend 28 = .ok (.iload_n 2, 1) := by decide +kernel
theorem dX3_lend_29 : decode cX3_lend 29 = .ok (.invokevirtual 107, 3) := by decide +kernel
theorem dX3_lend_32 : decode cX3_lend 32 = .ok (.invokestatic 81, 3) := by decide +kernel
theorem dX3_lend_35 : decode cX3_lend 35 = .ok (.aload_n 0, 1) := by decide +kernel
theorem dX3_lend_36 : decode cX3_lend 36 = .ok (.invokevirtual 85, 3) := by decide +kernel
theorem dX3_lend_39 : decode cX3_lend 39 = .ok (.aload_n 0, 1) := by decide +kernel
theorem dX3_lend_40 : decode cX3_lend 40 = .ok (.getfield 41, 3) := by decide +kernel
theorem dX3_lend_43 : decode cX3_lend 43 = .ok (.getfield 110, 3) := by decide +kernel
theorem dX3_lend_46 : decode cX3_lend 46 = .ok (.iload_n 1, 1) := by decide +kernel
theorem dX3_lend_47 : decode cX3_lend 47 = .ok (.iaload, 1) := by decide +kernel
theorem dX3_lend_48 : decode cX3_lend 48 = .ok (.ireturn, 1) := by decide +kernel
theorem dX3_payBack_0 : decode cX3_payBack 0 = .ok (.iload_n 1, 1) := by decide +kernel
theorem dX3_payBack_1 : decode cX3_payBack 1 = .ok (.invokestatic 70, 3) := by decide +kernel
theorem dX3_payBack_4 : decode cX3_payBack 4 = .ok (.iload_n 2, 1) := by decide +kernel
theorem dX3_payBack_5 : decode cX3_payBack 5 = .ok (.iconst 1, 1) := by decide +kernel
theorem dX3_payBack_6 : decode cX3_payBack 6 = .ok (.sipush 9999, 3) := by decide +kernel
theorem dX3_payBack_9 : decode cX3_payBack 9 = .ok (.invokestatic 52, 3) := by decide +kernel
theorem dX3_payBack_12 : decode cX3_payBack 12 = .ok (.aload_n 0, 1) := by decide +kernel
theorem dX3_payBack_13 : decode cX3_payBack 13 = .ok (.getfield 45, 3) := by decide +kernel
theorem dX3_payBack_16 : decode cX3_payBack 16 = .ok (.aload_n 0, 1) := by decide +kernel
theorem dX3_payBack_17 : decode cX3_payBack 17 = .ok (.getfield 41, 3) := by decide +kernel
theorem dX3_payBack_20 : decode cX3_payBack 20 = .ok (.invokevirtual 73, 3) := by decide +kernel
theorem dX3_payBack_23 : decode cX3_payBack 23 = .ok (.aload_n 0, 1) := by decide +kernel
theorem dX3_payBack_24 : decode cX3_payBack 24 = .ok (.getfield 41, 3) := by decide +kernel
theorem dX3_payBack_27 : decode cX3_payBack 27 = .ok (.iload_n 1, 1) := by decide +kernel
theorem dX3_payBack_28 : decode cX3_payBack 28 = .ok (.iload_n 2, 1) := by decide +kernel
theorem dX3_payBack_29 : decode cX3_payBack 29 = .ok (.invokevirtual 113, 3) := by decide +kernel
theorem dX3_payBack_32 : decode cX3_payBack 32 = .ok (.istore_n 3, 1) := by decide +kernel
theorem dX3_payBack_33 : decode cX3_payBack 33 = .ok (.iload_n 3, 1) := by decide +kernel
theorem dX3_payBack_34 : decode cX3_payBack 34 = .ok (.iconst (-1), 1) := by decide +kernel
theorem dX3_payBack_35 : decode cX3_payBack 35 = .ok (.if_icmp .eq 7, 3) := by decide +kernel
theorem dX3_payBack_38 : decode cX3_payBack 38 = .ok (.iconst 1, 1) := by decide +kernel
theorem dX3_payBack_39 : decode cX3_payBack 39 = .ok (.goto 4, 3) := by decide +kernel
theorem dX3_payBack_42 : decode cX3_payBack 42 = .ok (.iconst 0, 1) := by decide +kernel
theorem dX3_payBack_43 : decode cX3_payBack 43 = .ok (.invokestatic 81, 3) := by decide +kernel
theorem dX3_payBack_46 : decode cX3_payBack 46 = .ok (.aload_n 0, 1) := by decide +kernel
theorem dX3_payBack_47 : decode cX3_payBack 47 = .ok (.invokevirtual 85, 3) := by decide +kernel
theorem dX3_payBack_50 : decode cX3_payBack 50 = .ok (.iload_n 3, 1) := by decide +kernel
theorem dX3_payBack_51 : decode cX3_payBack 51 = .ok (.ireturn, 1) := by decide +kernel
theorem dX3_readmit_0 : decode cX3_readmit 0 = .ok (.iload_n 1, 1) := by decide +kernel
theorem dX3_readmit_1 : decode cX3_readmit 1 = .ok (.invokestatic 70, 3) := by decide +kernel
theorem dX3_readmit_4 : decode cX3_readmit 4 = .ok (.aload_n 0, 1) := by decide +kernel
theorem dX3_readmit_5 : decode cX3_readmit 5 = .ok (.getfield 45, 3) := by decide +kernel
theorem dX3_readmit_8 : decode cX3_readmit 8 = .ok (.aload_n 0, 1) := by decide +kernel
theorem dX3_readmit_9 : decode cX3_readmit 9 = .ok (.getfield 41, 3) := by decide +kernel
theorem dX3_readmit_12 : decode cX3_readmit 12 = .ok (.invokevirtual 73, 3) := by decide +kernel
theorem dX3_readmit_15 : decode cX3_readmit 15 = .ok (.aload_n 0, 1) := by decide +kernel
theorem dX3_readmit_16 : decode cX3_readmit 16 = .ok (.getfield 41, 3) := by decide +kernel
theorem dX3_readmit_19 : decode cX3_readmit 19 = .ok (.iload_n 1, 1) := by decide +kernel
theorem dX3_readmit_20 : decode cX3_readmit 20 = .ok (.invokevirtual 116, 3) := by decide +kernel
theorem dX3_readmit_23 : decode cX3_readmit 23 = .ok (.invokestatic 81, 3) := by decide +kernel
theorem dX3_readmit_26 : decode cX3_readmit 26 = .ok (.aload_n 0, 1) := by decide +kernel
theorem dX3_readmit_27 : decode cX3_readmit 27 = .ok (.invokevirtual 85, 3) := by decide +kernel
theorem dX3_readmit_30 : decode cX3_readmit 30 = .ok (.return_, 1) := by decide +kernel
theorem dX3_pass_0 : decode cX3_pass 0 = .ok (.iload_n 1, 1) := by decide +kernel
theorem dX3_pass_1 : decode cX3_pass 1 = .ok (.iconst 1, 1) := by decide +kernel
theorem dX3_pass_2 : decode cX3_pass 2 = .ok (.bipush 100, 2) := by decide +kernel
theorem dX3_pass_4 : decode cX3_pass 4 = .ok (.invokestatic 52, 3) := by decide +kernel
theorem dX3_pass_7 : decode cX3_pass 7 = .ok (.aload_n 0, 1) := by decide +kernel
theorem dX3_pass_8 : decode cX3_pass 8 = .ok (.invokevirtual 56, 3) := by decide +kernel
theorem dX3_pass_11 : decode cX3_pass 11 = .ok (.aload_n 0, 1) := by decide +kernel
theorem dX3_pass_12 : decode cX3_pass 12 = .ok (.getfield 41, 3) := by decide +kernel
theorem dX3_pass_15 : decode cX3_pass 15 = .ok (.iload_n 1, 1) := by decide +kernel
theorem dX3_pass_16 : decode cX3_pass 16 = .ok (.aload_n 0, 1) := by decide +kernel
theorem dX3_pass_17 : decode cX3_pass 17 = .ok (.getfield 19, 3) := by decide +kernel
theorem dX3_pass_20 : decode cX3_pass 20 = .ok (.invokevirtual 120, 3) := by decide +kernel
theorem dX3_pass_23 : decode cX3_pass 23 = .ok (.ireturn, 1) := by decide +kernel
theorem dX3_changeRate_0 : decode cX3_changeRate 0 = .ok (.iload_n 1, 1) := by decide +kernel
theorem dX3_changeRate_1 : decode cX3_changeRate 1 = .ok (.iconst 0, 1) := by decide +kernel
theorem dX3_changeRate_2 : decode cX3_changeRate 2 = .ok (.bipush 100, 2) := by decide +kernel
theorem dX3_changeRate_4 : decode cX3_changeRate 4 = .ok (.invokestatic 52, 3) := by decide +kernel
theorem dX3_changeRate_7 : decode cX3_changeRate 7 = .ok (.aload_n 0, 1) := by decide +kernel
theorem dX3_changeRate_8 : decode cX3_changeRate 8 = .ok (.invokevirtual 56, 3) := by decide +kernel
theorem dX3_changeRate_11 : decode cX3_changeRate 11 = .ok (.aload_n 0, 1) := by decide +kernel
theorem dX3_changeRate_12 : decode cX3_changeRate 12 = .ok (.getfield 41, 3) := by decide +kernel
theorem dX3_changeRate_15 : decode cX3_changeRate 15 = .ok (.getfield 124, 3) := by decide +kernel
theorem dX3_changeRate_18 : decode cX3_changeRate 18 = .ok (.istore_n 2, 1) := by decide +kernel
theorem dX3_changeRate_19 : decode cX3_changeRate 19 = .ok (.aload_n 0, 1) := by decide +kernel
theorem dX3_changeRate_20 : decode cX3_changeRate 20 = .ok (.getfield 41, 3) := by decide +kernel
theorem dX3_changeRate_23 : decode cX3_changeRate 23 = .ok (.iload_n 1, 1) := by decide +kernel
theorem dX3_changeRate_24 : decode cX3_changeRate 24 = .ok (.putfield 124, 3) := by decide +kernel
theorem dX3_changeRate_27 : decode cX3_changeRate 27 = .ok (.iload_n 2, 1) := by decide +kernel
theorem dX3_changeRate_28 : decode cX3_changeRate 28 = .ok (.ireturn, 1) := by decide +kernel
theorem dX3_changeGrace_0 : decode cX3_changeGrace 0 = .ok (.iload_n 1, 1) := by decide +kernel
theorem dX3_changeGrace_1 : decode cX3_changeGrace 1 = .ok (.iconst 1, 1) := by decide +kernel
theorem dX3_changeGrace_2 : decode cX3_changeGrace 2 = .ok (.bipush 24, 2) := by decide +kernel
theorem dX3_changeGrace_4 : decode cX3_changeGrace 4 = .ok (.invokestatic 52, 3) := by decide +kernel
theorem dX3_changeGrace_7 : decode cX3_changeGrace 7 = .ok (.aload_n 0, 1) := by decide +kernel
theorem dX3_changeGrace_8 : decode cX3_changeGrace 8 = .ok (.invokevirtual 56, 3) := by decide +kernel
theorem dX3_changeGrace_11 : decode cX3_changeGrace 11 = .ok (.aload_n 0, 1) := by decide +kernel
theorem dX3_changeGrace_12 : decode cX3_changeGrace 12 = .ok (.getfield 41, 3) := by decide +kernel
theorem dX3_changeGrace_15 : decode cX3_changeGrace 15 = .ok (.getfield 128, 3) := by decide +kernel
theorem dX3_changeGrace_18 : decode cX3_changeGrace 18 = .ok (.istore_n 2, 1) := by decide +kernel
theorem dX3_changeGrace_19 : decode cX3_changeGrace 19 = .ok (.aload_n 0, 1) := by decide +kernel
theorem dX3_changeGrace_20 : decode cX3_changeGrace 20 = .ok (.getfield 41, 3) := by decide +kernel
theorem dX3_changeGrace_23 : decode cX3_changeGrace 23 = .ok (.iload_n 1, 1) := by decide +kernel
theorem dX3_changeGrace_24 : decode cX3_changeGrace 24 = .ok (.putfield 128, 3) := by decide +kernel
theorem dX3_changeGrace_27 : decode cX3_changeGrace 27 = .ok (.iload_n 2, 1) := by decide +kernel
theorem dX3_changeGrace_28 : decode cX3_changeGrace 28 = .ok (.ireturn, 1) := by decide +kernel
theorem dX3_changeSlip_0 : decode cX3_changeSlip 0 = .ok (.iload_n 1, 1) := by decide +kernel
theorem dX3_changeSlip_1 : decode cX3_changeSlip 1 = .ok (.iconst 0, 1) := by decide +kernel
theorem dX3_changeSlip_2 : decode cX3_changeSlip 2 = .ok (.bipush 50, 2) := by decide +kernel
theorem dX3_changeSlip_4 : decode cX3_changeSlip 4 = .ok (.invokestatic 52, 3) := by decide +kernel
theorem dX3_changeSlip_7 : decode cX3_changeSlip 7 = .ok (.aload_n 0, 1) := by decide +kernel
theorem dX3_changeSlip_8 : decode cX3_changeSlip 8 = .ok (.invokevirtual 56, 3) := by decide +kernel
theorem dX3_changeSlip_11 : decode cX3_changeSlip 11 = .ok (.aload_n 0, 1) := by decide +kernel
theorem dX3_changeSlip_12 : decode cX3_changeSlip 12 = .ok (.getfield 41, 3) := by decide +kernel
theorem dX3_changeSlip_15 : decode cX3_changeSlip 15 = .ok (.getfield 131, 3) := by decide +kernel
theorem dX3_changeSlip_18 : decode cX3_changeSlip 18 = .ok (.istore_n 2, 1) := by decide +kernel
theorem dX3_changeSlip_19 : decode cX3_changeSlip 19 = .ok (.aload_n 0, 1) := by decide +kernel
theorem dX3_changeSlip_20 : decode cX3_changeSlip 20 = .ok (.getfield 41, 3) := by decide +kernel
theorem dX3_changeSlip_23 : decode cX3_changeSlip 23 = .ok (.iload_n 1, 1) := by decide +kernel
theorem dX3_changeSlip_24 : decode cX3_changeSlip 24 = .ok (.putfield 131, 3) := by decide +kernel
theorem dX3_changeSlip_27 : decode cX3_changeSlip 27 = .ok (.iload_n 2, 1) := by decide +kernel
theorem dX3_changeSlip_28 : decode cX3_changeSlip 28 = .ok (.ireturn, 1) := by decide +kernel
theorem dX3_turnOrder_0 : decode cX3_turnOrder 0 = .ok (.aload_n 0, 1) := by decide +kernel
theorem dX3_turnOrder_1 : decode cX3_turnOrder 1 = .ok (.invokevirtual 56, 3) := by decide +kernel
theorem dX3_turnOrder_4 : decode cX3_turnOrder 4 = .ok (.aload_n 0, 1) := by decide +kernel
theorem dX3_turnOrder_5 : decode cX3_turnOrder 5 = .ok (.getfield 41, 3) := by decide +kernel
theorem dX3_turnOrder_8 : decode cX3_turnOrder 8 = .ok (.aload_n 0, 1) := by decide +kernel
theorem dX3_turnOrder_9 : decode cX3_turnOrder 9 = .ok (.getfield 41, 3) := by decide +kernel
theorem dX3_turnOrder_12 : decode cX3_turnOrder 12 = .ok (.getfield 134, 3) := by decide +kernel
theorem dX3_turnOrder_15 : decode cX3_turnOrder 15 = .ok (.iconst 1, 1) := by decide +kernel
theorem dX3_turnOrder_16 : decode cX3_turnOrder 16 = .ok (.iadd, 1) := by decide +kernel
theorem dX3_turnOrder_17 : decode cX3_turnOrder 17 = .ok (.iconst 3, 1) := by decide +kernel
theorem dX3_turnOrder_18 : decode cX3_turnOrder 18 = .ok (.irem, 1) := by decide +kernel
theorem dX3_turnOrder_19 : decode cX3_turnOrder 19 = .ok (.putfield 134, 3) := by decide +kernel
theorem dX3_turnOrder_22 : decode cX3_turnOrder 22 = .ok (.aload_n 0, 1) := by decide +kernel
theorem dX3_turnOrder_23 : decode cX3_turnOrder 23 = .ok (.getfield 41, 3) := by decide +kernel
theorem dX3_turnOrder_26 : decode cX3_turnOrder 26 = .ok (.getfield 134, 3) := by decide +kernel
theorem dX3_turnOrder_29 : decode cX3_turnOrder 29 = .ok (.ireturn, 1) := by decide +kernel
theorem dX3_append_0 : decode cX3_append 0 = .ok (.iload_n 1, 1) := by decide +kernel
theorem dX3_append_1 : decode cX3_append 1 = .ok (.bipush 33, 2) := by decide +kernel
theorem dX3_append_3 : decode cX3_append 3 = .ok (.bipush 126, 2) := by decide +kernel
theorem dX3_append_5 : decode cX3_append 5 = .ok (.invokestatic 52, 3) := by decide +kernel
theorem dX3_append_8 : decode cX3_append 8 = .ok (.aload_n 0, 1) := by decide +kernel
theorem dX3_append_9 : decode cX3_append 9 = .ok (.getfield 10, 3) := by decide +kernel
theorem dX3_append_12 : decode cX3_append 12 = .ok (.getfield 137, 3) := by decide +kernel
theorem dX3_append_15 : decode cX3_append 15 = .ok (.bipush 60, 2) := by decide +kernel
theorem dX3_append_17 : decode cX3_append 17 = .ok (.if_icmp .lt 11, 3) := by decide +kernel
theorem dX3_append_20 : decode cX3_append 20 = .ok (.new 140, 3) := by decide +kernel
theorem dX3_append_23 : decode cX3_append 23 = .ok (.dup, 1) := by decide +kernel
theorem dX3_append_24 : decode cX3_append 24 = .ok (.invokespecial 142, 3) := by decide +kernel
theorem dX3_append_27 : decode cX3_append 27 = .ok (.athrow, 1) := by decide +kernel
theorem dX3_append_28 : decode cX3_append 28 = .ok (.aload_n 0, 1) := by decide +kernel
theorem dX3_append_29 : decode cX3_append 29 = .ok (.getfield 10, 3) := by decide +kernel
theorem dX3_append_32 : decode cX3_append 32 = .ok (.getfield 143, 3) := by decide +kernel
theorem dX3_append_35 : decode cX3_append 35 = .ok (.aload_n 0, 1) := by decide +kernel
theorem dX3_append_36 : decode cX3_append 36 = .ok (.getfield 10, 3) := by decide +kernel
theorem dX3_append_39 : decode cX3_append 39 = .ok (.getfield 137, 3) := by decide +kernel
theorem dX3_append_42 : decode cX3_append 42 = .ok (.iload_n 1, 1) := by decide +kernel
theorem dX3_append_43 : decode cX3_append 43 = .ok (.iastore, 1) := by decide +kernel
theorem dX3_append_44 : decode cX3_append 44 = .ok (.aload_n 0, 1) := by decide +kernel
theorem dX3_append_45 : decode cX3_append 45 = .ok (.getfield 10, 3) := by decide +kernel
theorem dX3_append_48 : decode cX3_append 48 = .ok (.dup, 1) := by decide +kernel
theorem dX3_append_49 : decode cX3_append 49 = .ok (.getfield 137, 3) := by decide +kernel
theorem dX3_append_52 : decode cX3_append 52 = .ok (.iconst 1, 1) := by decide +kernel
theorem dX3_append_53 : decode cX3_append 53 = .ok (.iadd, 1) := by decide +kernel
theorem dX3_append_54 : decode cX3_append 54 = .ok (.putfield 137, 3) := by decide +kernel
theorem dX3_append_57 : decode cX3_append 57 = .ok (.aload_n 0, 1) := by decide +kernel
theorem dX3_append_58 : decode cX3_append 58 = .ok (.getfield 10, 3) := by decide +kernel
theorem dX3_append_61 : decode cX3_append 61 = .ok (.getfield 137, 3) := by decide +kernel
theorem dX3_append_64 : decode cX3_append 64 = .ok (.ireturn, 1) := by decide +kernel
theorem dX3_clearBuffer_0 : decode cX3_clearBuffer 0 = .ok (.aload_n 0, 1) := by decide +kernel
theorem dX3_clearBuffer_1 : decode cX3_clearBuffer 1 = .ok (.getfield 10, 3) := by decide +kernel
theorem dX3_clearBuffer_4 : decode cX3_clearBuffer 4 = .ok (.getfield 137, 3) := by decide +kernel
theorem dX3_clearBuffer_7 : decode cX3_clearBuffer 7 = .ok (.istore_n 1, 1) := by decide +kernel
theorem dX3_clearBuffer_8 : decode cX3_clearBuffer 8 = .ok (.aload_n 0, 1) := by decide +kernel
theorem dX3_clearBuffer_9 : decode cX3_clearBuffer 9 = .ok (.getfield 10, 3) := by decide +kernel
theorem dX3_clearBuffer_12 : decode cX3_clearBuffer 12 = .ok (.iconst 0, 1) := by decide +kernel
theorem dX3_clearBuffer_13 : decode cX3_clearBuffer 13 = .ok (.putfield 137, 3) := by decide +kernel
theorem dX3_clearBuffer_16 : decode cX3_clearBuffer 16 = .ok (.iload_n 1, 1) := by decide +kernel
theorem dX3_clearBuffer_17 : decode cX3_clearBuffer 17 = .ok (.ireturn, 1) := by decide +kernel
theorem dX3_firstError_0 : decode cX3_firstError 0 = .ok (.aload_n 0, 1) := by decide +kernel
theorem dX3_firstError_1 : decode cX3_firstError 1 = .ok (.getfield 10, 3) := by decide +kernel
theorem dX3_firstError_4 : decode cX3_firstError 4 = .ok (.invokevirtual 146, 3) := by decide +kernel
theorem dX3_firstError_7 : decode cX3_firstError 7 = .ok (.ireturn, 1) := by decide +kernel
theorem dX3_follow_0 : decode cX3_follow 0 = .ok (.aload_n 0, 1) := by decide +kernel
theorem dX3_follow_1 : decode cX3_follow 1 = .ok (.getfield 10, 3) := by decide +kernel
theorem dX3_follow_4 : decode cX3_follow 4 = .ok (.invokevirtual 150, 3) := by decide +kernel
theorem dX3_follow_7 : decode cX3_follow 7 = .ok (.ifCond .ne 11, 3) := by decide +kernel
theorem dX3_follow_10 : decode cX3_follow 10 = .ok (.new 154, 3) := by decide +kernel
theorem dX3_follow_13 : decode cX3_follow 13 = .ok (.dup, 1) := by decide +kernel
theorem dX3_follow_14 : decode cX3_follow 14 = .ok (.invokespecial 156, 3) := by decide +kernel
theorem dX3_follow_17 : decode cX3_follow 17 = .ok (.athrow, 1) := by decide +kernel
theorem dX3_follow_18 : decode cX3_follow 18 = .ok (.aload_n 0, 1) := by decide +kernel
theorem dX3_follow_19 : decode cX3_follow 19 = .ok (.getfield 45, 3) := by decide +kernel
theorem dX3_follow_22 : decode cX3_follow 22 = .ok (.aload_n 0, 1) := by decide +kernel
theorem dX3_follow_23 : decode cX3_follow 23 = .ok (.getfield 41, 3) := by decide +kernel
theorem dX3_follow_26 : decode cX3_follow 26 = .ok (.invokevirtual 73, 3) := by decide +kernel
theorem dX3_follow_29 : decode cX3_follow 29 = .ok (.iconst 1, 1) := by decide +kernel
theorem dX3_follow_30 : decode cX3_follow 30 = .ok (.istore_n 1, 1) := by decide +kernel
theorem dX3_follow_31 : decode cX3_follow 31 = .ok (.aload_n 0, 1) := by decide +kernel
theorem dX3_follow_32 : decode cX3_follow 32 = .ok (.getfield 10, 3) := by decide +kernel
theorem dX3_follow_35 : decode cX3_follow 35 = .ok (.invokevirtual 157, 3) := by decide +kernel
theorem dX3_follow_38 : decode cX3_follow 38 = .ok (.iconst 0, 1) := by decide +kernel
theorem dX3_follow_39 : decode cX3_follow 39 = .ok (.istore_n 2, 1) := by decide +kernel
theorem dX3_follow_40 : decode cX3_follow 40 = .ok (.iload_n 1, 1) := by decide +kernel
theorem dX3_follow_41 : decode cX3_follow 41 = .ok (.ifCond .eq 63, 3) := by decide +kernel
theorem dX3_follow_44 : decode cX3_follow 44 = .ok (.iload_n 2, 1) := by decide +kernel
theorem dX3_follow_45 : decode cX3_follow 45 = .ok (.aload_n 0, 1) := by decide +kernel
theorem dX3_follow_46 : decode cX3_follow 46 = .ok (.getfield 10, 3) := by decide +kernel
theorem dX3_follow_49 : decode cX3_follow 49 = .ok (.getfield 137, 3) := by decide +kernel
theorem dX3_follow_52 : decode cX3_follow 52 = .ok (.if_icmp .ge 52, 3) := by decide +kernel
theorem dX3_follow_55 : decode cX3_follow 55 = .ok (.aload_n 0, 1) := by decide +kernel
theorem dX3_follow_56 : decode cX3_follow 56 = .ok (.getfield 10, 3) := by decide +kernel
theorem dX3_follow_59 : decode cX3_follow 59 = .ok (.aload_n 0, 1) := by decide +kernel
theorem dX3_follow_60 : decode cX3_follow 60 = .ok (.getfield 10, 3) := by decide +kernel
theorem dX3_follow_63 : decode cX3_follow 63 = .ok (.getfield 143, 3) := by decide +kernel
theorem dX3_follow_66 : decode cX3_follow 66 = .ok (.iload_n 2, 1) := by decide +kernel
theorem dX3_follow_67 : decode cX3_follow 67 = .ok (.iaload, 1) := by decide +kernel
theorem dX3_follow_68 : decode cX3_follow 68 = .ok (.invokevirtual 160, 3) := by decide +kernel
theorem dX3_follow_71 : decode cX3_follow 71 = .ok (.ifCond .eq 25, 3) := by decide +kernel
theorem dX3_follow_74 : decode cX3_follow 74 = .ok (.aload_n 0, 1) := by decide +kernel
theorem dX3_follow_75 : decode cX3_follow 75 = .ok (.getfield 10, 3) := by decide +kernel
theorem dX3_follow_78 : decode cX3_follow 78 = .ok (.iload_n 2, 1) := by decide +kernel
theorem dX3_follow_79 : decode cX3_follow 79 = .ok (.invokevirtual 163, 3) := by decide +kernel
theorem dX3_follow_82 : decode cX3_follow 82 = .ok (.ifCond .eq 10, 3) := by decide +kernel
theorem dX3_follow_85 : decode cX3_follow 85 = .ok (.aload_n 0, 1) := by decide +kernel
theorem dX3_follow_86 : decode cX3_follow 86 = .ok (.invokevirtual 166, 3) := by decide +kernel
theorem dX3_follow_89 : decode cX3_follow 89 = .ok (.ifCond .eq 7, 3) := by decide +kernel
theorem dX3_follow_92 : decode cX3_follow 92 = .ok (.iconst 1, 1) := by decide +kernel
theorem dX3_follow_93 : decode cX3_follow 93 = .ok (.goto 4, 3) := by decide +kernel
theorem dX3_follow_96 : decode cX3_follow 96 = .ok (.iconst 0, 1) := by decide +kernel
theorem dX3_follow_97 : decode cX3_follow 97 = .ok (.istore_n 1, 1) := by decide +kernel
theorem dX3_follow_98 : decode cX3_follow 98 = .ok (.iinc 2 1, 3) := by decide +kernel
theorem dX3_follow_101 : decode cX3_follow 101 = .ok (.goto (-61), 3) := by decide +kernel
theorem dX3_follow_104 : decode cX3_follow 104 = .ok (.iload_n 1, 1) := by decide +kernel
theorem dX3_follow_105 : decode cX3_follow 105 = .ok (.ifCond .ne 22, 3) := by decide +kernel
theorem dX3_follow_108 : decode cX3_follow 108 = .ok (.aload_n 0, 1) := by decide +kernel
theorem dX3_follow_109 : decode cX3_follow 109 = .ok (.getfield 41, 3) := by decide +kernel
theorem dX3_follow_112 : decode cX3_follow 112 = .ok (.aload_n 0, 1) := by decide +kernel
theorem dX3_follow_113 : decode cX3_follow 113 = .ok (.getfield 45, 3) := by decide +kernel
theorem dX3_follow_116 : decode cX3_follow 116 = .ok (.invokevirtual 73, 3) := by decide +kernel
theorem dX3_follow_119 : decode cX3_follow 119 = .ok (.new 140, 3) := by decide +kernel
theorem dX3_follow_122 : decode cX3_follow 122 = .ok (.dup, 1) := by decide +kernel
theorem dX3_follow_123 : decode cX3_follow 123 = .ok (.invokespecial 142, 3) := by decide +kernel
theorem dX3_follow_126 : decode cX3_follow 126 = .ok (.athrow, 1) := by decide +kernel
theorem dX3_follow_127 : decode cX3_follow 127 = .ok (.aload_n 0, 1) := by decide +kernel
theorem dX3_follow_128 : decode cX3_follow 128 = .ok (.invokevirtual 85, 3) := by decide +kernel
theorem dX3_follow_131 : decode cX3_follow 131 = .ok (.aload_n 0, 1) := by decide +kernel
theorem dX3_follow_132 : decode cX3_follow 132 = .ok (.getfield 10, 3) := by decide +kernel
theorem dX3_follow_135 : decode cX3_follow 135 = .ok (.iconst 0, 1) := by decide +kernel
theorem dX3_follow_136 : decode cX3_follow 136 = .ok (.putfield 137, 3) := by decide +kernel
theorem dX3_follow_139 : decode cX3_follow 139 = .ok (.aload_n 0, 1) := by decide +kernel
theorem dX3_follow_140 : decode cX3_follow 140 = .ok (.getfield 41, 3) := by decide +kernel
theorem dX3_follow_143 : decode cX3_follow 143 = .ok (.invokevirtual 169, 3) := by decide +kernel
theorem dX3_follow_146 : decode cX3_follow 146 = .ok (.ireturn, 1) := by decide +kernel
theorem dX3_keep_0 : decode cX3_keep 0 = .ok (.iload_n 1, 1) := by decide +kernel
theorem dX3_keep_1 : decode cX3_keep 1 = .ok (.iconst 0, 1) := by decide +kernel
theorem dX3_keep_2 : decode cX3_keep 2 = .ok (.iconst 1, 1) := by decide +kernel
theorem dX3_keep_3 : decode cX3_keep 3 = .ok (.invokestatic 52, 3) := by decide +kernel
theorem dX3_keep_6 : decode cX3_keep 6 = .ok (.aload_n 0, 1) := by decide +kernel
theorem dX3_keep_7 : decode cX3_keep 7 = .ok (.getfield 29, 3) := by decide +kernel
theorem dX3_keep_10 : decode cX3_keep 10 = .ok (.iload_n 1, 1) := by decide +kernel
theorem dX3_keep_11 : decode cX3_keep 11 = .ok (.aaload, 1) := by decide +kernel
theorem dX3_keep_12 : decode cX3_keep 12 = .ok (.aload_n 0, 1) := by decide +kernel
theorem dX3_keep_13 : decode cX3_keep 13 = .ok (.getfield 41, 3) := by decide +kernel
theorem dX3_keep_16 : decode cX3_keep 16 = .ok (.invokevirtual 73, 3) := by decide +kernel
theorem dX3_keep_19 : decode cX3_keep 19 = .ok (.aload_n 0, 1) := by decide +kernel
theorem dX3_keep_20 : decode cX3_keep 20 = .ok (.getfield 33, 3) := by decide +kernel
theorem dX3_keep_23 : decode cX3_keep 23 = .ok (.iload_n 1, 1) := by decide +kernel
theorem dX3_keep_24 : decode cX3_keep 24 = .ok (.iconst 1, 1) := by decide +kernel
theorem dX3_keep_25 : decode cX3_keep 25 = .ok (.bastore, 1) := by decide +kernel
theorem dX3_keep_26 : decode cX3_keep 26 = .ok (.return_, 1) := by decide +kernel
theorem dX3_goBack_0 : decode cX3_goBack 0 = .ok (.iload_n 1, 1) := by decide +kernel
theorem dX3_goBack_1 : decode cX3_goBack 1 = .ok (.iconst 0, 1) := by decide +kernel
theorem dX3_goBack_2 : decode cX3_goBack 2 = .ok (.iconst 1, 1) := by decide +kernel
theorem dX3_goBack_3 : decode cX3_goBack 3 = .ok (.invokestatic 52, 3) := by decide +kernel
theorem dX3_goBack_6 : decode cX3_goBack 6 = .ok (.aload_n 0, 1) := by decide +kernel
theorem dX3_goBack_7 : decode cX3_goBack 7 = .ok (.getfield 33, 3) := by decide +kernel
theorem dX3_goBack_10 : decode cX3_goBack 10 = .ok (.iload_n 1, 1) := by decide +kernel
theorem dX3_goBack_11 : decode cX3_goBack 11 = .ok (.baload, 1) := by decide +kernel
theorem dX3_goBack_12 : decode cX3_goBack 12 = .ok (.invokestatic 81, 3) := by decide +kernel
theorem dX3_goBack_15 : decode cX3_goBack 15 = .ok (.aload_n 0, 1) := by decide +kernel
theorem dX3_goBack_16 : decode cX3_goBack 16 = .ok (.invokevirtual 56, 3) := by decide +kernel
theorem dX3_goBack_19 : decode cX3_goBack 19 = .ok (.aload_n 0, 1) := by decide +kernel
theorem dX3_goBack_20 : decode cX3_goBack 20 = .ok (.getfield 41, 3) := by decide +kernel
theorem dX3_goBack_23 : decode cX3_goBack 23 = .ok (.aload_n 0, 1) := by decide +kernel
theorem dX3_goBack_24 : decode cX3_goBack 24 = .ok (.getfield 29, 3) := by decide +kernel
theorem dX3_goBack_27 : decode cX3_goBack 27 = .ok (.iload_n 1, 1) := by decide +kernel
theorem dX3_goBack_28 : decode cX3_goBack 28 = .ok (.aaload, 1) := by decide +kernel
theorem dX3_goBack_29 : decode cX3_goBack 29 = .ok (.invokevirtual 73, 3) := by decide +kernel
theorem dX3_goBack_32 : decode cX3_goBack 32 = .ok (.return_, 1) := by decide +kernel
theorem dX3_undo_0 : decode cX3_undo 0 = .ok (.aload_n 0, 1) := by decide +kernel
theorem dX3_undo_1 : decode cX3_undo 1 = .ok (.getfield 172, 3) := by decide +kernel
theorem dX3_undo_4 : decode cX3_undo 4 = .ok (.ifCond .le 7, 3) := by decide +kernel
theorem dX3_undo_7 : decode cX3_undo 7 = .ok (.iconst 1, 1) := by decide +kernel
theorem dX3_undo_8 : decode cX3_undo 8 = .ok (.goto 4, 3) := by decide +kernel
theorem dX3_undo_11 : decode cX3_undo 11 = .ok (.iconst 0, 1) := by decide +kernel
theorem dX3_undo_12 : decode cX3_undo 12 = .ok (.invokestatic 81, 3) := by decide +kernel
theorem dX3_undo_15 : decode cX3_undo 15 = .ok (.aload_n 0, 1) := by decide +kernel
theorem dX3_undo_16 : decode cX3_undo 16 = .ok (.dup, 1) := by decide +kernel
theorem dX3_undo_17 : decode cX3_undo 17 = .ok (.getfield 172, 3) := by decide +kernel
theorem dX3_undo_20 : decode cX3_undo 20 = .ok (.iconst 1, 1) := by decide +kernel
theorem dX3_undo_21 : decode cX3_undo 21 = .ok (.isub, 1) := by decide +kernel
theorem dX3_undo_22 : decode cX3_undo 22 = .ok (.putfield 172, 3) := by decide +kernel
theorem dX3_undo_25 : decode cX3_undo 25 = .ok (.aload_n 0, 1) := by decide +kernel
theorem dX3_undo_26 : decode cX3_undo 26 = .ok (.getfield 41, 3) := by decide +kernel
theorem dX3_undo_29 : decode cX3_undo 29 = .ok (.aload_n 0, 1) := by decide +kernel
theorem dX3_undo_30 : decode cX3_undo 30 = .ok (.getfield 37, 3) := by decide +kernel
theorem dX3_undo_33 : decode cX3_undo 33 = .ok (.aload_n 0, 1) := by decide +kernel
theorem dX3_undo_34 : decode cX3_undo 34 = .ok (.getfield 172, 3) := by decide +kernel
theorem dX3_undo_37 : decode cX3_undo 37 = .ok (.aaload, 1) := by decide +kernel
theorem dX3_undo_38 : decode cX3_undo 38 = .ok (.invokevirtual 73, 3) := by decide +kernel
theorem dX3_undo_41 : decode cX3_undo 41 = .ok (.return_, 1) := by decide +kernel
theorem dX3_savedStates_0 : decode cX3_savedStates 0 = .ok (.aload_n 0, 1) := by decide +kernel
theorem dX3_savedStates_1 : decode cX3_savedStates 1 = .ok (.getfield 172, 3) := by decide +kernel
theorem dX3_savedStates_4 : decode cX3_savedStates 4 = .ok (.ireturn, 1) := by decide +kernel
theorem dX3_priceOf_0 : decode cX3_priceOf 0 = .ok (.iload_n 1, 1) := by decide +kernel
theorem dX3_priceOf_1 : decode cX3_priceOf 1 = .ok (.invokestatic 48, 3) := by decide +kernel
theorem dX3_priceOf_4 : decode cX3_priceOf 4 = .ok (.aload_n 0, 1) := by decide +kernel
theorem dX3_priceOf_5 : decode cX3_priceOf 5 = .ok (.getfield 41, 3) := by decide +kernel
theorem dX3_priceOf_8 : decode cX3_priceOf 8 = .ok (.getfield 175, 3) := by decide +kernel
theorem dX3_priceOf_11 : decode cX3_priceOf 11 = .ok (.iload_n 1, 1) := by decide +kernel
theorem dX3_priceOf_12 : decode cX3_priceOf 12 = .ok (.iaload, 1) := by decide +kernel
theorem dX3_priceOf_13 : decode cX3_priceOf 13 = .ok (.ireturn, 1) := by decide +kernel
theorem dX3_cutOf_0 : decode cX3_cutOf 0 = .ok (.iload_n 1, 1) := by decide +kernel
theorem dX3_cutOf_1 : decode cX3_cutOf 1 = .ok (.invokestatic 48, 3) := by decide +kernel
theorem dX3_cutOf_4 : decode cX3_cutOf 4 = .ok (.aload_n 0, 1) := by decide +kernel
theorem dX3_cutOf_5 : decode cX3_cutOf 5 = .ok (.getfield 41, 3) := by decide +kernel
theorem dX3_cutOf_8 : decode cX3_cutOf 8 = .ok (.getfield 178, 3) := by decide +kernel
theorem dX3_cutOf_11 : decode cX3_cutOf 11 = .ok (.iload_n 1, 1) := by decide +kernel
theorem dX3_cutOf_12 : decode cX3_cutOf 12 = .ok (.iaload, 1) := by decide +kernel
theorem dX3_cutOf_13 : decode cX3_cutOf 13 = .ok (.ireturn, 1) := by decide +kernel
theorem dX3_pledgedOf_0 : decode cX3_pledgedOf 0 = .ok (.iload_n 1, 1) := by decide +kernel
theorem dX3_pledgedOf_1 : decode cX3_pledgedOf 1 = .ok (.invokestatic 48, 3) := by decide +kernel
theorem dX3_pledgedOf_4 : decode cX3_pledgedOf 4 = .ok (.aload_n 0, 1) := by decide +kernel
theorem dX3_pledgedOf_5 : decode cX3_pledgedOf 5 = .ok (.getfield 41, 3) := by decide +kernel
theorem dX3_pledgedOf_8 : decode cX3_pledgedOf 8 = .ok (.iload_n 1, 1) := by decide +kernel
theorem dX3_pledgedOf_9 : decode cX3_pledgedOf 9 = .ok (.invokevirtual 181, 3) := by decide +kernel
theorem dX3_pledgedOf_12 : decode cX3_pledgedOf 12 = .ok (.ireturn, 1) := by decide +kernel
theorem dX3_soldOf_0 : decode cX3_soldOf 0 = .ok (.iload_n 1, 1) := by decide +kernel
theorem dX3_soldOf_1 : decode cX3_soldOf 1 = .ok (.invokestatic 48, 3) := by decide +kernel
theorem dX3_soldOf_4 : decode cX3_soldOf 4 = .ok (.aload_n 0, 1) := by decide +kernel
theorem dX3_soldOf_5 : decode cX3_soldOf 5 = .ok (.getfield 41, 3) := by decide +kernel
theorem dX3_soldOf_8 : decode cX3_soldOf 8 = .ok (.getfield 184, 3) := by decide +kernel
theorem dX3_soldOf_11 : decode cX3_soldOf 11 = .ok (.iload_n 1, 1) := by decide +kernel
theorem dX3_soldOf_12 : decode cX3_soldOf 12 = .ok (.iaload, 1) := by decide +kernel
theorem dX3_soldOf_13 : decode cX3_soldOf 13 = .ok (.ireturn, 1) := by decide +kernel
theorem dX3_piecesOf_0 : decode cX3_piecesOf 0 = .ok (.iload_n 1, 1) := by decide +kernel
theorem dX3_piecesOf_1 : decode cX3_piecesOf 1 = .ok (.invokestatic 70, 3) := by decide +kernel
theorem dX3_piecesOf_4 : decode cX3_piecesOf 4 = .ok (.iload_n 2, 1) := by decide +kernel
theorem dX3_piecesOf_5 : decode cX3_piecesOf 5 = .ok (.invokestatic 48, 3) := by decide +kernel
theorem dX3_piecesOf_8 : decode cX3_piecesOf 8 = .ok (.aload_n 0, 1) := by decide +kernel
theorem dX3_piecesOf_9 : decode cX3_piecesOf 9 = .ok (.getfield 41, 3) := by decide +kernel
theorem dX3_piecesOf_12 : decode cX3_piecesOf 12 = .ok (.getfield 88, 3) := by decide +kernel
theorem dX3_piecesOf_15 : decode cX3_piecesOf 15 = .ok (.iload_n 1, 1) := by decide +kernel
theorem dX3_piecesOf_16 : decode cX3_piecesOf 16 = .ok (.iload_n 2, 1) := by decide +kernel
theorem dX3_piecesOf_17 : decode cX3_piecesOf 17 = .ok (.invokestatic 91, 3) := by decide +kernel
theorem dX3_piecesOf_20 : decode cX3_piecesOf 20 = .ok (.iaload, 1) := by decide +kernel
theorem dX3_piecesOf_21 : decode cX3_piecesOf 21 = .ok (.ireturn, 1) := by decide +kernel
theorem dX3_coinsOf_0 : decode cX3_coinsOf 0 = .ok (.iload_n 1, 1) := by decide +kernel
theorem dX3_coinsOf_1 : decode cX3_coinsOf 1 = .ok (.invokestatic 70, 3) := by decide +kernel
theorem dX3_coinsOf_4 : decode cX3_coinsOf 4 = .ok (.aload_n 0, 1) := by decide +kernel
theorem dX3_coinsOf_5 : decode cX3_coinsOf 5 = .ok (.getfield 41, 3) := by decide +kernel
theorem dX3_coinsOf_8 : decode cX3_coinsOf 8 = .ok (.getfield 101, 3) := by decide +kernel
theorem dX3_coinsOf_11 : decode cX3_coinsOf 11 = .ok (.iload_n 1, 1) := by decide +kernel
theorem dX3_coinsOf_12 : decode cX3_coinsOf 12 = .ok (.iaload, 1) := by decide +kernel
theorem dX3_coinsOf_13 : decode cX3_coinsOf 13 = .ok (.ireturn, 1) := by decide +kernel
theorem dX3_debtOf_0 : decode cX3_debtOf 0 = .ok (.iload_n 1, 1) := by decide +kernel
theorem dX3_debtOf_1 : decode cX3_debtOf 1 = .ok (.invokestatic 70, 3) := by decide +kernel
theorem dX3_debtOf_4 : decode cX3_debtOf 4 = .ok (.aload_n 0, 1) := by decide +kernel
theorem dX3_debtOf_5 : decode cX3_debtOf 5 = .ok (.getfield 41, 3) := by decide +kernel
theorem dX3_debtOf_8 : decode cX3_debtOf 8 = .ok (.getfield 110, 3) := by decide +kernel
theorem dX3_debtOf_11 : decode cX3_debtOf 11 = .ok (.iload_n 1, 1) := by decide +kernel
theorem dX3_debtOf_12 : decode cX3_debtOf 12 = .ok (.iaload, 1) := by decide +kernel
theorem dX3_debtOf_13 : decode cX3_debtOf 13 = .ok (.ireturn, 1) := by decide +kernel
theorem dX3_worthOf_0 : decode cX3_worthOf 0 = .ok (.iload_n 1, 1) := by decide +kernel
theorem dX3_worthOf_1 : decode cX3_worthOf 1 = .ok (.invokestatic 70, 3) := by decide +kernel
theorem dX3_worthOf_4 : decode cX3_worthOf 4 = .ok (.aload_n 0, 1) := by decide +kernel
theorem dX3_worthOf_5 : decode cX3_worthOf 5 = .ok (.getfield 41, 3) := by decide +kernel
theorem dX3_worthOf_8 : decode cX3_worthOf 8 = .ok (.iload_n 1, 1) := by decide +kernel
theorem dX3_worthOf_9 : decode cX3_worthOf 9 = .ok (.invokevirtual 187, 3) := by decide +kernel
theorem dX3_worthOf_12 : decode cX3_worthOf 12 = .ok (.ireturn, 1) := by decide +kernel
theorem dX3_coverOf_0 : decode cX3_coverOf 0 = .ok (.iload_n 1, 1) := by decide +kernel
theorem dX3_coverOf_1 : decode cX3_coverOf 1 = .ok (.invokestatic 70, 3) := by decide +kernel
theorem dX3_coverOf_4 : decode cX3_coverOf 4 = .ok (.aload_n 0, 1) := by decide +kernel
theorem dX3_coverOf_5 : decode cX3_coverOf 5 = .ok (.getfield 41, 3) := by decide +kernel
theorem dX3_coverOf_8 : decode cX3_coverOf 8 = .ok (.iload_n 1, 1) := by decide +kernel
theorem dX3_coverOf_9 : decode cX3_coverOf 9 = .ok (.invokevirtual 190, 3) := by decide +kernel
theorem dX3_coverOf_12 : decode cX3_coverOf 12 = .ok (.ireturn, 1) := by decide +kernel
theorem dX3_roomOf_0 : decode cX3_roomOf 0 = .ok (.iload_n 1, 1) := by decide +kernel
theorem dX3_roomOf_1 : decode cX3_roomOf 1 = .ok (.invokestatic 70, 3) := by decide +kernel
theorem dX3_roomOf_4 : decode cX3_roomOf 4 = .ok (.aload_n 0, 1) := by decide +kernel
theorem dX3_roomOf_5 : decode cX3_roomOf 5 = .ok (.getfield 41, 3) := by decide +kernel
theorem dX3_roomOf_8 : decode cX3_roomOf 8 = .ok (.iload_n 1, 1) := by decide +kernel
theorem dX3_roomOf_9 : decode cX3_roomOf 9 = .ok (.invokevirtual 193, 3) := by decide +kernel
theorem dX3_roomOf_12 : decode cX3_roomOf 12 = .ok (.ireturn, 1) := by decide +kernel
theorem dX3_isCalled_0 : decode cX3_isCalled 0 = .ok (.iload_n 1, 1) := by decide +kernel
theorem dX3_isCalled_1 : decode cX3_isCalled 1 = .ok (.invokestatic 70, 3) := by decide +kernel
theorem dX3_isCalled_4 : decode cX3_isCalled 4 = .ok (.aload_n 0, 1) := by decide +kernel
theorem dX3_isCalled_5 : decode cX3_isCalled 5 = .ok (.getfield 41, 3) := by decide +kernel
theorem dX3_isCalled_8 : decode cX3_isCalled 8 = .ok (.getfield 196, 3) := by decide +kernel
theorem dX3_isCalled_11 : decode cX3_isCalled 11 = .ok (.iload_n 1, 1) := by decide +kernel
theorem dX3_isCalled_12 : decode cX3_isCalled 12 = .ok (.iaload, 1) := by decide +kernel
theorem dX3_isCalled_13 : decode cX3_isCalled 13 = .ok (.ifCond .le 7, 3) := by decide +kernel
theorem dX3_isCalled_16 : decode cX3_isCalled 16 = .ok (.iconst 1, 1) := by decide +kernel
theorem dX3_isCalled_17 : decode cX3_isCalled 17 = .ok (.goto 4, 3) := by decide +kernel
theorem dX3_isCalled_20 : decode cX3_isCalled 20 = .ok (.iconst 0, 1) := by decide +kernel
theorem dX3_isCalled_21 : decode cX3_isCalled 21 = .ok (.ireturn, 1) := by decide +kernel
theorem dX3_hoursLeft_0 : decode cX3_hoursLeft 0 = .ok (.iload_n 1, 1) := by decide +kernel
theorem dX3_hoursLeft_1 : decode cX3_hoursLeft 1 = .ok (.invokestatic 70, 3) := by decide +kernel
theorem dX3_hoursLeft_4 : decode cX3_hoursLeft 4 = .ok (.aload_n 0, 1) := by decide +kernel
theorem dX3_hoursLeft_5 : decode cX3_hoursLeft 5 = .ok (.getfield 41, 3) := by decide +kernel
theorem dX3_hoursLeft_8 : decode cX3_hoursLeft 8 = .ok (.getfield 196, 3) := by decide +kernel
theorem dX3_hoursLeft_11 : decode cX3_hoursLeft 11 = .ok (.iload_n 1, 1) := by decide +kernel
theorem dX3_hoursLeft_12 : decode cX3_hoursLeft 12 = .ok (.iaload, 1) := by decide +kernel
theorem dX3_hoursLeft_13 : decode cX3_hoursLeft 13 = .ok (.ifCond .le 7, 3) := by decide +kernel
theorem dX3_hoursLeft_16 : decode cX3_hoursLeft 16 = .ok (.iconst 1, 1) := by decide +kernel
theorem dX3_hoursLeft_17 : decode cX3_hoursLeft 17 = .ok (.goto 4, 3) := by decide +kernel
theorem dX3_hoursLeft_20 : decode cX3_hoursLeft 20 = .ok (.iconst 0, 1) := by decide +kernel
theorem dX3_hoursLeft_21 : decode cX3_hoursLeft 21 = .ok (.invokestatic 81, 3) := by decide +kernel
theorem dX3_hoursLeft_24 : decode cX3_hoursLeft 24 = .ok (.aload_n 0, 1) := by decide +kernel
theorem dX3_hoursLeft_25 : decode cX3_hoursLeft 25 = .ok (.getfield 41, 3) := by decide +kernel
theorem dX3_hoursLeft_28 : decode cX3_hoursLeft 28 = .ok (.getfield 196, 3) := by decide +kernel
theorem dX3_hoursLeft_31 : decode cX3_hoursLeft 31 = .ok (.iload_n 1, 1) := by decide +kernel
theorem dX3_hoursLeft_32 : decode cX3_hoursLeft 32 = .ok (.iaload, 1) := by decide +kernel
theorem dX3_hoursLeft_33 : decode cX3_hoursLeft 33 = .ok (.ireturn, 1) := by decide +kernel
theorem dX3_isBarred_0 : decode cX3_isBarred 0 = .ok (.iload_n 1, 1) := by decide +kernel
theorem dX3_isBarred_1 : decode cX3_isBarred 1 = .ok (.invokestatic 70, 3) := by decide +kernel
theorem dX3_isBarred_4 : decode cX3_isBarred 4 = .ok (.aload_n 0, 1) := by decide +kernel
theorem dX3_isBarred_5 : decode cX3_isBarred 5 = .ok (.getfield 41, 3) := by decide +kernel
theorem dX3_isBarred_8 : decode cX3_isBarred 8 = .ok (.getfield 199, 3) := by decide +kernel
theorem dX3_isBarred_11 : decode cX3_isBarred 11 = .ok (.iload_n 1, 1) := by decide +kernel
theorem dX3_isBarred_12 : decode cX3_isBarred 12 = .ok (.baload, 1) := by decide +kernel
theorem dX3_isBarred_13 : decode cX3_isBarred 13 = .ok (.ireturn, 1) := by decide +kernel
theorem dX3_rankOf_0 : decode cX3_rankOf 0 = .ok (.iload_n 1, 1) := by decide +kernel
theorem dX3_rankOf_1 : decode cX3_rankOf 1 = .ok (.invokestatic 70, 3) := by decide +kernel
theorem dX3_rankOf_4 : decode cX3_rankOf 4 = .ok (.aload_n 0, 1) := by decide +kernel
theorem dX3_rankOf_5 : decode cX3_rankOf 5 = .ok (.getfield 41, 3) := by decide +kernel
theorem dX3_rankOf_8 : decode cX3_rankOf 8 = .ok (.iload_n 1, 1) := by decide +kernel
theorem dX3_rankOf_9 : decode cX3_rankOf 9 = .ok (.invokevirtual 202, 3) := by decide +kernel
theorem dX3_rankOf_12 : decode cX3_rankOf 12 = .ok (.ireturn, 1) := by decide +kernel
theorem dX3_riskyBySorting_0 : decode cX3_riskyBySorting 0 = .ok (.iload_n 1, 1) := by decide +kernel
theorem dX3_riskyBySorting_1 : decode cX3_riskyBySorting 1 = .ok (.invokestatic 205, 3) := by decide +kernel
theorem dX3_riskyBySorting_4 : decode cX3_riskyBySorting 4 = .ok (.aload_n 0, 1) := by decide +kernel
theorem dX3_riskyBySorting_5 : decode cX3_riskyBySorting 5 = .ok (.getfield 41, 3) := by decide +kernel
theorem dX3_riskyBySorting_8 : decode cX3_riskyBySorting 8 = .ok (.aload_n 0, 1) := by decide +kernel
theorem dX3_riskyBySorting_9 : decode cX3_riskyBySorting 9 = .ok (.getfield 23, 3) := by decide +kernel
theorem dX3_riskyBySorting_12 : decode cX3_riskyBySorting 12 = .ok (.invokevirtual 208, 3) := by decide +kernel
theorem dX3_riskyBySorting_15 : decode cX3_riskyBySorting 15 = .ok (.aload_n 0, 1) := by decide +kernel
theorem dX3_riskyBySorting_16 : decode cX3_riskyBySorting 16 = .ok (.getfield 23, 3) := by decide +kernel
theorem dX3_riskyBySorting_19 : decode cX3_riskyBySorting 19 = .ok (.iload_n 1, 1) := by decide +kernel
theorem dX3_riskyBySorting_20 : decode cX3_riskyBySorting 20 = .ok (.iaload, 1) := by decide +kernel
theorem dX3_riskyBySorting_21 : decode cX3_riskyBySorting 21 = .ok (.ireturn, 1) := by decide +kernel
theorem dX3_riskyByTaking_0 : decode cX3_riskyByTaking 0 = .ok (.iload_n 1, 1) := by decide +kernel
theorem dX3_riskyByTaking_1 : decode cX3_riskyByTaking 1 = .ok (.invokestatic 205, 3) := by decide +kernel
theorem dX3_riskyByTaking_4 : decode cX3_riskyByTaking 4 = .ok (.aload_n 0, 1) := by decide +kernel
theorem dX3_riskyByTaking_5 : decode cX3_riskyByTaking 5 = .ok (.getfield 41, 3) := by decide +kernel
theorem dX3_riskyByTaking_8 : decode cX3_riskyByTaking 8 = .ok (.iload_n 1, 1) := by decide +kernel
theorem dX3_riskyByTaking_9 : decode cX3_riskyByTaking 9 = .ok (.invokevirtual 212, 3) := by decide +kernel
theorem dX3_riskyByTaking_12 : decode cX3_riskyByTaking 12 = .ok (.ireturn, 1) := by decide +kernel
theorem dX3_calledNow_0 : decode cX3_calledNow 0 = .ok (.aload_n 0, 1) := by decide +kernel
theorem dX3_calledNow_1 : decode cX3_calledNow 1 = .ok (.getfield 41, 3) := by decide +kernel
theorem dX3_calledNow_4 : decode cX3_calledNow 4 = .ok (.invokevirtual 169, 3) := by decide +kernel
theorem dX3_calledNow_7 : decode cX3_calledNow 7 = .ok (.ireturn, 1) := by decide +kernel
theorem dX3_rate_0 : decode cX3_rate 0 = .ok (.aload_n 0, 1) := by decide +kernel
theorem dX3_rate_1 : decode cX3_rate 1 = .ok (.getfield 41, 3) := by decide +kernel
theorem dX3_rate_4 : decode cX3_rate 4 = .ok (.getfield 124, 3) := by decide +kernel
theorem dX3_rate_7 : decode cX3_rate 7 = .ok (.ireturn, 1) := by decide +kernel
theorem dX3_grace_0 : decode cX3_grace 0 = .ok (.aload_n 0, 1) := by decide +kernel
theorem dX3_grace_1 : decode cX3_grace 1 = .ok (.getfield 41, 3) := by decide +kernel
theorem dX3_grace_4 : decode cX3_grace 4 = .ok (.getfield 128, 3) := by decide +kernel
theorem dX3_grace_7 : decode cX3_grace 7 = .ok (.ireturn, 1) := by decide +kernel
theorem dX3_slip_0 : decode cX3_slip 0 = .ok (.aload_n 0, 1) := by decide +kernel
theorem dX3_slip_1 : decode cX3_slip 1 = .ok (.getfield 41, 3) := by decide +kernel
theorem dX3_slip_4 : decode cX3_slip 4 = .ok (.getfield 131, 3) := by decide +kernel
theorem dX3_slip_7 : decode cX3_slip 7 = .ok (.ireturn, 1) := by decide +kernel
theorem dX3_order_0 : decode cX3_order 0 = .ok (.aload_n 0, 1) := by decide +kernel
theorem dX3_order_1 : decode cX3_order 1 = .ok (.getfield 41, 3) := by decide +kernel
theorem dX3_order_4 : decode cX3_order 4 = .ok (.getfield 134, 3) := by decide +kernel
theorem dX3_order_7 : decode cX3_order 7 = .ok (.ireturn, 1) := by decide +kernel
theorem dX3_fallToCallByTrying_0 : decode cX3_fallToCallByTrying 0 = .ok (.iload_n 1, 1) := by decide +kernel
theorem dX3_fallToCallByTrying_1 : decode cX3_fallToCallByTrying 1 = .ok (.invokestatic 70, 3) := by decide +kernel
theorem dX3_fallToCallByTrying_4 : decode cX3_fallToCallByTrying 4 = .ok (.aload_n 0, 1) := by decide +kernel
theorem dX3_fallToCallByTrying_5 : decode cX3_fallToCallByTrying 5 = .ok (.getfield 41, 3) := by decide +kernel
theorem dX3_fallToCallByTrying_8 : decode cX3_fallToCallByTrying 8 = .ok (.iload_n 1, 1) := by decide +kernel
theorem dX3_fallToCallByTrying_9 : decode cX3_fallToCallByTrying 9 = .ok (.invokevirtual 215, 3) := by decide +kernel
theorem dX3_fallToCallByTrying_12 : decode cX3_fallToCallByTrying 12 = .ok (.istore_n 2, 1) := by decide +kernel
theorem dX3_fallToCallByTrying_13 : decode cX3_fallToCallByTrying 13 = .ok (.iload_n 2, 1) := by decide +kernel
theorem dX3_fallToCallByTrying_14 : decode cX3_fallToCallByTrying 14 = .ok (.iconst (-1), 1) := by decide +kernel
theorem dX3_fallToCallByTrying_15 : decode cX3_fallToCallByTrying 15 = .ok (.if_icmp .eq 7, 3) := by decide +kernel
theorem dX3_fallToCallByTrying_18 : decode cX3_fallToCallByTrying 18 = .ok (.iconst 1, 1) := by decide +kernel
theorem dX3_fallToCallByTrying_19 : decode cX3_fallToCallByTrying 19 = .ok (.goto 4, 3) := by decide +kernel
theorem dX3_fallToCallByTrying_22 : decode cX3_fallToCallByTrying 22 = .ok (.iconst 0, 1) := by decide +kernel
theorem dX3_fallToCallByTrying_23 : decode cX3_fallToCallByTrying 23 = .ok (.invokestatic 81, 3) := by decide +kernel
theorem dX3_fallToCallByTrying_26 : decode cX3_fallToCallByTrying 26 = .ok (.iload_n 2, 1) := by decide +kernel
theorem dX3_fallToCallByTrying_27 : decode cX3_fallToCallByTrying 27 = .ok (.ireturn, 1) := by decide +kernel
theorem dX3_fallToCallByHalving_0 : decode cX3_fallToCallByHalving 0 = .ok (.iload_n 1, 1) := by decide +kernel
theorem dX3_fallToCallByHalving_1 : decode cX3_fallToCallByHalving 1 = .ok (.invokestatic 70, 3) := by decide +kernel
theorem dX3_fallToCallByHalving_4 : decode cX3_fallToCallByHalving 4 = .ok (.aload_n 0, 1) := by decide +kernel
theorem dX3_fallToCallByHalving_5 : decode cX3_fallToCallByHalving 5 = .ok (.getfield 41, 3) := by decide +kernel
theorem dX3_fallToCallByHalving_8 : decode cX3_fallToCallByHalving 8 = .ok (.iload_n 1, 1) := by decide +kernel
theorem dX3_fallToCallByHalving_9 : decode cX3_fallToCallByHalving 9 = .ok (.invokevirtual 218, 3) := by decide +kernel
theorem dX3_fallToCallByHalving_12 : decode cX3_fallToCallByHalving 12 = .ok (.istore_n 2, 1) := by decide +kernel
theorem dX3_fallToCallByHalving_13 : decode cX3_fallToCallByHalving 13 = .ok (.iload_n 2, 1) := by decide +kernel
theorem dX3_fallToCallByHalving_14 : decode cX3_fallToCallByHalving 14 = .ok (.iconst (-1), 1) := by decide +kernel
theorem dX3_fallToCallByHalving_15 : decode cX3_fallToCallByHalving 15 = .ok (.if_icmp .eq 7, 3) := by decide +kernel
theorem dX3_fallToCallByHalving_18 : decode cX3_fallToCallByHalving 18 = .ok (.iconst 1, 1) := by decide +kernel
theorem dX3_fallToCallByHalving_19 : decode cX3_fallToCallByHalving 19 = .ok (.goto 4, 3) := by decide +kernel
theorem dX3_fallToCallByHalving_22 : decode cX3_fallToCallByHalving 22 = .ok (.iconst 0, 1) := by decide +kernel
theorem dX3_fallToCallByHalving_23 : decode cX3_fallToCallByHalving 23 = .ok (.invokestatic 81, 3) := by decide +kernel
theorem dX3_fallToCallByHalving_26 : decode cX3_fallToCallByHalving 26 = .ok (.iload_n 2, 1) := by decide +kernel
theorem dX3_fallToCallByHalving_27 : decode cX3_fallToCallByHalving 27 = .ok (.ireturn, 1) := by decide +kernel
theorem dX3_hoursToCall_0 : decode cX3_hoursToCall 0 = .ok (.iload_n 1, 1) := by decide +kernel
theorem dX3_hoursToCall_1 : decode cX3_hoursToCall 1 = .ok (.invokestatic 70, 3) := by decide +kernel
theorem dX3_hoursToCall_4 : decode cX3_hoursToCall 4 = .ok (.aload_n 0, 1) := by decide +kernel
theorem dX3_hoursToCall_5 : decode cX3_hoursToCall 5 = .ok (.getfield 41, 3) := by decide +kernel
theorem dX3_hoursToCall_8 : decode cX3_hoursToCall 8 = .ok (.iload_n 1, 1) := by decide +kernel
theorem dX3_hoursToCall_9 : decode cX3_hoursToCall 9 = .ok (.invokevirtual 221, 3) := by decide +kernel
theorem dX3_hoursToCall_12 : decode cX3_hoursToCall 12 = .ok (.istore_n 2, 1) := by decide +kernel
theorem dX3_hoursToCall_13 : decode cX3_hoursToCall 13 = .ok (.iload_n 2, 1) := by decide +kernel
theorem dX3_hoursToCall_14 : decode cX3_hoursToCall 14 = .ok (.iconst (-1), 1) := by decide +kernel
theorem dX3_hoursToCall_15 : decode cX3_hoursToCall 15 = .ok (.if_icmp .eq 7, 3) := by decide +kernel
theorem dX3_hoursToCall_18 : decode cX3_hoursToCall 18 = .ok (.iconst 1, 1) := by decide +kernel
theorem dX3_hoursToCall_19 : decode cX3_hoursToCall 19 = .ok (.goto 4, 3) := by decide +kernel
theorem dX3_hoursToCall_22 : decode cX3_hoursToCall 22 = .ok (.iconst 0, 1) := by decide +kernel
theorem dX3_hoursToCall_23 : decode cX3_hoursToCall 23 = .ok (.invokestatic 81, 3) := by decide +kernel
theorem dX3_hoursToCall_26 : decode cX3_hoursToCall 26 = .ok (.iload_n 2, 1) := by decide +kernel
theorem dX3_hoursToCall_27 : decode cX3_hoursToCall 27 = .ok (.ireturn, 1) := by decide +kernel
theorem dX3_wouldSell_0 : decode cX3_wouldSell 0 = .ok (.iload_n 1, 1) := by decide +kernel
theorem dX3_wouldSell_1 : decode cX3_wouldSell 1 = .ok (.invokestatic 70, 3) := by decide +kernel
theorem dX3_wouldSell_4 : decode cX3_wouldSell 4 = .ok (.aload_n 0, 1) := by decide +kernel
theorem dX3_wouldSell_5 : decode cX3_wouldSell 5 = .ok (.getfield 19, 3) := by decide +kernel
theorem dX3_wouldSell_8 : decode cX3_wouldSell 8 = .ok (.aload_n 0, 1) := by decide +kernel
theorem dX3_wouldSell_9 : decode cX3_wouldSell 9 = .ok (.getfield 41, 3) := by decide +kernel
theorem dX3_wouldSell_12 : decode cX3_wouldSell 12 = .ok (.iload_n 1, 1) := by decide +kernel
theorem dX3_wouldSell_13 : decode cX3_wouldSell 13 = .ok (.invokevirtual 224, 3) := by decide +kernel
theorem dX3_wouldSell_16 : decode cX3_wouldSell 16 = .ok (.aload_n 0, 1) := by decide +kernel
theorem dX3_wouldSell_17 : decode cX3_wouldSell 17 = .ok (.getfield 19, 3) := by decide +kernel
theorem dX3_wouldSell_20 : decode cX3_wouldSell 20 = .ok (.getfield 228, 3) := by decide +kernel
theorem dX3_wouldSell_23 : decode cX3_wouldSell 23 = .ok (.ireturn, 1) := by decide +kernel
theorem dX3_wouldLose_0 : decode cX3_wouldLose 0 = .ok (.iload_n 1, 1) := by decide +kernel
theorem dX3_wouldLose_1 : decode cX3_wouldLose 1 = .ok (.invokestatic 70, 3) := by decide +kernel
theorem dX3_wouldLose_4 : decode cX3_wouldLose 4 = .ok (.aload_n 0, 1) := by decide +kernel
theorem dX3_wouldLose_5 : decode cX3_wouldLose 5 = .ok (.getfield 19, 3) := by decide +kernel
theorem dX3_wouldLose_8 : decode cX3_wouldLose 8 = .ok (.aload_n 0, 1) := by decide +kernel
theorem dX3_wouldLose_9 : decode cX3_wouldLose 9 = .ok (.getfield 41, 3) := by decide +kernel
theorem dX3_wouldLose_12 : decode cX3_wouldLose 12 = .ok (.iload_n 1, 1) := by decide +kernel
theorem dX3_wouldLose_13 : decode cX3_wouldLose 13 = .ok (.invokevirtual 224, 3) := by decide +kernel
theorem dX3_wouldLose_16 : decode cX3_wouldLose 16 = .ok (.aload_n 0, 1) := by decide +kernel
theorem dX3_wouldLose_17 : decode cX3_wouldLose 17 = .ok (.getfield 19, 3) := by decide +kernel
theorem dX3_wouldLose_20 : decode cX3_wouldLose 20 = .ok (.getfield 231, 3) := by decide +kernel
theorem dX3_wouldLose_23 : decode cX3_wouldLose 23 = .ok (.ireturn, 1) := by decide +kernel
theorem dX3_calledIfFallen_0 : decode cX3_calledIfFallen 0 = .ok (.iload_n 1, 1) := by decide +kernel
theorem dX3_calledIfFallen_1 : decode cX3_calledIfFallen 1 = .ok (.iconst 1, 1) := by decide +kernel
theorem dX3_calledIfFallen_2 : decode cX3_calledIfFallen 2 = .ok (.bipush 90, 2) := by decide +kernel
theorem dX3_calledIfFallen_4 : decode cX3_calledIfFallen 4 = .ok (.invokestatic 52, 3) := by decide +kernel
theorem dX3_calledIfFallen_7 : decode cX3_calledIfFallen 7 = .ok (.aload_n 0, 1) := by decide +kernel
theorem dX3_calledIfFallen_8 : decode cX3_calledIfFallen 8 = .ok (.getfield 41, 3) := by decide +kernel
theorem dX3_calledIfFallen_11 : decode cX3_calledIfFallen 11 = .ok (.iload_n 1, 1) := by decide +kernel
theorem dX3_calledIfFallen_12 : decode cX3_calledIfFallen 12 = .ok (.invokevirtual 234, 3) := by decide +kernel
theorem dX3_calledIfFallen_15 : decode cX3_calledIfFallen 15 = .ok (.ireturn, 1) := by decide +kernel
theorem dX3_hours_0 : decode cX3_hours 0 = .ok (.aload_n 0, 1) := by decide +kernel
theorem dX3_hours_1 : decode cX3_hours 1 = .ok (.getfield 41, 3) := by decide +kernel
theorem dX3_hours_4 : decode cX3_hours 4 = .ok (.getfield 237, 3) := by decide +kernel
theorem dX3_hours_7 : decode cX3_hours 7 = .ok (.ireturn, 1) := by decide +kernel
theorem dX3_debtsByClients_0 : decode cX3_debtsByClients 0 = .ok (.aload_n 0, 1) := by decide +kernel
theorem dX3_debtsByClients_1 : decode cX3_debtsByClients 1 = .ok (.getfield 41, 3) := by decide +kernel
theorem dX3_debtsByClients_4 : decode cX3_debtsByClients 4 = .ok (.invokevirtual 240, 3) := by decide +kernel
theorem dX3_debtsByClients_7 : decode cX3_debtsByClients 7 = .ok (.ireturn, 1) := by decide +kernel
theorem dX3_debtsByAccount_0 : decode cX3_debtsByAccount 0 = .ok (.aload_n 0, 1) := by decide +kernel
theorem dX3_debtsByAccount_1 : decode cX3_debtsByAccount 1 = .ok (.getfield 41, 3) := by decide +kernel
theorem dX3_debtsByAccount_4 : decode cX3_debtsByAccount 4 = .ok (.getfield 243, 3) := by decide +kernel
theorem dX3_debtsByAccount_7 : decode cX3_debtsByAccount 7 = .ok (.aload_n 0, 1) := by decide +kernel
theorem dX3_debtsByAccount_8 : decode cX3_debtsByAccount 8 = .ok (.getfield 41, 3) := by decide +kernel
theorem dX3_debtsByAccount_11 : decode cX3_debtsByAccount 11 = .ok (.getfield 246, 3) := by decide +kernel
theorem dX3_debtsByAccount_14 : decode cX3_debtsByAccount 14 = .ok (.iadd, 1) := by decide +kernel
theorem dX3_debtsByAccount_15 : decode cX3_debtsByAccount 15 = .ok (.aload_n 0, 1) := by decide +kernel
theorem dX3_debtsByAccount_16 : decode cX3_debtsByAccount 16 = .ok (.getfield 41, 3) := by decide +kernel
theorem dX3_debtsByAccount_19 : decode cX3_debtsByAccount 19 = .ok (.getfield 249, 3) := by decide +kernel
theorem dX3_debtsByAccount_22 : decode cX3_debtsByAccount 22 = .ok (.isub, 1) := by decide +kernel
theorem dX3_debtsByAccount_23 : decode cX3_debtsByAccount 23 = .ok (.aload_n 0, 1) := by decide +kernel
theorem dX3_debtsByAccount_24 : decode cX3_debtsByAccount 24 = .ok (.getfield 41, 3) := by decide +kernel
theorem dX3_debtsByAccount_27 : decode cX3_debtsByAccount 27 = .ok (.getfield 252, 3) := by decide +kernel
theorem dX3_debtsByAccount_30 : decode cX3_debtsByAccount 30 = .ok (.isub, 1) := by decide +kernel
theorem dX3_debtsByAccount_31 : decode cX3_debtsByAccount 31 = .ok (.ireturn, 1) := by decide +kernel
theorem dX3_lent_0 : decode cX3_lent 0 = .ok (.aload_n 0, 1) := by decide +kernel
theorem dX3_lent_1 : decode cX3_lent 1 = .ok (.getfield 41, 3) := by decide +kernel
theorem dX3_lent_4 : decode cX3_lent 4 = .ok (.getfield 243, 3) := by decide +kernel
theorem dX3_lent_7 : decode cX3_lent 7 = .ok (.ireturn, 1) := by decide +kernel
theorem dX3_interest_0 : decode cX3_interest 0 = .ok (.aload_n 0, 1) := by decide +kernel
theorem dX3_interest_1 : decode cX3_interest 1 = .ok (.getfield 41, 3) := by decide +kernel
theorem dX3_interest_4 : decode cX3_interest 4 = .ok (.getfield 246, 3) := by decide +kernel
theorem dX3_interest_7 : decode cX3_interest 7 = .ok (.ireturn, 1) := by decide +kernel
theorem dX3_repaid_0 : decode cX3_repaid 0 = .ok (.aload_n 0, 1) := by decide +kernel
theorem dX3_repaid_1 : decode cX3_repaid 1 = .ok (.getfield 41, 3) := by decide +kernel
theorem dX3_repaid_4 : decode cX3_repaid 4 = .ok (.getfield 249, 3) := by decide +kernel
theorem dX3_repaid_7 : decode cX3_repaid 7 = .ok (.ireturn, 1) := by decide +kernel
theorem dX3_lost_0 : decode cX3_lost 0 = .ok (.aload_n 0, 1) := by decide +kernel
theorem dX3_lost_1 : decode cX3_lost 1 = .ok (.getfield 41, 3) := by decide +kernel
theorem dX3_lost_4 : decode cX3_lost 4 = .ok (.getfield 252, 3) := by decide +kernel
theorem dX3_lost_7 : decode cX3_lost 7 = .ok (.ireturn, 1) := by decide +kernel
theorem dX3_calls_0 : decode cX3_calls 0 = .ok (.aload_n 0, 1) := by decide +kernel
theorem dX3_calls_1 : decode cX3_calls 1 = .ok (.getfield 41, 3) := by decide +kernel
theorem dX3_calls_4 : decode cX3_calls 4 = .ok (.getfield 255, 3) := by decide +kernel
theorem dX3_calls_7 : decode cX3_calls 7 = .ok (.ireturn, 1) := by decide +kernel
theorem dX3_soldOut_0 : decode cX3_soldOut 0 = .ok (.aload_n 0, 1) := by decide +kernel
theorem dX3_soldOut_1 : decode cX3_soldOut 1 = .ok (.getfield 41, 3) := by decide +kernel
theorem dX3_soldOut_4 : decode cX3_soldOut 4 = .ok (.getfield 258, 3) := by decide +kernel
theorem dX3_soldOut_7 : decode cX3_soldOut 7 = .ok (.ireturn, 1) := by decide +kernel
theorem dX3_usedShare_0 : decode cX3_usedShare 0 = .ok (.aload_n 0, 1) := by decide +kernel
theorem dX3_usedShare_1 : decode cX3_usedShare 1 = .ok (.getfield 41, 3) := by decide +kernel
theorem dX3_usedShare_4 : decode cX3_usedShare 4 = .ok (.invokevirtual 261, 3) := by decide +kernel
theorem dX3_usedShare_7 : decode cX3_usedShare 7 = .ok (.istore_n 1, 1) := by decide +kernel
theorem dX3_usedShare_8 : decode cX3_usedShare 8 = .ok (.iload_n 1, 1) := by decide +kernel
theorem dX3_usedShare_9 : decode cX3_usedShare 9 = .ok (.ifCond .ne 7, 3) := by decide +kernel
theorem dX3_usedShare_12 : decode cX3_usedShare 12 = .ok (.dconst 0, 1) := by decide +kernel
theorem dX3_usedShare_13 : decode cX3_usedShare 13 = .ok (.goto 14, 3) := by decide +kernel
theorem dX3_usedShare_16 : decode cX3_usedShare 16 = .ok (.aload_n 0, 1) := by decide +kernel
theorem dX3_usedShare_17 : decode cX3_usedShare 17 = .ok (.getfield 41, 3) := by decide +kernel
theorem dX3_usedShare_20 : decode cX3_usedShare 20 = .ok (.invokevirtual 240, 3) := by decide +kernel
theorem dX3_usedShare_23 : decode cX3_usedShare 23 = .ok (.i2d, 1) := by decide +kernel
theorem dX3_usedShare_24 : decode cX3_usedShare 24 = .ok (.iload_n 1, 1) := by decide +kernel
theorem dX3_usedShare_25 : decode cX3_usedShare 25 = .ok (.i2d, 1) := by decide +kernel
theorem dX3_usedShare_26 : decode cX3_usedShare 26 = .ok (.ddiv, 1) := by decide +kernel
theorem dX3_usedShare_27 : decode cX3_usedShare 27 = .ok (.dreturn, 1) := by decide +kernel
theorem dX3_digest_0 : decode cX3_digest 0 = .ok (.ldc2_w 264, 3) := by decide +kernel
theorem dX3_digest_3 : decode cX3_digest 3 = .ok (.lstore_n 1, 1) := by decide +kernel
theorem dX3_digest_4 : decode cX3_digest 4 = .ok (.iconst 0, 1) := by decide +kernel
theorem dX3_digest_5 : decode cX3_digest 5 = .ok (.istore_n 3, 1) := by decide +kernel
theorem dX3_digest_6 : decode cX3_digest 6 = .ok (.iload_n 3, 1) := by decide +kernel
theorem dX3_digest_7 : decode cX3_digest 7 = .ok (.bipush 6, 2) := by decide +kernel
theorem dX3_digest_9 : decode cX3_digest 9 = .ok (.if_icmp .ge 16, 3) := by decide +kernel
theorem dX3_digest_12 : decode cX3_digest 12 = .ok (.aload_n 0, 1) := by decide +kernel
theorem dX3_digest_13 : decode cX3_digest 13 = .ok (.lload_n 1, 1) := by decide +kernel
theorem dX3_digest_14 : decode cX3_digest 14 = .ok (.iload_n 3, 1) := by decide +kernel
theorem dX3_digest_15 : decode cX3_digest 15 = .ok (.invokevirtual 266, 3) := by decide +kernel
theorem dX3_digest_18 : decode cX3_digest 18 = .ok (.lstore_n 1, 1) := by decide +kernel
theorem dX3_digest_19 : decode cX3_digest 19 = .ok (.iinc 3 1, 3) := by decide +kernel
theorem dX3_digest_22 : decode cX3_digest 22 = .ok (.goto (-16), 3) := by decide +kernel
theorem dX3_digest_25 : decode cX3_digest 25 = .ok (.iconst 0, 1) := by decide +kernel
theorem dX3_digest_26 : decode cX3_digest 26 = .ok (.istore_n 3, 1) := by decide +kernel
theorem dX3_digest_27 : decode cX3_digest 27 = .ok (.iload_n 3, 1) := by decide +kernel
theorem dX3_digest_28 : decode cX3_digest 28 = .ok (.bipush 8, 2) := by decide +kernel
theorem dX3_digest_30 : decode cX3_digest 30 = .ok (.if_icmp .ge 23, 3) := by decide +kernel
theorem dX3_digest_33 : decode cX3_digest 33 = .ok (.aload_n 0, 1) := by decide +kernel
theorem dX3_digest_34 : decode cX3_digest 34 = .ok (.lload_n 1, 1) := by decide +kernel
theorem dX3_digest_35 : decode cX3_digest 35 = .ok (.iload_n 3, 1) := by decide +kernel
theorem dX3_digest_36 : decode cX3_digest 36 = .ok (.invokevirtual 270, 3) := by decide +kernel
theorem dX3_digest_39 : decode cX3_digest 39 = .ok (.lstore_n 1, 1) := by decide +kernel
theorem dX3_digest_40 : decode cX3_digest 40 = .ok (.aload_n 0, 1) := by decide +kernel
theorem dX3_digest_41 : decode cX3_digest 41 = .ok (.lload_n 1, 1) := by decide +kernel
theorem dX3_digest_42 : decode cX3_digest 42 = .ok (.iload_n 3, 1) := by decide +kernel
theorem dX3_digest_43 : decode cX3_digest 43 = .ok (.invokevirtual 273, 3) := by decide +kernel
theorem dX3_digest_46 : decode cX3_digest 46 = .ok (.lstore_n 1, 1) := by decide +kernel
theorem dX3_digest_47 : decode cX3_digest 47 = .ok (.iinc 3 1, 3) := by decide +kernel
theorem dX3_digest_50 : decode cX3_digest 50 = .ok (.goto (-23), 3) := by decide +kernel
theorem dX3_digest_53 : decode cX3_digest 53 = .ok (.aload_n 0, 1) := by decide +kernel
theorem dX3_digest_54 : decode cX3_digest 54 = .ok (.getfield 41, 3) := by decide +kernel
theorem dX3_digest_57 : decode cX3_digest 57 = .ok (.aload_n 0, 1) := by decide +kernel
theorem dX3_digest_58 : decode cX3_digest 58 = .ok (.getfield 23, 3) := by decide +kernel
theorem dX3_digest_61 : decode cX3_digest 61 = .ok (.invokevirtual 208, 3) := by decide +kernel
theorem dX3_digest_64 : decode cX3_digest 64 = .ok (.iconst 0, 1) := by decide +kernel
theorem dX3_digest_65 : decode cX3_digest 65 = .ok (.istore_n 3, 1) := by decide +kernel
theorem dX3_digest_66 : decode cX3_digest 66 = .ok (.iload_n 3, 1) := by decide +kernel
theorem dX3_digest_67 : decode cX3_digest 67 = .ok (.bipush 8, 2) := by decide +kernel
theorem dX3_digest_69 : decode cX3_digest 69 = .ok (.if_icmp .ge 35, 3) := by decide +kernel
theorem dX3_digest_72 : decode cX3_digest 72 = .ok (.lload_n 1, 1) := by decide +kernel
theorem dX3_digest_73 : decode cX3_digest 73 = .ok (.aload_n 0, 1) := by decide +kernel
theorem dX3_digest_74 : decode cX3_digest 74 = .ok (.getfield 23, 3) := by decide +kernel
theorem dX3_digest_77 : decode cX3_digest 77 = .ok (.iload_n 3, 1) := by decide +kernel
theorem dX3_digest_78 : decode cX3_digest 78 = .ok (.iaload, 1) := by decide +kernel
theorem dX3_digest_79 : decode cX3_digest 79 = .ok (.i2l, 1) := by decide +kernel
theorem dX3_digest_80 : decode cX3_digest 80 = .ok (.invokestatic 276, 3) := by decide +kernel
theorem dX3_digest_83 : decode cX3_digest 83 = .ok (.lstore_n 1, 1) := by decide +kernel
theorem dX3_digest_84 : decode cX3_digest 84 = .ok (.lload_n 1, 1) := by decide +kernel
theorem dX3_digest_85 : decode cX3_digest 85 = .ok (.aload_n 0, 1) := by decide +kernel
theorem dX3_digest_86 : decode cX3_digest 86 = .ok (.getfield 41, 3) := by decide +kernel
theorem dX3_digest_89 : decode cX3_digest 89 = .ok (.iload_n 3, 1) := by decide +kernel
theorem dX3_digest_90 : decode cX3_digest 90 = .ok (.invokevirtual 212, 3) := by decide +kernel
theorem dX3_digest_93 : decode cX3_digest 93 = .ok (.i2l, 1) := by decide +kernel
theorem dX3_digest_94 : decode cX3_digest 94 = .ok (.invokestatic 276, 3) := by decide +kernel
theorem dX3_digest_97 : decode cX3_digest 97 = .ok (.lstore_n 1, 1) := by decide +kernel
theorem dX3_digest_98 : decode cX3_digest 98 = .ok (.iinc 3 1, 3) := by decide +kernel
theorem dX3_digest_101 : decode cX3_digest 101 = .ok (.goto (-35), 3) := by decide +kernel
theorem dX3_digest_104 : decode cX3_digest 104 = .ok (.aload_n 0, 1) := by decide +kernel
theorem dX3_digest_105 : decode cX3_digest 105 = .ok (.lload_n 1, 1) := by decide +kernel
theorem dX3_digest_106 : decode cX3_digest 106 = .ok (.invokevirtual 280, 3) := by decide +kernel
theorem dX3_digest_109 : decode cX3_digest 109 = .ok (.lstore_n 1, 1) := by decide +kernel
theorem dX3_digest_110 : decode cX3_digest 110 = .ok (.aload_n 0, 1) := by decide +kernel
theorem dX3_digest_111 : decode cX3_digest 111 = .ok (.lload_n 1, 1) := by decide +kernel
theorem dX3_digest_112 : decode cX3_digest 112 = .ok (.invokevirtual 284, 3) := by decide +kernel
theorem dX3_digest_115 : decode cX3_digest 115 = .ok (.lstore_n 1, 1) := by decide +kernel
theorem dX3_digest_116 : decode cX3_digest 116 = .ok (.aload_n 0, 1) := by decide +kernel
theorem dX3_digest_117 : decode cX3_digest 117 = .ok (.lload_n 1, 1) := by decide +kernel
theorem dX3_digest_118 : decode cX3_digest 118 = .ok (.invokevirtual 287, 3) := by decide +kernel
theorem dX3_digest_121 : decode cX3_digest 121 = .ok (.lreturn, 1) := by decide +kernel
theorem dX3_hashKind_0 : decode cX3_hashKind 0 = .ok (.lload_n 1, 1) := by decide +kernel
theorem dX3_hashKind_1 : decode cX3_hashKind 1 = .ok (.aload_n 0, 1) := by decide +kernel
theorem dX3_hashKind_2 : decode cX3_hashKind 2 = .ok (.getfield 41, 3) := by decide +kernel
theorem dX3_hashKind_5 : decode cX3_hashKind 5 = .ok (.getfield 175, 3) := by decide +kernel
theorem dX3_hashKind_8 : decode cX3_hashKind 8 = .ok (.iload_n 3, 1) := by decide +kernel
theorem dX3_hashKind_9 : decode cX3_hashKind 9 = .ok (.iaload, 1) := by decide +kernel
theorem dX3_hashKind_10 : decode cX3_hashKind 10 = .ok (.i2l, 1) := by decide +kernel
theorem dX3_hashKind_11 : decode cX3_hashKind 11 = .ok (.invokestatic 276, 3) := by decide +kernel
theorem dX3_hashKind_14 : decode cX3_hashKind 14 = .ok (.lstore 4, 2) := by decide +kernel
theorem dX3_hashKind_16 : decode cX3_hashKind 16 = .ok (.lload 4, 2) := by decide +kernel
theorem dX3_hashKind_18 : decode cX3_hashKind 18 = .ok (.aload_n 0, 1) := by decide +kernel
theorem dX3_hashKind_19 : decode cX3_hashKind 19 = .ok (.getfield 41, 3) := by decide +kernel
theorem dX3_hashKind_22 : decode cX3_hashKind 22 = .ok (.getfield 178, 3) := by decide +kernel
theorem dX3_hashKind_25 : decode cX3_hashKind 25 = .ok (.iload_n 3, 1) := by decide +kernel
theorem dX3_hashKind_26 : decode cX3_hashKind 26 = .ok (.iaload, 1) := by decide +kernel
theorem dX3_hashKind_27 : decode cX3_hashKind 27 = .ok (.i2l, 1) := by decide +kernel
theorem dX3_hashKind_28 : decode cX3_hashKind 28 = .ok (.invokestatic 276, 3) := by decide +kernel
theorem dX3_hashKind_31 : decode cX3_hashKind 31 = .ok (.lstore 4, 2) := by decide +kernel
theorem dX3_hashKind_33 : decode cX3_hashKind 33 = .ok (.lload 4, 2) := by decide +kernel
theorem dX3_hashKind_35 : decode cX3_hashKind 35 = .ok (.aload_n 0, 1) := by decide +kernel
theorem dX3_hashKind_36 : decode cX3_hashKind 36 = .ok (.getfield 41, 3) := by decide +kernel
theorem dX3_hashKind_39 : decode cX3_hashKind 39 = .ok (.iload_n 3, 1) := by decide +kernel
theorem dX3_hashKind_40 : decode cX3_hashKind 40 = .ok (.invokevirtual 181, 3) := by decide +kernel
theorem dX3_hashKind_43 : decode cX3_hashKind 43 = .ok (.i2l, 1) := by decide +kernel
theorem dX3_hashKind_44 : decode cX3_hashKind 44 = .ok (.invokestatic 276, 3) := by decide +kernel
theorem dX3_hashKind_47 : decode cX3_hashKind 47 = .ok (.lstore 4, 2) := by decide +kernel
theorem dX3_hashKind_49 : decode cX3_hashKind 49 = .ok (.lload 4, 2) := by decide +kernel
theorem dX3_hashKind_51 : decode cX3_hashKind 51 = .ok (.aload_n 0, 1) := by decide +kernel
theorem dX3_hashKind_52 : decode cX3_hashKind 52 = .ok (.getfield 41, 3) := by decide +kernel
theorem dX3_hashKind_55 : decode cX3_hashKind 55 = .ok (.getfield 184, 3) := by decide +kernel
theorem dX3_hashKind_58 : decode cX3_hashKind 58 = .ok (.iload_n 3, 1) := by decide +kernel
theorem dX3_hashKind_59 : decode cX3_hashKind 59 = .ok (.iaload, 1) := by decide +kernel
theorem dX3_hashKind_60 : decode cX3_hashKind 60 = .ok (.i2l, 1) := by decide +kernel
theorem dX3_hashKind_61 : decode cX3_hashKind 61 = .ok (.invokestatic 276, 3) := by decide +kernel
theorem dX3_hashKind_64 : decode cX3_hashKind 64 = .ok (.lreturn, 1) := by decide +kernel
theorem dX3_hashPledges_0 : decode cX3_hashPledges 0 = .ok (.lload_n 1, 1) := by decide +kernel
theorem dX3_hashPledges_1 : decode cX3_hashPledges 1 = .ok (.lstore 4, 2) := by decide +kernel
theorem dX3_hashPledges_3 : decode cX3_hashPledges 3 = .ok (.iconst 0, 1) := by decide +kernel
theorem dX3_hashPledges_4 : decode cX3_hashPledges 4 = .ok (.istore 6, 2) := by decide +kernel
theorem dX3_hashPledges_6 : decode cX3_hashPledges 6 = .ok (.iload 6, 2) := by decide +kernel
theorem dX3_hashPledges_8 : decode cX3_hashPledges 8 = .ok (.bipush 6, 2) := by decide +kernel
theorem dX3_hashPledges_10 : decode cX3_hashPledges 10 = .ok (.if_icmp .ge 31, 3) := by decide +kernel
theorem dX3_hashPledges_13 : decode cX3_hashPledges 13 = .ok (.lload 4, 2) := by decide +kernel
theorem dX3_hashPledges_15 : decode cX3_hashPledges 15 = .ok (.aload_n 0, 1) := by decide +kernel
theorem dX3_hashPledges_16 : decode cX3_hashPledges 16 = .ok (.getfield 41, 3) := by decide +kernel
theorem dX3_hashPledges_19 : decode cX3_hashPledges 19 = .ok (.getfield 88, 3) := by decide +kernel
theorem dX3_hashPledges_22 : decode cX3_hashPledges 22 = .ok (.iload_n 3, 1) := by decide +kernel
theorem dX3_hashPledges_23 : decode cX3_hashPledges 23 = .ok (.iload 6, 2) := by decide +kernel
theorem dX3_hashPledges_25 : decode cX3_hashPledges 25 = .ok (.invokestatic 91, 3) := by decide +kernel
theorem dX3_hashPledges_28 : decode cX3_hashPledges 28 = .ok (.iaload, 1) := by decide +kernel
theorem dX3_hashPledges_29 : decode cX3_hashPledges 29 = .ok (.i2l, 1) := by decide +kernel
theorem dX3_hashPledges_30 : decode cX3_hashPledges 30 = .ok (.invokestatic 276, 3) := by decide +kernel
theorem dX3_hashPledges_33 : decode cX3_hashPledges 33 = .ok (.lstore 4, 2) := by decide +kernel
theorem dX3_hashPledges_35 : decode cX3_hashPledges 35 = .ok (.iinc 6 1, 3) := by decide +kernel
theorem dX3_hashPledges_38 : decode cX3_hashPledges 38 = .ok (.goto (-32), 3) := by decide +kernel
theorem dX3_hashPledges_41 : decode cX3_hashPledges 41 = .ok (.lload 4, 2) := by decide +kernel
theorem dX3_hashPledges_43 : decode cX3_hashPledges 43 = .ok (.aload_n 0, 1) := by decide +kernel
theorem dX3_hashPledges_44 : decode cX3_hashPledges 44 = .ok (.getfield 41, 3) := by decide +kernel
theorem dX3_hashPledges_47 : decode cX3_hashPledges 47 = .ok (.getfield 101, 3) := by decide +kernel
theorem dX3_hashPledges_50 : decode cX3_hashPledges 50 = .ok (.iload_n 3, 1) := by decide +kernel
theorem dX3_hashPledges_51 : decode cX3_hashPledges 51 = .ok (.iaload, 1) := by decide +kernel
theorem dX3_hashPledges_52 : decode cX3_hashPledges 52 = .ok (.i2l, 1) := by decide +kernel
theorem dX3_hashPledges_53 : decode cX3_hashPledges 53 = .ok (.invokestatic 276, 3) := by decide +kernel
theorem dX3_hashPledges_56 : decode cX3_hashPledges 56 = .ok (.lstore 4, 2) := by decide +kernel
theorem dX3_hashPledges_58 : decode cX3_hashPledges 58 = .ok (.lload 4, 2) := by decide +kernel
theorem dX3_hashPledges_60 : decode cX3_hashPledges 60 = .ok (.aload_n 0, 1) := by decide +kernel
theorem dX3_hashPledges_61 : decode cX3_hashPledges 61 = .ok (.getfield 41, 3) := by decide +kernel
theorem dX3_hashPledges_64 : decode cX3_hashPledges 64 = .ok (.getfield 110, 3) := by decide +kernel
theorem dX3_hashPledges_67 : decode cX3_hashPledges 67 = .ok (.iload_n 3, 1) := by decide +kernel
theorem dX3_hashPledges_68 : decode cX3_hashPledges 68 = .ok (.iaload, 1) := by decide +kernel
theorem dX3_hashPledges_69 : decode cX3_hashPledges 69 = .ok (.i2l, 1) := by decide +kernel
theorem dX3_hashPledges_70 : decode cX3_hashPledges 70 = .ok (.invokestatic 276, 3) := by decide +kernel
theorem dX3_hashPledges_73 : decode cX3_hashPledges 73 = .ok (.lstore 4, 2) := by decide +kernel
theorem dX3_hashPledges_75 : decode cX3_hashPledges 75 = .ok (.lload 4, 2) := by decide +kernel
theorem dX3_hashPledges_77 : decode cX3_hashPledges 77 = .ok (.aload_n 0, 1) := by decide +kernel
theorem dX3_hashPledges_78 : decode cX3_hashPledges 78 = .ok (.getfield 41, 3) := by decide +kernel
theorem dX3_hashPledges_81 : decode cX3_hashPledges 81 = .ok (.iload_n 3, 1) := by decide +kernel
theorem dX3_hashPledges_82 : decode cX3_hashPledges 82 = .ok (.invokevirtual 187, 3) := by decide +kernel
theorem dX3_hashPledges_85 : decode cX3_hashPledges 85 = .ok (.i2l, 1) := by decide +kernel
theorem dX3_hashPledges_86 : decode cX3_hashPledges 86 = .ok (.invokestatic 276, 3) := by decide +kernel
theorem dX3_hashPledges_89 : decode cX3_hashPledges 89 = .ok (.lstore 4, 2) := by decide +kernel
theorem dX3_hashPledges_91 : decode cX3_hashPledges 91 = .ok (.lload 4, 2) := by decide +kernel
theorem dX3_hashPledges_93 : decode cX3_hashPledges 93 = .ok (.aload_n 0, 1) := by decide +kernel
theorem dX3_hashPledges_94 : decode cX3_hashPledges 94 = .ok (.getfield 41, 3) := by decide +kernel
theorem dX3_hashPledges_97 : decode cX3_hashPledges 97 = .ok (.iload_n 3, 1) := by decide +kernel
theorem dX3_hashPledges_98 : decode cX3_hashPledges 98 = .ok (.invokevirtual 190, 3) := by decide +kernel
theorem dX3_hashPledges_101 : decode cX3_hashPledges 101 = .ok (.i2l, 1) := by decide +kernel
theorem dX3_hashPledges_102 : decode cX3_hashPledges 102 = .ok (.invokestatic 276, 3) := by decide +kernel
theorem dX3_hashPledges_105 : decode cX3_hashPledges 105 = .ok (.lstore 4, 2) := by decide +kernel
theorem dX3_hashPledges_107 : decode cX3_hashPledges 107 = .ok (.lload 4, 2) := by decide +kernel
theorem dX3_hashPledges_109 : decode cX3_hashPledges 109 = .ok (.aload_n 0, 1) := by decide +kernel
theorem dX3_hashPledges_110 : decode cX3_hashPledges 110 = .ok (.getfield 41, 3) := by decide +kernel
theorem dX3_hashPledges_113 : decode cX3_hashPledges 113 = .ok (.iload_n 3, 1) := by decide +kernel
theorem dX3_hashPledges_114 : decode cX3_hashPledges 114 = .ok (.invokevirtual 193, 3) := by decide +kernel
theorem dX3_hashPledges_117 : decode cX3_hashPledges 117 = .ok (.i2l, 1) := by decide +kernel
theorem dX3_hashPledges_118 : decode cX3_hashPledges 118 = .ok (.invokestatic 276, 3) := by decide +kernel
theorem dX3_hashPledges_121 : decode cX3_hashPledges 121 = .ok (.lreturn, 1) := by decide +kernel
theorem dX3_hashOutlook_0 : decode cX3_hashOutlook 0 = .ok (.lload_n 1, 1) := by decide +kernel
theorem dX3_hashOutlook_1 : decode cX3_hashOutlook 1 = .ok (.aload_n 0, 1) := by decide +kernel
theorem dX3_hashOutlook_2 : decode cX3_hashOutlook 2 = .ok (.getfield 41, 3) := by decide +kernel
theorem dX3_hashOutlook_5 : decode cX3_hashOutlook 5 = .ok (.getfield 196, 3) := by decide +kernel
theorem dX3_hashOutlook_8 : decode cX3_hashOutlook 8 = .ok (.iload_n 3, 1) := by decide +kernel
theorem dX3_hashOutlook_9 : decode cX3_hashOutlook 9 = .ok (.iaload, 1) := by decide +kernel
theorem dX3_hashOutlook_10 : decode cX3_hashOutlook 10 = .ok (.ifCond .le 7, 3) := by decide +kernel
theorem dX3_hashOutlook_13 : decode cX3_hashOutlook 13 = .ok (.lconst 1, 1) := by decide +kernel
theorem dX3_hashOutlook_14 : decode cX3_hashOutlook 14 = .ok (.goto 4, 3) := by decide +kernel
theorem dX3_hashOutlook_17 : decode cX3_hashOutlook 17 = .ok (.lconst 0, 1) := by decide +kernel
theorem dX3_hashOutlook_18 : decode cX3_hashOutlook 18 = .ok (.invokestatic 276, 3) := by decide +kernel
theorem dX3_hashOutlook_21 : decode cX3_hashOutlook 21 = .ok (.lstore 4, 2) := by decide +kernel
theorem dX3_hashOutlook_23 : decode cX3_hashOutlook 23 = .ok (.lload 4, 2) := by decide +kernel
theorem dX3_hashOutlook_25 : decode cX3_hashOutlook 25 = .ok (.aload_n 0, 1) := by decide +kernel
theorem dX3_hashOutlook_26 : decode cX3_hashOutlook 26 = .ok (.getfield 41, 3) := by decide +kernel
theorem dX3_hashOutlook_29 : decode cX3_hashOutlook 29 = .ok (.getfield 196, 3) := by decide +kernel
theorem dX3_hashOutlook_32 : decode cX3_hashOutlook 32 = .ok (.iload_n 3, 1) := by decide +kernel
theorem dX3_hashOutlook_33 : decode cX3_hashOutlook 33 = .ok (.iaload, 1) := by decide +kernel
theorem dX3_hashOutlook_34 : decode cX3_hashOutlook 34 = .ok (.i2l, 1) := by decide +kernel
theorem dX3_hashOutlook_35 : decode cX3_hashOutlook 35 = .ok (.invokestatic 276, 3) := by decide +kernel
theorem dX3_hashOutlook_38 : decode cX3_hashOutlook 38 = .ok (.lstore 4, 2) := by decide +kernel
theorem dX3_hashOutlook_40 : decode cX3_hashOutlook 40 = .ok (.lload 4, 2) := by decide +kernel
theorem dX3_hashOutlook_42 : decode cX3_hashOutlook 42 = .ok (.aload_n 0, 1) := by decide +kernel
theorem dX3_hashOutlook_43 : decode cX3_hashOutlook 43 = .ok (.getfield 41, 3) := by decide +kernel
theorem dX3_hashOutlook_46 : decode cX3_hashOutlook 46 = .ok (.getfield 199, 3) := by decide +kernel
theorem dX3_hashOutlook_49 : decode cX3_hashOutlook 49 = .ok (.iload_n 3, 1) := by decide +kernel
theorem dX3_hashOutlook_50 : decode cX3_hashOutlook 50 = .ok (.baload, 1) := by decide +kernel
theorem dX3_hashOutlook_51 : decode cX3_hashOutlook 51 = .ok (.ifCond .eq 7, 3) := by decide +kernel
theorem dX3_hashOutlook_54 : decode cX3_hashOutlook 54 = .ok (.lconst 1, 1) := by decide +kernel
theorem dX3_hashOutlook_55 : decode cX3_hashOutlook 55 = .ok (.goto 4, 3) := by decide +kernel
theorem dX3_hashOutlook_58 : decode cX3_hashOutlook 58 = .ok (.lconst 0, 1) := by decide +kernel
theorem dX3_hashOutlook_59 : decode cX3_hashOutlook 59 = .ok (.invokestatic 276, 3) := by decide +kernel
theorem dX3_hashOutlook_62 : decode cX3_hashOutlook 62 = .ok (.lstore 4, 2) := by decide +kernel
theorem dX3_hashOutlook_64 : decode cX3_hashOutlook 64 = .ok (.lload 4, 2) := by decide +kernel
theorem dX3_hashOutlook_66 : decode cX3_hashOutlook 66 = .ok (.aload_n 0, 1) := by decide +kernel
theorem dX3_hashOutlook_67 : decode cX3_hashOutlook 67 = .ok (.getfield 41, 3) := by decide +kernel
theorem dX3_hashOutlook_70 : decode cX3_hashOutlook 70 = .ok (.iload_n 3, 1) := by decide +kernel
theorem dX3_hashOutlook_71 : decode cX3_hashOutlook 71 = .ok (.invokevirtual 202, 3) := by decide +kernel
theorem dX3_hashOutlook_74 : decode cX3_hashOutlook 74 = .ok (.i2l, 1) := by decide +kernel
theorem dX3_hashOutlook_75 : decode cX3_hashOutlook 75 = .ok (.invokestatic 276, 3) := by decide +kernel
theorem dX3_hashOutlook_78 : decode cX3_hashOutlook 78 = .ok (.lstore 4, 2) := by decide +kernel
theorem dX3_hashOutlook_80 : decode cX3_hashOutlook 80 = .ok (.lload 4, 2) := by decide +kernel
theorem dX3_hashOutlook_82 : decode cX3_hashOutlook 82 = .ok (.aload_n 0, 1) := by decide +kernel
theorem dX3_hashOutlook_83 : decode cX3_hashOutlook 83 = .ok (.getfield 41, 3) := by decide +kernel
theorem dX3_hashOutlook_86 : decode cX3_hashOutlook 86 = .ok (.iload_n 3, 1) := by decide +kernel
theorem dX3_hashOutlook_87 : decode cX3_hashOutlook 87 = .ok (.invokevirtual 215, 3) := by decide +kernel
theorem dX3_hashOutlook_90 : decode cX3_hashOutlook 90 = .ok (.iconst 1, 1) := by decide +kernel
theorem dX3_hashOutlook_91 : decode cX3_hashOutlook 91 = .ok (.iadd, 1) := by decide +kernel
theorem dX3_hashOutlook_92 : decode cX3_hashOutlook 92 = .ok (.i2l, 1) := by decide +kernel
theorem dX3_hashOutlook_93 : decode cX3_hashOutlook 93 = .ok (.invokestatic 276, 3) := by decide +kernel
theorem dX3_hashOutlook_96 : decode cX3_hashOutlook 96 = .ok (.lstore 4, 2) := by decide +kernel
theorem dX3_hashOutlook_98 : decode cX3_hashOutlook 98 = .ok (.lload 4, 2) := by decide +kernel
theorem dX3_hashOutlook_100 : decode cX3_hashOutlook 100 = .ok (.aload_n 0, 1) := by decide +kernel
theorem dX3_hashOutlook_101 : decode cX3_hashOutlook 101 = .ok (.getfield 41, 3) := by decide +kernel
theorem dX3_hashOutlook_104 : decode cX3_hashOutlook 104 = .ok (.iload_n 3, 1) := by decide +kernel
theorem dX3_hashOutlook_105 : decode cX3_hashOutlook 105 = .ok (.invokevirtual 218, 3) := by decide +kernel
theorem dX3_hashOutlook_108 : decode cX3_hashOutlook 108 = .ok (.iconst 1, 1) := by decide +kernel
theorem dX3_hashOutlook_109 : decode cX3_hashOutlook 109 = .ok (.iadd, 1) := by decide +kernel
theorem dX3_hashOutlook_110 : decode cX3_hashOutlook 110 = .ok (.i2l, 1) := by decide +kernel
theorem dX3_hashOutlook_111 : decode cX3_hashOutlook 111 = .ok (.invokestatic 276, 3) := by decide +kernel
theorem dX3_hashOutlook_114 : decode cX3_hashOutlook 114 = .ok (.lstore 4, 2) := by decide +kernel
theorem dX3_hashOutlook_116 : decode cX3_hashOutlook 116 = .ok (.aload_n 0, 1) := by decide +kernel
theorem dX3_hashOutlook_117 : decode cX3_hashOutlook 117 = .ok (.getfield 19, 3) := by decide +kernel
theorem dX3_hashOutlook_120 : decode cX3_hashOutlook 120 = .ok (.aload_n 0, 1) := by decide +kernel
theorem dX3_hashOutlook_121 : decode cX3_hashOutlook 121 = .ok (.getfield 41, 3) := by decide +kernel
theorem dX3_hashOutlook_124 : decode cX3_hashOutlook 124 = .ok (.iload_n 3, 1) := by decide +kernel
theorem dX3_hashOutlook_125 : decode cX3_hashOutlook 125 = .ok (.invokevirtual 224, 3) := by decide +kernel
theorem dX3_hashOutlook_128 : decode cX3_hashOutlook 128 = .ok (.lload 4, 2) := by decide +kernel
theorem dX3_hashOutlook_130 : decode cX3_hashOutlook 130 = .ok (.aload_n 0, 1) := by decide +kernel
theorem dX3_hashOutlook_131 : decode cX3_hashOutlook 131 = .ok (.getfield 19, 3) := by decide +kernel
theorem dX3_hashOutlook_134 : decode cX3_hashOutlook 134 = .ok (.getfield 228, 3) := by decide +kernel
theorem dX3_hashOutlook_137 : decode cX3_hashOutlook 137 = .ok (.i2l, 1) := by decide +kernel
theorem dX3_hashOutlook_138 : decode cX3_hashOutlook 138 = .ok (.invokestatic 276, 3) := by decide +kernel
theorem dX3_hashOutlook_141 : decode cX3_hashOutlook 141 = .ok (.lstore 4, 2) := by decide +kernel
theorem dX3_hashOutlook_143 : decode cX3_hashOutlook 143 = .ok (.lload 4, 2) := by decide +kernel
theorem dX3_hashOutlook_145 : decode cX3_hashOutlook 145 = .ok (.aload_n 0, 1) := by decide +kernel
theorem dX3_hashOutlook_146 : decode cX3_hashOutlook 146 = .ok (.getfield 19, 3) := by decide +kernel
theorem dX3_hashOutlook_149 : decode cX3_hashOutlook 149 = .ok (.getfield 231, 3) := by decide +kernel
theorem dX3_hashOutlook_152 : decode cX3_hashOutlook 152 = .ok (.i2l, 1) := by decide +kernel
theorem dX3_hashOutlook_153 : decode cX3_hashOutlook 153 = .ok (.invokestatic 276, 3) := by decide +kernel
theorem dX3_hashOutlook_156 : decode cX3_hashOutlook 156 = .ok (.lreturn, 1) := by decide +kernel
theorem dX3_hashRules_0 : decode cX3_hashRules 0 = .ok (.lload_n 1, 1) := by decide +kernel
theorem dX3_hashRules_1 : decode cX3_hashRules 1 = .ok (.aload_n 0, 1) := by decide +kernel
theorem dX3_hashRules_2 : decode cX3_hashRules 2 = .ok (.getfield 41, 3) := by decide +kernel
theorem dX3_hashRules_5 : decode cX3_hashRules 5 = .ok (.invokevirtual 169, 3) := by decide +kernel
theorem dX3_hashRules_8 : decode cX3_hashRules 8 = .ok (.i2l, 1) := by decide +kernel
theorem dX3_hashRules_9 : decode cX3_hashRules 9 = .ok (.invokestatic 276, 3) := by decide +kernel
theorem dX3_hashRules_12 : decode cX3_hashRules 12 = .ok (.lstore_n 3, 1) := by decide +kernel
theorem dX3_hashRules_13 : decode cX3_hashRules 13 = .ok (.lload_n 3, 1) := by decide +kernel
theorem dX3_hashRules_14 : decode cX3_hashRules 14 = .ok (.aload_n 0, 1) := by decide +kernel
theorem dX3_hashRules_15 : decode cX3_hashRules 15 = .ok (.getfield 41, 3) := by decide +kernel
theorem dX3_hashRules_18 : decode cX3_hashRules 18 = .ok (.getfield 124, 3) := by decide +kernel
theorem dX3_hashRules_21 : decode cX3_hashRules 21 = .ok (.i2l, 1) := by decide +kernel
theorem dX3_hashRules_22 : decode cX3_hashRules 22 = .ok (.invokestatic 276, 3) := by decide +kernel
theorem dX3_hashRules_25 : decode cX3_hashRules 25 = .ok (.lstore_n 3, 1) := by decide +kernel
theorem dX3_hashRules_26 : decode cX3_hashRules 26 = .ok (.lload_n 3, 1) := by decide +kernel
theorem dX3_hashRules_27 : decode cX3_hashRules 27 = .ok (.aload_n 0, 1) := by decide +kernel
theorem dX3_hashRules_28 : decode cX3_hashRules 28 = .ok (.getfield 41, 3) := by decide +kernel
theorem dX3_hashRules_31 : decode cX3_hashRules 31 = .ok (.getfield 128, 3) := by decide +kernel
theorem dX3_hashRules_34 : decode cX3_hashRules 34 = .ok (.i2l, 1) := by decide +kernel
theorem dX3_hashRules_35 : decode cX3_hashRules 35 = .ok (.invokestatic 276, 3) := by decide +kernel
theorem dX3_hashRules_38 : decode cX3_hashRules 38 = .ok (.lstore_n 3, 1) := by decide +kernel
theorem dX3_hashRules_39 : decode cX3_hashRules 39 = .ok (.lload_n 3, 1) := by decide +kernel
theorem dX3_hashRules_40 : decode cX3_hashRules 40 = .ok (.aload_n 0, 1) := by decide +kernel
theorem dX3_hashRules_41 : decode cX3_hashRules 41 = .ok (.getfield 41, 3) := by decide +kernel
theorem dX3_hashRules_44 : decode cX3_hashRules 44 = .ok (.getfield 131, 3) := by decide +kernel
theorem dX3_hashRules_47 : decode cX3_hashRules 47 = .ok (.i2l, 1) := by decide +kernel
theorem dX3_hashRules_48 : decode cX3_hashRules 48 = .ok (.invokestatic 276, 3) := by decide +kernel
theorem dX3_hashRules_51 : decode cX3_hashRules 51 = .ok (.lstore_n 3, 1) := by decide +kernel
theorem dX3_hashRules_52 : decode cX3_hashRules 52 = .ok (.lload_n 3, 1) := by decide +kernel
theorem dX3_hashRules_53 : decode cX3_hashRules 53 = .ok (.aload_n 0, 1) := by decide +kernel
theorem dX3_hashRules_54 : decode cX3_hashRules 54 = .ok (.getfield 41, 3) := by decide +kernel
theorem dX3_hashRules_57 : decode cX3_hashRules 57 = .ok (.getfield 134, 3) := by decide +kernel
theorem dX3_hashRules_60 : decode cX3_hashRules 60 = .ok (.i2l, 1) := by decide +kernel
theorem dX3_hashRules_61 : decode cX3_hashRules 61 = .ok (.invokestatic 276, 3) := by decide +kernel
theorem dX3_hashRules_64 : decode cX3_hashRules 64 = .ok (.lstore_n 3, 1) := by decide +kernel
theorem dX3_hashRules_65 : decode cX3_hashRules 65 = .ok (.lload_n 3, 1) := by decide +kernel
theorem dX3_hashRules_66 : decode cX3_hashRules 66 = .ok (.aload_n 0, 1) := by decide +kernel
theorem dX3_hashRules_67 : decode cX3_hashRules 67 = .ok (.getfield 41, 3) := by decide +kernel
theorem dX3_hashRules_70 : decode cX3_hashRules 70 = .ok (.bipush 10, 2) := by decide +kernel
theorem dX3_hashRules_72 : decode cX3_hashRules 72 = .ok (.invokevirtual 234, 3) := by decide +kernel
theorem dX3_hashRules_75 : decode cX3_hashRules 75 = .ok (.i2l, 1) := by decide +kernel
theorem dX3_hashRules_76 : decode cX3_hashRules 76 = .ok (.invokestatic 276, 3) := by decide +kernel
theorem dX3_hashRules_79 : decode cX3_hashRules 79 = .ok (.lstore_n 3, 1) := by decide +kernel
theorem dX3_hashRules_80 : decode cX3_hashRules 80 = .ok (.lload_n 3, 1) := by decide +kernel
theorem dX3_hashRules_81 : decode cX3_hashRules 81 = .ok (.aload_n 0, 1) := by decide +kernel
theorem dX3_hashRules_82 : decode cX3_hashRules 82 = .ok (.getfield 41, 3) := by decide +kernel
theorem dX3_hashRules_85 : decode cX3_hashRules 85 = .ok (.bipush 50, 2) := by decide +kernel
theorem dX3_hashRules_87 : decode cX3_hashRules 87 = .ok (.invokevirtual 234, 3) := by decide +kernel
theorem dX3_hashRules_90 : decode cX3_hashRules 90 = .ok (.i2l, 1) := by decide +kernel
theorem dX3_hashRules_91 : decode cX3_hashRules 91 = .ok (.invokestatic 276, 3) := by decide +kernel
theorem dX3_hashRules_94 : decode cX3_hashRules 94 = .ok (.lreturn, 1) := by decide +kernel
theorem dX3_hashAccounts_0 : decode cX3_hashAccounts 0 = .ok (.lload_n 1, 1) := by decide +kernel
theorem dX3_hashAccounts_1 : decode cX3_hashAccounts 1 = .ok (.aload_n 0, 1) := by decide +kernel
theorem dX3_hashAccounts_2 : decode cX3_hashAccounts 2 = .ok (.getfield 41, 3) := by decide +kernel
theorem dX3_hashAccounts_5 : decode cX3_hashAccounts 5 = .ok (.getfield 237, 3) := by decide +kernel
theorem dX3_hashAccounts_8 : decode cX3_hashAccounts 8 = .ok (.i2l, 1) := by decide +kernel
theorem dX3_hashAccounts_9 : decode cX3_hashAccounts 9 = .ok (.invokestatic 276, 3) := by decide +kernel
theorem dX3_hashAccounts_12 : decode cX3_hashAccounts 12 = .ok (.lstore_n 3, 1) := by decide +kernel
theorem dX3_hashAccounts_13 : decode cX3_hashAccounts 13 = .ok (.lload_n 3, 1) := by decide +kernel
theorem dX3_hashAccounts_14 : decode cX3_hashAccounts 14 = .ok (.aload_n 0, 1) := by decide +kernel
theorem dX3_hashAccounts_15 : decode cX3_hashAccounts 15 = .ok (.invokevirtual 290, 3) := by decide +kernel
theorem dX3_hashAccounts_18 : decode cX3_hashAccounts 18 = .ok (.i2l, 1) := by decide +kernel
theorem dX3_hashAccounts_19 : decode cX3_hashAccounts 19 = .ok (.invokestatic 276, 3) := by decide +kernel
theorem dX3_hashAccounts_22 : decode cX3_hashAccounts 22 = .ok (.lstore_n 3, 1) := by decide +kernel
theorem dX3_hashAccounts_23 : decode cX3_hashAccounts 23 = .ok (.lload_n 3, 1) := by decide +kernel
theorem dX3_hashAccounts_24 : decode cX3_hashAccounts 24 = .ok (.aload_n 0, 1) := by decide +kernel
theorem dX3_hashAccounts_25 : decode cX3_hashAccounts 25 = .ok (.invokevirtual 293, 3) := by decide +kernel
theorem dX3_hashAccounts_28 : decode cX3_hashAccounts 28 = .ok (.i2l, 1) := by decide +kernel
theorem dX3_hashAccounts_29 : decode cX3_hashAccounts 29 = .ok (.invokestatic 276, 3) := by decide +kernel
theorem dX3_hashAccounts_32 : decode cX3_hashAccounts 32 = .ok (.lstore_n 3, 1) := by decide +kernel
theorem dX3_hashAccounts_33 : decode cX3_hashAccounts 33 = .ok (.lload_n 3, 1) := by decide +kernel
theorem dX3_hashAccounts_34 : decode cX3_hashAccounts 34 = .ok (.aload_n 0, 1) := by decide +kernel
theorem dX3_hashAccounts_35 : decode cX3_hashAccounts 35 = .ok (.getfield 41, 3) := by decide +kernel
theorem dX3_hashAccounts_38 : decode cX3_hashAccounts 38 = .ok (.getfield 243, 3) := by decide +kernel
theorem dX3_hashAccounts_41 : decode cX3_hashAccounts 41 = .ok (.i2l, 1) := by decide +kernel
theorem dX3_hashAccounts_42 : decode cX3_hashAccounts 42 = .ok (.invokestatic 276, 3) := by decide +kernel
theorem dX3_hashAccounts_45 : decode cX3_hashAccounts 45 = .ok (.lstore_n 3, 1) := by decide +kernel
theorem dX3_hashAccounts_46 : decode cX3_hashAccounts 46 = .ok (.lload_n 3, 1) := by decide +kernel
theorem dX3_hashAccounts_47 : decode cX3_hashAccounts 47 = .ok (.aload_n 0, 1) := by decide +kernel
theorem dX3_hashAccounts_48 : decode cX3_hashAccounts 48 = .ok (.getfield 41, 3) := by decide +kernel
theorem dX3_hashAccounts_51 : decode cX3_hashAccounts 51 = .ok (.getfield 246, 3) := by decide +kernel
theorem dX3_hashAccounts_54 : decode cX3_hashAccounts 54 = .ok (.i2l, 1) := by decide +kernel
theorem dX3_hashAccounts_55 : decode cX3_hashAccounts 55 = .ok (.invokestatic 276, 3) := by decide +kernel
theorem dX3_hashAccounts_58 : decode cX3_hashAccounts 58 = .ok (.lstore_n 3, 1) := by decide +kernel
theorem dX3_hashAccounts_59 : decode cX3_hashAccounts 59 = .ok (.lload_n 3, 1) := by decide +kernel
theorem dX3_hashAccounts_60 : decode cX3_hashAccounts 60 = .ok (.aload_n 0, 1) := by decide +kernel
theorem dX3_hashAccounts_61 : decode cX3_hashAccounts 61 = .ok (.getfield 41, 3) := by decide +kernel
theorem dX3_hashAccounts_64 : decode cX3_hashAccounts 64 = .ok (.getfield 249, 3) := by decide +kernel
theorem dX3_hashAccounts_67 : decode cX3_hashAccounts 67 = .ok (.i2l, 1) := by decide +kernel
theorem dX3_hashAccounts_68 : decode cX3_hashAccounts 68 = .ok (.invokestatic 276, 3) := by decide +kernel
theorem dX3_hashAccounts_71 : decode cX3_hashAccounts 71 = .ok (.lstore_n 3, 1) := by decide +kernel
theorem dX3_hashAccounts_72 : decode cX3_hashAccounts 72 = .ok (.lload_n 3, 1) := by decide +kernel
theorem dX3_hashAccounts_73 : decode cX3_hashAccounts 73 = .ok (.aload_n 0, 1) := by decide +kernel
theorem dX3_hashAccounts_74 : decode cX3_hashAccounts 74 = .ok (.getfield 41, 3) := by decide +kernel
theorem dX3_hashAccounts_77 : decode cX3_hashAccounts 77 = .ok (.getfield 252, 3) := by decide +kernel
theorem dX3_hashAccounts_80 : decode cX3_hashAccounts 80 = .ok (.i2l, 1) := by decide +kernel
theorem dX3_hashAccounts_81 : decode cX3_hashAccounts 81 = .ok (.invokestatic 276, 3) := by decide +kernel
theorem dX3_hashAccounts_84 : decode cX3_hashAccounts 84 = .ok (.lstore_n 3, 1) := by decide +kernel
theorem dX3_hashAccounts_85 : decode cX3_hashAccounts 85 = .ok (.lload_n 3, 1) := by decide +kernel
theorem dX3_hashAccounts_86 : decode cX3_hashAccounts 86 = .ok (.aload_n 0, 1) := by decide +kernel
theorem dX3_hashAccounts_87 : decode cX3_hashAccounts 87 = .ok (.getfield 41, 3) := by decide +kernel
theorem dX3_hashAccounts_90 : decode cX3_hashAccounts 90 = .ok (.getfield 255, 3) := by decide +kernel
theorem dX3_hashAccounts_93 : decode cX3_hashAccounts 93 = .ok (.i2l, 1) := by decide +kernel
theorem dX3_hashAccounts_94 : decode cX3_hashAccounts 94 = .ok (.invokestatic 276, 3) := by decide +kernel
theorem dX3_hashAccounts_97 : decode cX3_hashAccounts 97 = .ok (.lstore_n 3, 1) := by decide +kernel
theorem dX3_hashAccounts_98 : decode cX3_hashAccounts 98 = .ok (.lload_n 3, 1) := by decide +kernel
theorem dX3_hashAccounts_99 : decode cX3_hashAccounts 99 = .ok (.aload_n 0, 1) := by decide +kernel
theorem dX3_hashAccounts_100 : decode cX3_hashAccounts 100 = .ok (.getfield 41, 3) := by decide +kernel
theorem dX3_hashAccounts_103 : decode cX3_hashAccounts 103 = .ok (.getfield 258, 3) := by decide +kernel
theorem dX3_hashAccounts_106 : decode cX3_hashAccounts 106 = .ok (.i2l, 1) := by decide +kernel
theorem dX3_hashAccounts_107 : decode cX3_hashAccounts 107 = .ok (.invokestatic 276, 3) := by decide +kernel
theorem dX3_hashAccounts_110 : decode cX3_hashAccounts 110 = .ok (.lstore_n 3, 1) := by decide +kernel
theorem dX3_hashAccounts_111 : decode cX3_hashAccounts 111 = .ok (.lload_n 3, 1) := by decide +kernel
theorem dX3_hashAccounts_112 : decode cX3_hashAccounts 112 = .ok (.aload_n 0, 1) := by decide +kernel
theorem dX3_hashAccounts_113 : decode cX3_hashAccounts 113 = .ok (.getfield 172, 3) := by decide +kernel
theorem dX3_hashAccounts_116 : decode cX3_hashAccounts 116 = .ok (.i2l, 1) := by decide +kernel
theorem dX3_hashAccounts_117 : decode cX3_hashAccounts 117 = .ok (.invokestatic 276, 3) := by decide +kernel
theorem dX3_hashAccounts_120 : decode cX3_hashAccounts 120 = .ok (.lstore_n 3, 1) := by decide +kernel
theorem dX3_hashAccounts_121 : decode cX3_hashAccounts 121 = .ok (.lload_n 3, 1) := by decide +kernel
theorem dX3_hashAccounts_122 : decode cX3_hashAccounts 122 = .ok (.aload_n 0, 1) := by decide +kernel
theorem dX3_hashAccounts_123 : decode cX3_hashAccounts 123 = .ok (.invokevirtual 296, 3) := by decide +kernel
theorem dX3_hashAccounts_126 : decode cX3_hashAccounts 126 = .ok (.invokestatic 300, 3) := by decide +kernel
theorem dX3_hashAccounts_129 : decode cX3_hashAccounts 129 = .ok (.invokestatic 276, 3) := by decide +kernel
theorem dX3_hashAccounts_132 : decode cX3_hashAccounts 132 = .ok (.lreturn, 1) := by decide +kernel
theorem dX3_hashSlotsAndText_0 : decode cX3_hashSlotsAndText 0 = .ok (.lload_n 1, 1) := by decide +kernel
theorem dX3_hashSlotsAndText_1 : decode cX3_hashSlotsAndText 1 = .ok (.lstore_n 3, 1) := by decide +kernel
theorem dX3_hashSlotsAndText_2 : decode cX3_hashSlotsAndText 2 = .ok (.iconst 0, 1) := by decide +kernel
theorem dX3_hashSlotsAndText_3 : decode cX3_hashSlotsAndText 3 = .ok (.istore 5, 2) := by decide +kernel
theorem dX3_hashSlotsAndText_5 : decode cX3_hashSlotsAndText 5 = .ok (.iload 5, 2) := by decide +kernel
theorem dX3_hashSlotsAndText_7 : decode cX3_hashSlotsAndText 7 = .ok (.iconst 2, 1) := by decide +kernel
theorem dX3_hashSlotsAndText_8 : decode cX3_hashSlotsAndText 8 = .ok (.if_icmp .ge 29, 3) := by decide +kernel
theorem dX3_hashSlotsAndText_11 : decode cX3_hashSlotsAndText 11 = .ok (.lload_n 3, 1) := by decide +kernel
theorem dX3_hashSlotsAndText_12 : decode cX3_hashSlotsAndText 12 = .ok (.aload_n 0, 1) := by decide +kernel
theorem dX3_hashSlotsAndText_13 : decode cX3_hashSlotsAndText 13 = .ok (.getfield 33, 3) := by decide +kernel
theorem dX3_hashSlotsAndText_16 : decode cX3_hashSlotsAndText 16 = .ok (.iload 5, 2) := by decide +kernel
theorem dX3_hashSlotsAndText_18 : decode cX3_hashSlotsAndText 18 = .ok (.baload, 1) := by decide +kernel
theorem dX3_hashSlotsAndText_19 : decode cX3_hashSlotsAndText 19 = .ok (.ifCond .eq 7, 3) := by decide +kernel
theorem dX3_hashSlotsAndText_22 : decode cX3_hashSlotsAndText 22 = .ok (.lconst 1, 1) := by decide +kernel
theorem dX3_hashSlotsAndText_23 : decode cX3_hashSlotsAndText 23 = .ok (.goto 4, 3) := by decide +kernel
theorem dX3_hashSlotsAndText_26 : decode cX3_hashSlotsAndText 26 = .ok (.lconst 0, 1) := by decide +kernel
theorem dX3_hashSlotsAndText_27 : decode cX3_hashSlotsAndText 27 = .ok (.invokestatic 276, 3) := by decide +kernel
theorem dX3_hashSlotsAndText_30 : decode cX3_hashSlotsAndText 30 = .ok (.lstore_n 3, 1) := by decide +kernel
theorem dX3_hashSlotsAndText_31 : decode cX3_hashSlotsAndText 31 = .ok (.iinc 5 1, 3) := by decide +kernel
theorem dX3_hashSlotsAndText_34 : decode cX3_hashSlotsAndText 34 = .ok (.goto (-29), 3) := by decide +kernel
theorem dX3_hashSlotsAndText_37 : decode cX3_hashSlotsAndText 37 = .ok (.lload_n 3, 1) := by decide +kernel
theorem dX3_hashSlotsAndText_38 : decode cX3_hashSlotsAndText 38 = .ok (.aload_n 0, 1) := by decide +kernel
theorem dX3_hashSlotsAndText_39 : decode cX3_hashSlotsAndText 39 = .ok (.getfield 10, 3) := by decide +kernel
theorem dX3_hashSlotsAndText_42 : decode cX3_hashSlotsAndText 42 = .ok (.getfield 137, 3) := by decide +kernel
theorem dX3_hashSlotsAndText_45 : decode cX3_hashSlotsAndText 45 = .ok (.i2l, 1) := by decide +kernel
theorem dX3_hashSlotsAndText_46 : decode cX3_hashSlotsAndText 46 = .ok (.invokestatic 276, 3) := by decide +kernel
theorem dX3_hashSlotsAndText_49 : decode cX3_hashSlotsAndText 49 = .ok (.lstore_n 3, 1) := by decide +kernel
theorem dX3_hashSlotsAndText_50 : decode cX3_hashSlotsAndText 50 = .ok (.iconst 0, 1) := by decide +kernel
theorem dX3_hashSlotsAndText_51 : decode cX3_hashSlotsAndText 51 = .ok (.istore 5, 2) := by decide +kernel
theorem dX3_hashSlotsAndText_53 : decode cX3_hashSlotsAndText 53 = .ok (.iload 5, 2) := by decide +kernel
theorem dX3_hashSlotsAndText_55 : decode cX3_hashSlotsAndText 55 = .ok (.aload_n 0, 1) := by decide +kernel
theorem dX3_hashSlotsAndText_56 : decode cX3_hashSlotsAndText 56 = .ok (.getfield 10, 3) := by decide +kernel
theorem dX3_hashSlotsAndText_59 : decode cX3_hashSlotsAndText 59 = .ok (.getfield 137, 3) := by decide +kernel
theorem dX3_hashSlotsAndText_62 : decode cX3_hashSlotsAndText 62 = .ok (.if_icmp .ge 25, 3) := by decide +kernel
theorem dX3_hashSlotsAndText_65 : decode cX3_hashSlotsAndText 65 = .ok (.lload_n 3, 1) := by decide +kernel
theorem dX3_hashSlotsAndText_66 : decode cX3_hashSlotsAndText 66 = .ok (.aload_n 0, 1) := by decide +kernel
theorem dX3_hashSlotsAndText_67 : decode cX3_hashSlotsAndText 67 = .ok (.getfield 10, 3) := by decide +kernel
theorem dX3_hashSlotsAndText_70 : decode cX3_hashSlotsAndText 70 = .ok (.getfield 143, 3) := by decide +kernel
theorem dX3_hashSlotsAndText_73 : decode cX3_hashSlotsAndText 73 = .ok (.iload 5, 2) := by decide +kernel
theorem dX3_hashSlotsAndText_75 : decode cX3_hashSlotsAndText 75 = .ok (.iaload, 1) := by decide +kernel
theorem dX3_hashSlotsAndText_76 : decode cX3_hashSlotsAndText 76 = .ok (.i2l, 1) := by decide +kernel
theorem dX3_hashSlotsAndText_77 : decode cX3_hashSlotsAndText 77 = .ok (.invokestatic 276, 3) := by decide +kernel
theorem dX3_hashSlotsAndText_80 : decode cX3_hashSlotsAndText 80 = .ok (.lstore_n 3, 1) := by decide +kernel
theorem dX3_hashSlotsAndText_81 : decode cX3_hashSlotsAndText 81 = .ok (.iinc 5 1, 3) := by decide +kernel
theorem dX3_hashSlotsAndText_84 : decode cX3_hashSlotsAndText 84 = .ok (.goto (-31), 3) := by decide +kernel
theorem dX3_hashSlotsAndText_87 : decode cX3_hashSlotsAndText 87 = .ok (.lload_n 3, 1) := by decide +kernel
theorem dX3_hashSlotsAndText_88 : decode cX3_hashSlotsAndText 88 = .ok (.lreturn, 1) := by decide +kernel
theorem dX3_mixed_0 : decode cX3_mixed 0 = .ok (.ldc2_w 304, 3) := by decide +kernel
theorem dX3_mixed_3 : decode cX3_mixed 3 = .ok (.lload_n 0, 1) := by decide +kernel
theorem dX3_mixed_4 : decode cX3_mixed 4 = .ok (.lmul, 1) := by decide +kernel
theorem dX3_mixed_5 : decode cX3_mixed 5 = .ok (.lload_n 2, 1) := by decide +kernel
theorem dX3_mixed_6 : decode cX3_mixed 6 = .ok (.ladd, 1) := by decide +kernel
theorem dX3_mixed_7 : decode cX3_mixed 7 = .ok (.lreturn, 1) := by decide +kernel
theorem dX3_bitsOf_0 : decode cX3_bitsOf 0 = .ok (.dload_n 0, 1) := by decide +kernel
theorem dX3_bitsOf_1 : decode cX3_bitsOf 1 = .ok (.dconst 0, 1) := by decide +kernel
theorem dX3_bitsOf_2 : decode cX3_bitsOf 2 = .ok (.dcmp .g, 1) := by decide +kernel
theorem dX3_bitsOf_3 : decode cX3_bitsOf 3 = .ok (.ifCond .gt 5, 3) := by decide +kernel
theorem dX3_bitsOf_6 : decode cX3_bitsOf 6 = .ok (.lconst 0, 1) := by decide +kernel
theorem dX3_bitsOf_7 : decode cX3_bitsOf 7 = .ok (.lreturn, 1) := by decide +kernel
theorem dX3_bitsOf_8 : decode cX3_bitsOf 8 = .ok (.dload_n 0, 1) := by decide +kernel
theorem dX3_bitsOf_9 : decode cX3_bitsOf 9 = .ok (.dstore_n 2, 1) := by decide +kernel
theorem dX3_bitsOf_10 : decode cX3_bitsOf 10 = .ok (.iconst 0, 1) := by decide +kernel
theorem dX3_bitsOf_11 : decode cX3_bitsOf 11 = .ok (.istore 4, 2) := by decide +kernel
theorem dX3_bitsOf_13 : decode cX3_bitsOf 13 = .ok (.iload 4, 2) := by decide +kernel
theorem dX3_bitsOf_15 : decode cX3_bitsOf 15 = .ok (.sipush 1023, 3) := by decide +kernel
theorem dX3_bitsOf_18 : decode cX3_bitsOf 18 = .ok (.if_icmp .ge 23, 3) := by decide +kernel
theorem dX3_bitsOf_21 : decode cX3_bitsOf 21 = .ok (.dload_n 2, 1) := by decide +kernel
theorem dX3_bitsOf_22 : decode cX3_bitsOf 22 = .ok (.ldc2_w 306, 3) := by decide +kernel
theorem dX3_bitsOf_25 : decode cX3_bitsOf 25 = .ok (.dcmp .l, 1) := by decide +kernel
theorem dX3_bitsOf_26 : decode cX3_bitsOf 26 = .ok (.ifCond .lt 15, 3) := by decide +kernel
theorem dX3_bitsOf_29 : decode cX3_bitsOf 29 = .ok (.dload_n 2, 1) := by decide +kernel
theorem dX3_bitsOf_30 : decode cX3_bitsOf 30 = .ok (.ldc2_w 306, 3) := by decide +kernel
theorem dX3_bitsOf_33 : decode cX3_bitsOf 33 = .ok (.ddiv, 1) := by decide +kernel
theorem dX3_bitsOf_34 : decode cX3_bitsOf 34 = .ok (.dstore_n 2, 1) := by decide +kernel
theorem dX3_bitsOf_35 : decode cX3_bitsOf 35 = .ok (.iinc 4 1, 3) := by decide +kernel
theorem dX3_bitsOf_38 : decode cX3_bitsOf 38 = .ok (.goto (-25), 3) := by decide +kernel
theorem dX3_bitsOf_41 : decode cX3_bitsOf 41 = .ok (.iload 4, 2) := by decide +kernel
theorem dX3_bitsOf_43 : decode cX3_bitsOf 43 = .ok (.sipush (-1022), 3) := by decide +kernel
theorem dX3_bitsOf_46 : decode cX3_bitsOf 46 = .ok (.if_icmp .le 21, 3) := by decide +kernel
theorem dX3_bitsOf_49 : decode cX3_bitsOf 49 = .ok (.dload_n 2, 1) := by decide +kernel
theorem dX3_bitsOf_50 : decode cX3_bitsOf 50 = .ok (.dconst 1, 1) := by decide +kernel
theorem dX3_bitsOf_51 : decode cX3_bitsOf 51 = .ok (.dcmp .g, 1) := by decide +kernel
theorem dX3_bitsOf_52 : decode cX3_bitsOf 52 = .ok (.ifCond .ge 15, 3) := by decide +kernel
theorem dX3_bitsOf_55 : decode cX3_bitsOf 55 = .ok (.dload_n 2, 1) := by decide +kernel
theorem dX3_bitsOf_56 : decode cX3_bitsOf 56 = .ok (.ldc2_w 306, 3) := by decide +kernel
theorem dX3_bitsOf_59 : decode cX3_bitsOf 59 = .ok (.dmul, 1) := by decide +kernel
theorem dX3_bitsOf_60 : decode cX3_bitsOf 60 = .ok (.dstore_n 2, 1) := by decide +kernel
theorem dX3_bitsOf_61 : decode cX3_bitsOf 61 = .ok (.iinc 4 (-1), 3) := by decide +kernel
theorem dX3_bitsOf_64 : decode cX3_bitsOf 64 = .ok (.goto (-23), 3) := by decide +kernel
theorem dX3_bitsOf_67 : decode cX3_bitsOf 67 = .ok (.dload_n 2, 1) := by decide +kernel
theorem dX3_bitsOf_68 : decode cX3_bitsOf 68 = .ok (.dconst 1, 1) := by decide +kernel
theorem dX3_bitsOf_69 : decode cX3_bitsOf 69 = .ok (.dsub, 1) := by decide +kernel
theorem dX3_bitsOf_70 : decode cX3_bitsOf 70 = .ok (.ldc2_w 308, 3) := by decide +kernel
theorem dX3_bitsOf_73 : decode cX3_bitsOf 73 = .ok (.dmul, 1) := by decide +kernel
theorem dX3_bitsOf_74 : decode cX3_bitsOf 74 = .ok (.d2l, 1) := by decide +kernel
theorem dX3_bitsOf_75 : decode cX3_bitsOf 75 = .ok (.lstore 5, 2) := by decide +kernel
theorem dX3_bitsOf_77 : decode cX3_bitsOf 77 = .ok (.iload 4, 2) := by decide +kernel
theorem dX3_bitsOf_79 : decode cX3_bitsOf 79 = .ok (.sipush 1023, 3) := by decide +kernel
theorem dX3_bitsOf_82 : decode cX3_bitsOf 82 = .ok (.iadd, 1) := by decide +kernel
theorem dX3_bitsOf_83 : decode cX3_bitsOf 83 = .ok (.i2l, 1) := by decide +kernel
theorem dX3_bitsOf_84 : decode cX3_bitsOf 84 = .ok (.bipush 52, 2) := by decide +kernel
theorem dX3_bitsOf_86 : decode cX3_bitsOf 86 = .ok (.lshl, 1) := by decide +kernel
theorem dX3_bitsOf_87 : decode cX3_bitsOf 87 = .ok (.lload 5, 2) := by decide +kernel
theorem dX3_bitsOf_89 : decode cX3_bitsOf 89 = .ok (.ladd, 1) := by decide +kernel
theorem dX3_bitsOf_90 : decode cX3_bitsOf 90 = .ok (.lreturn, 1) := by decide +kernel
theorem dX3_carryOutPart_0 : decode cX3_carryOutPart 0 = .ok (.aload_n 0, 1) := by decide +kernel
theorem dX3_carryOutPart_1 : decode cX3_carryOutPart 1 = .ok (.getfield 10, 3) := by decide +kernel
theorem dX3_carryOutPart_4 : decode cX3_carryOutPart 4 = .ok (.getfield 310, 3) := by decide +kernel
theorem dX3_carryOutPart_7 : decode cX3_carryOutPart 7 = .ok (.lookupswitch 216 #[(43, 105), (45, 134), (98, 185), (99, 81), (108, 163), (112, 57)], 57) := by decide +kernel
theorem dX3_carryOutPart_64 : decode cX3_carryOutPart 64 = .ok (.aload_n 0, 1) := by decide +kernel
theorem dX3_carryOutPart_65 : decode cX3_carryOutPart 65 = .ok (.getfield 41, 3) := by decide +kernel
theorem dX3_carryOutPart_68 : decode cX3_carryOutPart 68 = .ok (.aload_n 0, 1) := by decide +kernel
theorem dX3_carryOutPart_69 : decode cX3_carryOutPart 69 = .ok (.getfield 10, 3) := by decide +kernel
theorem dX3_carryOutPart_72 : decode cX3_carryOutPart 72 = .ok (.getfield 313, 3) := by decide +kernel
theorem dX3_carryOutPart_75 : decode cX3_carryOutPart 75 = .ok (.aload_n 0, 1) := by decide +kernel
theorem dX3_carryOutPart_76 : decode cX3_carryOutPart 76 = .ok (.getfield 10, 3) := by decide +kernel
theorem dX3_carryOutPart_79 : decode cX3_carryOutPart 79 = .ok (.getfield 316, 3) := by decide +kernel
theorem dX3_carryOutPart_82 : decode cX3_carryOutPart 82 = .ok (.invokevirtual 59, 3) := by decide +kernel
theorem dX3_carryOutPart_85 : decode cX3_carryOutPart 85 = .ok (.pop, 1) := by decide +kernel
theorem dX3_carryOutPart_86 : decode cX3_carryOutPart 86 = .ok (.iconst 1, 1) := by decide +kernel
theorem dX3_carryOutPart_87 : decode cX3_carryOutPart 87 = .ok (.ireturn, 1) := by decide +kernel
theorem dX3_carryOutPart_88 : decode cX3_carryOutPart 88 = .ok (.aload_n 0, 1) := by decide +kernel
theorem dX3_carryOutPart_89 : decode cX3_carryOutPart 89 = .ok (.getfield 41, 3) := by decide +kernel
theorem dX3_carryOutPart_92 : decode cX3_carryOutPart 92 = .ok (.aload_n 0, 1) := by decide +kernel
theorem dX3_carryOutPart_93 : decode cX3_carryOutPart 93 = .ok (.getfield 10, 3) := by decide +kernel
theorem dX3_carryOutPart_96 : decode cX3_carryOutPart 96 = .ok (.getfield 313, 3) := by decide +kernel
theorem dX3_carryOutPart_99 : decode cX3_carryOutPart 99 = .ok (.aload_n 0, 1) := by decide +kernel
theorem dX3_carryOutPart_100 : decode cX3_carryOutPart 100 = .ok (.getfield 10, 3) := by decide +kernel
theorem dX3_carryOutPart_103 : decode cX3_carryOutPart 103 = .ok (.getfield 316, 3) := by decide +kernel
theorem dX3_carryOutPart_106 : decode cX3_carryOutPart 106 = .ok (.invokevirtual 63, 3) := by decide +kernel
theorem dX3_carryOutPart_109 : decode cX3_carryOutPart 109 = .ok (.pop, 1) := by decide +kernel
theorem dX3_carryOutPart_110 : decode cX3_carryOutPart 110 = .ok (.iconst 1, 1) := by decide +kernel
theorem dX3_carryOutPart_111 : decode cX3_carryOutPart 111 = .ok (.ireturn, 1) := by decide +kernel
theorem dX3_carryOutPart_112 : decode cX3_carryOutPart 112 = .ok (.aload_n 0, 1) := by decide +kernel
theorem dX3_carryOutPart_113 : decode cX3_carryOutPart 113 = .ok (.getfield 41, 3) := by decide +kernel
theorem dX3_carryOutPart_116 : decode cX3_carryOutPart 116 = .ok (.aload_n 0, 1) := by decide +kernel
theorem dX3_carryOutPart_117 : decode cX3_carryOutPart 117 = .ok (.getfield 10, 3) := by decide +kernel
theorem dX3_carryOutPart_120 : decode cX3_carryOutPart 120 = .ok (.getfield 319, 3) := by decide +kernel
theorem dX3_carryOutPart_123 : decode cX3_carryOutPart 123 = .ok (.aload_n 0, 1) := by decide +kernel
theorem dX3_carryOutPart_124 : decode cX3_carryOutPart 124 = .ok (.getfield 10, 3) := by decide +kernel
theorem dX3_carryOutPart_127 : decode cX3_carryOutPart 127 = .ok (.getfield 313, 3) := by decide +kernel
theorem dX3_carryOutPart_130 : decode cX3_carryOutPart 130 = .ok (.aload_n 0, 1) := by decide +kernel
theorem dX3_carryOutPart_131 : decode cX3_carryOutPart 131 = .ok (.getfield 10, 3) := by decide +kernel
theorem dX3_carryOutPart_134 : decode cX3_carryOutPart 134 = .ok (.getfield 316, 3) := by decide +kernel
theorem dX3_carryOutPart_137 : decode cX3_carryOutPart 137 = .ok (.invokevirtual 77, 3) := by decide +kernel
theorem dX3_carryOutPart_140 : decode cX3_carryOutPart 140 = .ok (.ireturn, 1) := by decide +kernel
theorem dX3_carryOutPart_141 : decode cX3_carryOutPart 141 = .ok (.aload_n 0, 1) := by decide +kernel
theorem dX3_carryOutPart_142 : decode cX3_carryOutPart 142 = .ok (.getfield 41, 3) := by decide +kernel
theorem dX3_carryOutPart_145 : decode cX3_carryOutPart 145 = .ok (.aload_n 0, 1) := by decide +kernel
theorem dX3_carryOutPart_146 : decode cX3_carryOutPart 146 = .ok (.getfield 10, 3) := by decide +kernel
theorem dX3_carryOutPart_149 : decode cX3_carryOutPart 149 = .ok (.getfield 319, 3) := by decide +kernel
theorem dX3_carryOutPart_152 : decode cX3_carryOutPart 152 = .ok (.aload_n 0, 1) := by decide +kernel
theorem dX3_carryOutPart_153 : decode cX3_carryOutPart 153 = .ok (.getfield 10, 3) := by decide +kernel
theorem dX3_carryOutPart_156 : decode cX3_carryOutPart 156 = .ok (.getfield 313, 3) := by decide +kernel
theorem dX3_carryOutPart_159 : decode cX3_carryOutPart 159 = .ok (.aload_n 0, 1) := by decide +kernel
theorem dX3_carryOutPart_160 : decode cX3_carryOutPart 160 = .ok (.getfield 10, 3) := by decide +kernel
theorem dX3_carryOutPart_163 : decode cX3_carryOutPart 163 = .ok (.getfield 316, 3) := by decide +kernel
theorem dX3_carryOutPart_166 : decode cX3_carryOutPart 166 = .ok (.invokevirtual 94, 3) := by decide +kernel
theorem dX3_carryOutPart_169 : decode cX3_carryOutPart 169 = .ok (.ireturn, 1) := by decide +kernel
theorem dX3_carryOutPart_170 : decode cX3_carryOutPart 170 = .ok (.aload_n 0, 1) := by decide +kernel
theorem dX3_carryOutPart_171 : decode cX3_carryOutPart 171 = .ok (.getfield 41, 3) := by decide +kernel
theorem dX3_carryOutPart_174 : decode cX3_carryOutPart 174 = .ok (.aload_n 0, 1) := by decide +kernel
theorem dX3_carryOutPart_175 : decode cX3_carryOutPart 175 = .ok (.getfield 10, 3) := by decide +kernel
theorem dX3_carryOutPart_178 : decode cX3_carryOutPart 178 = .ok (.getfield 319, 3) := by decide +kernel
theorem dX3_carryOutPart_181 : decode cX3_carryOutPart 181 = .ok (.aload_n 0, 1) := by decide +kernel
theorem dX3_carryOutPart_182 : decode cX3_carryOutPart 182 = .ok (.getfield 10, 3) := by decide +kernel
theorem dX3_carryOutPart_185 : decode cX3_carryOutPart 185 = .ok (.getfield 316, 3) := by decide +kernel
theorem dX3_carryOutPart_188 : decode cX3_carryOutPart 188 = .ok (.invokevirtual 107, 3) := by decide +kernel
theorem dX3_carryOutPart_191 : decode cX3_carryOutPart 191 = .ok (.ireturn, 1) := by decide +kernel
theorem dX3_carryOutPart_192 : decode cX3_carryOutPart 192 = .ok (.aload_n 0, 1) := by decide +kernel
theorem dX3_carryOutPart_193 : decode cX3_carryOutPart 193 = .ok (.getfield 41, 3) := by decide +kernel
theorem dX3_carryOutPart_196 : decode cX3_carryOutPart 196 = .ok (.aload_n 0, 1) := by decide +kernel
theorem dX3_carryOutPart_197 : decode cX3_carryOutPart 197 = .ok (.getfield 10, 3) := by decide +kernel
theorem dX3_carryOutPart_200 : decode cX3_carryOutPart 200 = .ok (.getfield 319, 3) := by decide +kernel
theorem dX3_carryOutPart_203 : decode cX3_carryOutPart 203 = .ok (.aload_n 0, 1) := by decide +kernel
theorem dX3_carryOutPart_204 : decode cX3_carryOutPart 204 = .ok (.getfield 10, 3) := by decide +kernel
theorem dX3_carryOutPart_207 : decode cX3_carryOutPart 207 = .ok (.getfield 316, 3) := by decide +kernel
theorem dX3_carryOutPart_210 : decode cX3_carryOutPart 210 = .ok (.invokevirtual 113, 3) := by decide +kernel
theorem dX3_carryOutPart_213 : decode cX3_carryOutPart 213 = .ok (.iconst (-1), 1) := by decide +kernel
theorem dX3_carryOutPart_214 : decode cX3_carryOutPart 214 = .ok (.if_icmp .eq 7, 3) := by decide +kernel
theorem dX3_carryOutPart_217 : decode cX3_carryOutPart 217 = .ok (.iconst 1, 1) := by decide +kernel
theorem dX3_carryOutPart_218 : decode cX3_carryOutPart 218 = .ok (.goto 4, 3) := by decide +kernel
theorem dX3_carryOutPart_221 : decode cX3_carryOutPart 221 = .ok (.iconst 0, 1) := by decide +kernel
theorem dX3_carryOutPart_222 : decode cX3_carryOutPart 222 = .ok (.ireturn, 1) := by decide +kernel
theorem dX3_carryOutPart_223 : decode cX3_carryOutPart 223 = .ok (.aload_n 0, 1) := by decide +kernel
theorem dX3_carryOutPart_224 : decode cX3_carryOutPart 224 = .ok (.getfield 41, 3) := by decide +kernel
theorem dX3_carryOutPart_227 : decode cX3_carryOutPart 227 = .ok (.aload_n 0, 1) := by decide +kernel
theorem dX3_carryOutPart_228 : decode cX3_carryOutPart 228 = .ok (.getfield 10, 3) := by decide +kernel
theorem dX3_carryOutPart_231 : decode cX3_carryOutPart 231 = .ok (.getfield 316, 3) := by decide +kernel
theorem dX3_carryOutPart_234 : decode cX3_carryOutPart 234 = .ok (.aload_n 0, 1) := by decide +kernel
theorem dX3_carryOutPart_235 : decode cX3_carryOutPart 235 = .ok (.getfield 19, 3) := by decide +kernel
theorem dX3_carryOutPart_238 : decode cX3_carryOutPart 238 = .ok (.invokevirtual 120, 3) := by decide +kernel
theorem dX3_carryOutPart_241 : decode cX3_carryOutPart 241 = .ok (.pop, 1) := by decide +kernel
theorem dX3_carryOutPart_242 : decode cX3_carryOutPart 242 = .ok (.iconst 1, 1) := by decide +kernel
theorem dX3_carryOutPart_243 : decode cX3_carryOutPart 243 = .ok (.ireturn, 1) := by decide +kernel
theorem dX3_save_0 : decode cX3_save 0 = .ok (.aload_n 0, 1) := by decide +kernel
theorem dX3_save_1 : decode cX3_save 1 = .ok (.getfield 45, 3) := by decide +kernel
theorem dX3_save_4 : decode cX3_save 4 = .ok (.aload_n 0, 1) := by decide +kernel
theorem dX3_save_5 : decode cX3_save 5 = .ok (.getfield 41, 3) := by decide +kernel
theorem dX3_save_8 : decode cX3_save 8 = .ok (.invokevirtual 73, 3) := by decide +kernel
theorem dX3_save_11 : decode cX3_save 11 = .ok (.aload_n 0, 1) := by decide +kernel
theorem dX3_save_12 : decode cX3_save 12 = .ok (.invokevirtual 85, 3) := by decide +kernel
theorem dX3_save_15 : decode cX3_save 15 = .ok (.return_, 1) := by decide +kernel
theorem dX3_saveBefore_0 : decode cX3_saveBefore 0 = .ok (.aload_n 0, 1) := by decide +kernel
theorem dX3_saveBefore_1 : decode cX3_saveBefore 1 = .ok (.getfield 172, 3) := by decide +kernel
theorem dX3_saveBefore_4 : decode cX3_saveBefore 4 = .ok (.bipush 6, 2) := by decide +kernel
theorem dX3_saveBefore_6 : decode cX3_saveBefore 6 = .ok (.if_icmp .ge 26, 3) := by decide +kernel
theorem dX3_saveBefore_9 : decode cX3_saveBefore 9 = .ok (.aload_n 0, 1) := by decide +kernel
theorem dX3_saveBefore_10 : decode cX3_saveBefore 10 = .ok (.getfield 37, 3) := by decide +kernel
theorem dX3_saveBefore_13 : decode cX3_saveBefore 13 = .ok (.aload_n 0, 1) := by decide +kernel
theorem dX3_saveBefore_14 : decode cX3_saveBefore 14 = .ok (.getfield 172, 3) := by decide +kernel
theorem dX3_saveBefore_17 : decode cX3_saveBefore 17 = .ok (.aaload, 1) := by decide +kernel
theorem dX3_saveBefore_18 : decode cX3_saveBefore 18 = .ok (.astore_n 1, 1) := by decide +kernel
theorem dX3_saveBefore_19 : decode cX3_saveBefore 19 = .ok (.aload_n 0, 1) := by decide +kernel
theorem dX3_saveBefore_20 : decode cX3_saveBefore 20 = .ok (.dup, 1) := by decide +kernel
theorem dX3_saveBefore_21 : decode cX3_saveBefore 21 = .ok (.getfield 172, 3) := by decide +kernel
theorem dX3_saveBefore_24 : decode cX3_saveBefore 24 = .ok (.iconst 1, 1) := by decide +kernel
theorem dX3_saveBefore_25 : decode cX3_saveBefore 25 = .ok (.iadd, 1) := by decide +kernel
theorem dX3_saveBefore_26 : decode cX3_saveBefore 26 = .ok (.putfield 172, 3) := by decide +kernel
theorem dX3_saveBefore_29 : decode cX3_saveBefore 29 = .ok (.goto 38, 3) := by decide +kernel
theorem dX3_saveBefore_32 : decode cX3_saveBefore 32 = .ok (.aload_n 0, 1) := by decide +kernel
theorem dX3_saveBefore_33 : decode cX3_saveBefore 33 = .ok (.getfield 37, 3) := by decide +kernel
theorem dX3_saveBefore_36 : decode cX3_saveBefore 36 = .ok (.iconst 0, 1) := by decide +kernel
theorem dX3_saveBefore_37 : decode cX3_saveBefore 37 = .ok (.aaload, 1) := by decide +kernel
theorem dX3_saveBefore_38 : decode cX3_saveBefore 38 = .ok (.astore_n 1, 1) := by decide +kernel
theorem dX3_saveBefore_39 : decode cX3_saveBefore 39 = .ok (.iconst 1, 1) := by decide +kernel
theorem dX3_saveBefore_40 : decode cX3_saveBefore 40 = .ok (.istore_n 2, 1) := by decide +kernel
theorem dX3_saveBefore_41 : decode cX3_saveBefore 41 = .ok (.iload_n 2, 1) := by decide +kernel
theorem dX3_saveBefore_42 : decode cX3_saveBefore 42 = .ok (.bipush 6, 2) := by decide +kernel
theorem dX3_saveBefore_44 : decode cX3_saveBefore 44 = .ok (.if_icmp .ge 23, 3) := by decide +kernel
theorem dX3_saveBefore_47 : decode cX3_saveBefore 47 = .ok (.aload_n 0, 1) := by decide +kernel
theorem dX3_saveBefore_48 : decode cX3_saveBefore 48 = .ok (.getfield 37, 3) := by decide +kernel
theorem dX3_saveBefore_51 : decode cX3_saveBefore 51 = .ok (.iload_n 2, 1) := by decide +kernel
theorem dX3_saveBefore_52 : decode cX3_saveBefore 52 = .ok (.iconst 1, 1) := by decide +kernel
theorem dX3_saveBefore_53 : decode cX3_saveBefore 53 = .ok (.isub, 1) := by decide +kernel
theorem dX3_saveBefore_54 : decode cX3_saveBefore 54 = .ok (.aload_n 0, 1) := by decide +kernel
theorem dX3_saveBefore_55 : decode cX3_saveBefore 55 = .ok (.getfield 37, 3) := by decide +kernel
theorem dX3_saveBefore_58 : decode cX3_saveBefore 58 = .ok (.iload_n 2, 1) := by decide +kernel
theorem dX3_saveBefore_59 : decode cX3_saveBefore 59 = .ok (.aaload, 1) := by decide +kernel
theorem dX3_saveBefore_60 : decode cX3_saveBefore 60 = .ok (.aastore, 1) := by decide +kernel
theorem dX3_saveBefore_61 : decode cX3_saveBefore 61 = .ok (.iinc 2 1, 3) := by decide +kernel
theorem dX3_saveBefore_64 : decode cX3_saveBefore 64 = .ok (.goto (-23), 3) := by decide +kernel
theorem dX3_saveBefore_67 : decode cX3_saveBefore 67 = .ok (.aload_n 0, 1) := by decide +kernel
theorem dX3_saveBefore_68 : decode cX3_saveBefore 68 = .ok (.getfield 37, 3) := by decide +kernel
theorem dX3_saveBefore_71 : decode cX3_saveBefore 71 = .ok (.aload_n 0, 1) := by decide +kernel
theorem dX3_saveBefore_72 : decode cX3_saveBefore 72 = .ok (.getfield 172, 3) := by decide +kernel
theorem dX3_saveBefore_75 : decode cX3_saveBefore 75 = .ok (.iconst 1, 1) := by decide +kernel
theorem dX3_saveBefore_76 : decode cX3_saveBefore 76 = .ok (.isub, 1) := by decide +kernel
theorem dX3_saveBefore_77 : decode cX3_saveBefore 77 = .ok (.aload_n 0, 1) := by decide +kernel
theorem dX3_saveBefore_78 : decode cX3_saveBefore 78 = .ok (.getfield 45, 3) := by decide +kernel
theorem dX3_saveBefore_81 : decode cX3_saveBefore 81 = .ok (.aastore, 1) := by decide +kernel
theorem dX3_saveBefore_82 : decode cX3_saveBefore 82 = .ok (.aload_n 0, 1) := by decide +kernel
theorem dX3_saveBefore_83 : decode cX3_saveBefore 83 = .ok (.aload_n 1, 1) := by decide +kernel
theorem dX3_saveBefore_84 : decode cX3_saveBefore 84 = .ok (.putfield 45, 3) := by decide +kernel
theorem dX3_saveBefore_87 : decode cX3_saveBefore 87 = .ok (.return_, 1) := by decide +kernel
theorem dX3_at_0 : decode cX3_at 0 = .ok (.iload_n 0, 1) := by decide +kernel
theorem dX3_at_1 : decode cX3_at 1 = .ok (.bipush 6, 2) := by decide +kernel
theorem dX3_at_3 : decode cX3_at 3 = .ok (.imul, 1) := by decide +kernel
theorem dX3_at_4 : decode cX3_at 4 = .ok (.iload_n 1, 1) := by decide +kernel
theorem dX3_at_5 : decode cX3_at 5 = .ok (.iadd, 1) := by decide +kernel
theorem dX3_at_6 : decode cX3_at 6 = .ok (.ireturn, 1) := by decide +kernel
theorem dX3_fallen_0 : decode cX3_fallen 0 = .ok (.iload_n 0, 1) := by decide +kernel
theorem dX3_fallen_1 : decode cX3_fallen 1 = .ok (.bipush 100, 2) := by decide +kernel
theorem dX3_fallen_3 : decode cX3_fallen 3 = .ok (.iload_n 1, 1) := by decide +kernel
theorem dX3_fallen_4 : decode cX3_fallen 4 = .ok (.isub, 1) := by decide +kernel
theorem dX3_fallen_5 : decode cX3_fallen 5 = .ok (.imul, 1) := by decide +kernel
theorem dX3_fallen_6 : decode cX3_fallen 6 = .ok (.bipush 100, 2) := by decide +kernel
theorem dX3_fallen_8 : decode cX3_fallen 8 = .ok (.idiv, 1) := by decide +kernel
theorem dX3_fallen_9 : decode cX3_fallen 9 = .ok (.istore_n 3, 1) := by decide +kernel
theorem dX3_fallen_10 : decode cX3_fallen 10 = .ok (.iload_n 3, 1) := by decide +kernel
theorem dX3_fallen_11 : decode cX3_fallen 11 = .ok (.iload_n 2, 1) := by decide +kernel
theorem dX3_fallen_12 : decode cX3_fallen 12 = .ok (.if_icmp .ge 7, 3) := by decide +kernel
theorem dX3_fallen_15 : decode cX3_fallen 15 = .ok (.iload_n 2, 1) := by decide +kernel
theorem dX3_fallen_16 : decode cX3_fallen 16 = .ok (.goto 4, 3) := by decide +kernel
theorem dX3_fallen_19 : decode cX3_fallen 19 = .ok (.iload_n 3, 1) := by decide +kernel
theorem dX3_fallen_20 : decode cX3_fallen 20 = .ok (.ireturn, 1) := by decide +kernel
theorem dX3_needKind_0 : decode cX3_needKind 0 = .ok (.iload_n 0, 1) := by decide +kernel
theorem dX3_needKind_1 : decode cX3_needKind 1 = .ok (.ifCond .lt 9, 3) := by decide +kernel
theorem dX3_needKind_4 : decode cX3_needKind 4 = .ok (.iload_n 0, 1) := by decide +kernel
theorem dX3_needKind_5 : decode cX3_needKind 5 = .ok (.bipush 6, 2) := by decide +kernel
theorem dX3_needKind_7 : decode cX3_needKind 7 = .ok (.if_icmp .lt 11, 3) := by decide +kernel
theorem dX3_needKind_10 : decode cX3_needKind 10 = .ok (.new 322, 3) := by decide +kernel
theorem dX3_needKind_13 : decode cX3_needKind 13 = .ok (.dup, 1) := by decide +kernel
theorem dX3_needKind_14 : decode cX3_needKind 14 = .ok (.invokespecial 324, 3) := by decide +kernel
theorem dX3_needKind_17 : decode cX3_needKind 17 = .ok (.athrow, 1) := by decide +kernel
theorem dX3_needKind_18 : decode cX3_needKind 18 = .ok (.return_, 1) := by decide +kernel
theorem dX3_needClient_0 : decode cX3_needClient 0 = .ok (.iload_n 0, 1) := by decide +kernel
theorem dX3_needClient_1 : decode cX3_needClient 1 = .ok (.ifCond .lt 9, 3) := by decide +kernel
theorem dX3_needClient_4 : decode cX3_needClient 4 = .ok (.iload_n 0, 1) := by decide +kernel
theorem dX3_needClient_5 : decode cX3_needClient 5 = .ok (.bipush 8, 2) := by decide +kernel
theorem dX3_needClient_7 : decode cX3_needClient 7 = .ok (.if_icmp .lt 11, 3) := by decide +kernel
theorem dX3_needClient_10 : decode cX3_needClient 10 = .ok (.new 322, 3) := by decide +kernel
theorem dX3_needClient_13 : decode cX3_needClient 13 = .ok (.dup, 1) := by decide +kernel
theorem dX3_needClient_14 : decode cX3_needClient 14 = .ok (.invokespecial 324, 3) := by decide +kernel
theorem dX3_needClient_17 : decode cX3_needClient 17 = .ok (.athrow, 1) := by decide +kernel
theorem dX3_needClient_18 : decode cX3_needClient 18 = .ok (.return_, 1) := by decide +kernel
theorem dX3_needPlace_0 : decode cX3_needPlace 0 = .ok (.iload_n 0, 1) := by decide +kernel
theorem dX3_needPlace_1 : decode cX3_needPlace 1 = .ok (.ifCond .lt 9, 3) := by decide +kernel
theorem dX3_needPlace_4 : decode cX3_needPlace 4 = .ok (.iload_n 0, 1) := by decide +kernel
theorem dX3_needPlace_5 : decode cX3_needPlace 5 = .ok (.bipush 8, 2) := by decide +kernel
theorem dX3_needPlace_7 : decode cX3_needPlace 7 = .ok (.if_icmp .lt 11, 3) := by decide +kernel
theorem dX3_needPlace_10 : decode cX3_needPlace 10 = .ok (.new 322, 3) := by decide +kernel
theorem dX3_needPlace_13 : decode cX3_needPlace 13 = .ok (.dup, 1) := by decide +kernel
theorem dX3_needPlace_14 : decode cX3_needPlace 14 = .ok (.invokespecial 324, 3) := by decide +kernel
theorem dX3_needPlace_17 : decode cX3_needPlace 17 = .ok (.athrow, 1) := by decide +kernel
theorem dX3_needPlace_18 : decode cX3_needPlace 18 = .ok (.return_, 1) := by decide +kernel
theorem dX3_needRange_0 : decode cX3_needRange 0 = .ok (.iload_n 0, 1) := by decide +kernel
theorem dX3_needRange_1 : decode cX3_needRange 1 = .ok (.iload_n 1, 1) := by decide +kernel
theorem dX3_needRange_2 : decode cX3_needRange 2 = .ok (.if_icmp .lt 8, 3) := by decide +kernel
theorem dX3_needRange_5 : decode cX3_needRange 5 = .ok (.iload_n 0, 1) := by decide +kernel
theorem dX3_needRange_6 : decode cX3_needRange 6 = .ok (.iload_n 2, 1) := by decide +kernel
theorem dX3_needRange_7 : decode cX3_needRange 7 = .ok (.if_icmp .le 11, 3) := by decide +kernel
theorem dX3_needRange_10 : decode cX3_needRange 10 = .ok (.new 154, 3) := by decide +kernel
theorem dX3_needRange_13 : decode cX3_needRange 13 = .ok (.dup, 1) := by decide +kernel
theorem dX3_needRange_14 : decode cX3_needRange 14 = .ok (.invokespecial 156, 3) := by decide +kernel
theorem dX3_needRange_17 : decode cX3_needRange 17 = .ok (.athrow, 1) := by decide +kernel
theorem dX3_needRange_18 : decode cX3_needRange 18 = .ok (.return_, 1) := by decide +kernel
theorem dX3_need_0 : decode cX3_need 0 = .ok (.iload_n 0, 1) := by decide +kernel
theorem dX3_need_1 : decode cX3_need 1 = .ok (.ifCond .ne 11, 3) := by decide +kernel
theorem dX3_need_4 : decode cX3_need 4 = .ok (.new 140, 3) := by decide +kernel
theorem dX3_need_7 : decode cX3_need 7 = .ok (.dup, 1) := by decide +kernel
theorem dX3_need_8 : decode cX3_need 8 = .ok (.invokespecial 142, 3) := by decide +kernel
theorem dX3_need_11 : decode cX3_need 11 = .ok (.athrow, 1) := by decide +kernel
theorem dX3_need_12 : decode cX3_need 12 = .ok (.return_, 1) := by decide +kernel
