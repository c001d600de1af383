theorem dL_setPrice_0 : decode cL_setPrice 0 = .ok (.aload_n 3, 1) := by decide +kernel
theorem dL_setPrice_1 : decode cL_setPrice 1 = .ok (.iconst 0, 1) := by decide +kernel
theorem dL_setPrice_2 : decode cL_setPrice 2 = .ok (.aload_n 0, 1) := by decide +kernel
theorem dL_setPrice_3 : decode cL_setPrice 3 = .ok (.iload_n 1, 1) := by decide +kernel
theorem dL_setPrice_4 : decode cL_setPrice 4 = .ok (.iload_n 2, 1) := by decide +kernel
theorem dL_setPrice_5 : decode cL_setPrice 5 = .ok (.invokevirtual 7, 3) := by decide +kernel
theorem dL_setPrice_8 : decode cL_setPrice 8 = .ok (.i2l, 1) := by decide +kernel
theorem dL_setPrice_9 : decode cL_setPrice 9 = .ok (.lastore, 1) := by decide +kernel
theorem dL_setPrice_10 : decode cL_setPrice 10 = .ok (.goto 11, 3) := by decide +kernel
theorem dL_setPrice_13 : decode cL_setPrice 13 = .ok (.astore 4, 2) := by decide +kernel
theorem dL_setPrice_15 : decode cL_setPrice 15 = .ok (.iconst 1, 1) := by decide +kernel
theorem dL_setPrice_16 : decode cL_setPrice 16 = .ok (.ireturn, 1) := by decide +kernel
theorem dL_setPrice_17 : decode cL_setPrice 17 = .ok (.astore 4, 2) := by decide +kernel
theorem dL_setPrice_19 : decode cL_setPrice 19 = .ok (.iconst 2, 1) := by decide +kernel
theorem dL_setPrice_20 : decode cL_setPrice 20 = .ok (.ireturn, 1) := by decide +kernel
theorem dL_setPrice_21 : decode cL_setPrice 21 = .ok (.iconst 0, 1) := by decide +kernel
theorem dL_setPrice_22 : decode cL_setPrice 22 = .ok (.ireturn, 1) := by decide +kernel
theorem dL_setCut_0 : decode cL_setCut 0 = .ok (.aload_n 3, 1) := by decide +kernel
theorem dL_setCut_1 : decode cL_setCut 1 = .ok (.iconst 0, 1) := by decide +kernel
theorem dL_setCut_2 : decode cL_setCut 2 = .ok (.aload_n 0, 1) := by decide +kernel
theorem dL_setCut_3 : decode cL_setCut 3 = .ok (.iload_n 1, 1) := by decide +kernel
theorem dL_setCut_4 : decode cL_setCut 4 = .ok (.iload_n 2, 1) := by decide +kernel
theorem dL_setCut_5 : decode cL_setCut 5 = .ok (.invokevirtual 17, 3) := by decide +kernel
theorem dL_setCut_8 : decode cL_setCut 8 = .ok (.i2l, 1) := by decide +kernel
theorem dL_setCut_9 : decode cL_setCut 9 = .ok (.lastore, 1) := by decide +kernel
theorem dL_setCut_10 : decode cL_setCut 10 = .ok (.goto 11, 3) := by decide +kernel
theorem dL_setCut_13 : decode cL_setCut 13 = .ok (.astore 4, 2) := by decide +kernel
theorem dL_setCut_15 : decode cL_setCut 15 = .ok (.iconst 1, 1) := by decide +kernel
theorem dL_setCut_16 : decode cL_setCut 16 = .ok (.ireturn, 1) := by decide +kernel
theorem dL_setCut_17 : decode cL_setCut 17 = .ok (.astore 4, 2) := by decide +kernel
theorem dL_setCut_19 : decode cL_setCut 19 = .ok (.iconst 2, 1) := by decide +kernel
theorem dL_setCut_20 : decode cL_setCut 20 = .ok (.ireturn, 1) := by decide +kernel
theorem dL_setCut_21 : decode cL_setCut 21 = .ok (.iconst 0, 1) := by decide +kernel
theorem dL_setCut_22 : decode cL_setCut 22 = .ok (.ireturn, 1) := by decide +kernel
theorem dL_fall_0 : decode cL_fall 0 = .ok (.aload_n 2, 1) := by decide +kernel
theorem dL_fall_1 : decode cL_fall 1 = .ok (.iconst 0, 1) := by decide +kernel
theorem dL_fall_2 : decode cL_fall 2 = .ok (.aload_n 0, 1) := by decide +kernel
theorem dL_fall_3 : decode cL_fall 3 = .ok (.iload_n 1, 1) := by decide +kernel
theorem dL_fall_4 : decode cL_fall 4 = .ok (.invokevirtual 20, 3) := by decide +kernel
theorem dL_fall_7 : decode cL_fall 7 = .ok (.i2l, 1) := by decide +kernel
theorem dL_fall_8 : decode cL_fall 8 = .ok (.lastore, 1) := by decide +kernel
theorem dL_fall_9 : decode cL_fall 9 = .ok (.goto 6, 3) := by decide +kernel
theorem dL_fall_12 : decode cL_fall 12 = .ok (.astore_n 3, 1) := by decide +kernel
theorem dL_fall_13 : decode cL_fall 13 = .ok (.iconst 1, 1) := by decide +kernel
theorem dL_fall_14 : decode cL_fall 14 = .ok (.ireturn, 1) := by decide +kernel
theorem dL_fall_15 : decode cL_fall 15 = .ok (.iconst 0, 1) := by decide +kernel
theorem dL_fall_16 : decode cL_fall 16 = .ok (.ireturn, 1) := by decide +kernel
theorem dL_pledge_0 : decode cL_pledge 0 = .ok (.aload 4, 2) := by decide +kernel
theorem dL_pledge_2 : decode cL_pledge 2 = .ok (.iconst 0, 1) := by decide +kernel
theorem dL_pledge_3 : decode cL_pledge 3 = .ok (.aload_n 0, 1) := by decide +kernel
theorem dL_pledge_4 : decode cL_pledge 4 = .ok (.iload_n 1, 1) := by decide +kernel
theorem dL_pledge_5 : decode cL_pledge 5 = .ok (.iload_n 2, 1) := by decide +kernel
theorem dL_pledge_6 : decode cL_pledge 6 = .ok (.iload_n 3, 1) := by decide +kernel
theorem dL_pledge_7 : decode cL_pledge 7 = .ok (.invokevirtual 24, 3) := by decide +kernel
theorem dL_pledge_10 : decode cL_pledge 10 = .ok (.i2l, 1) := by decide +kernel
theorem dL_pledge_11 : decode cL_pledge 11 = .ok (.lastore, 1) := by decide +kernel
theorem dL_pledge_12 : decode cL_pledge 12 = .ok (.goto 15, 3) := by decide +kernel
theorem dL_pledge_15 : decode cL_pledge 15 = .ok (.astore 5, 2) := by decide +kernel
theorem dL_pledge_17 : decode cL_pledge 17 = .ok (.iconst 1, 1) := by decide +kernel
theorem dL_pledge_18 : decode cL_pledge 18 = .ok (.ireturn, 1) := by decide +kernel
theorem dL_pledge_19 : decode cL_pledge 19 = .ok (.astore 5, 2) := by decide +kernel
theorem dL_pledge_21 : decode cL_pledge 21 = .ok (.iconst 2, 1) := by decide +kernel
theorem dL_pledge_22 : decode cL_pledge 22 = .ok (.ireturn, 1) := by decide +kernel
theorem dL_pledge_23 : decode cL_pledge 23 = .ok (.astore 5, 2) := by decide +kernel
theorem dL_pledge_25 : decode cL_pledge 25 = .ok (.iconst 3, 1) := by decide +kernel
theorem dL_pledge_26 : decode cL_pledge 26 = .ok (.ireturn, 1) := by decide +kernel
theorem dL_pledge_27 : decode cL_pledge 27 = .ok (.iconst 0, 1) := by decide +kernel
theorem dL_pledge_28 : decode cL_pledge 28 = .ok (.ireturn, 1) := by decide +kernel
theorem dL_release_0 : decode cL_release 0 = .ok (.aload 4, 2) := by decide +kernel
theorem dL_release_2 : decode cL_release 2 = .ok (.iconst 0, 1) := by decide +kernel
theorem dL_release_3 : decode cL_release 3 = .ok (.aload_n 0, 1) := by decide +kernel
theorem dL_release_4 : decode cL_release 4 = .ok (.iload_n 1, 1) := by decide +kernel
theorem dL_release_5 : decode cL_release 5 = .ok (.iload_n 2, 1) := by decide +kernel
theorem dL_release_6 : decode cL_release 6 = .ok (.iload_n 3, 1) := by decide +kernel
theorem dL_release_7 : decode cL_release 7 = .ok (.invokevirtual 30, 3) := by decide +kernel
theorem dL_release_10 : decode cL_release 10 = .ok (.i2l, 1) := by decide +kernel
theorem dL_release_11 : decode cL_release 11 = .ok (.lastore, 1) := by decide +kernel
theorem dL_release_12 : decode cL_release 12 = .ok (.goto 15, 3) := by decide +kernel
theorem dL_release_15 : decode cL_release 15 = .ok (.astore 5, 2) := by decide +kernel
theorem dL_release_17 : decode cL_release 17 = .ok (.iconst 1, 1) := by decide +kernel
theorem dL_release_18 : decode cL_release 18 = .ok (.ireturn, 1) := by decide +kernel
theorem dL_release_19 : decode cL_release 19 = .ok (.astore 5, 2) := by decide +kernel
theorem dL_release_21 : decode cL_release 21 = .ok (.iconst 2, 1) := by decide +kernel
theorem dL_release_22 : decode cL_release 22 = .ok (.ireturn, 1) := by decide +kernel
theorem dL_release_23 : decode cL_release 23 = .ok (.astore 5, 2) := by decide +kernel
theorem dL_release_25 : decode cL_release 25 = .ok (.iconst 3, 1) := by decide +kernel
theorem dL_release_26 : decode cL_release 26 = .ok (.ireturn, 1) := by decide +kernel
theorem dL_release_27 : decode cL_release 27 = .ok (.iconst 0, 1) := by decide +kernel
theorem dL_release_28 : decode cL_release 28 = .ok (.ireturn, 1) := by decide +kernel
theorem dL_deposit_0 : decode cL_deposit 0 = .ok (.aload_n 3, 1) := by decide +kernel
theorem dL_deposit_1 : decode cL_deposit 1 = .ok (.iconst 0, 1) := by decide +kernel
theorem dL_deposit_2 : decode cL_deposit 2 = .ok (.aload_n 0, 1) := by decide +kernel
theorem dL_deposit_3 : decode cL_deposit 3 = .ok (.iload_n 1, 1) := by decide +kernel
theorem dL_deposit_4 : decode cL_deposit 4 = .ok (.iload_n 2, 1) := by decide +kernel
theorem dL_deposit_5 : decode cL_deposit 5 = .ok (.invokevirtual 33, 3) := by decide +kernel
theorem dL_deposit_8 : decode cL_deposit 8 = .ok (.i2l, 1) := by decide +kernel
theorem dL_deposit_9 : decode cL_deposit 9 = .ok (.lastore, 1) := by decide +kernel
theorem dL_deposit_10 : decode cL_deposit 10 = .ok (.goto 15, 3) := by decide +kernel
theorem dL_deposit_13 : decode cL_deposit 13 = .ok (.astore 4, 2) := by decide +kernel
theorem dL_deposit_15 : decode cL_deposit 15 = .ok (.iconst 1, 1) := by decide +kernel
theorem dL_deposit_16 : decode cL_deposit 16 = .ok (.ireturn, 1) := by decide +kernel
theorem dL_deposit_17 : decode cL_deposit 17 = .ok (.astore 4, 2) := by decide +kernel
theorem dL_deposit_19 : decode cL_deposit 19 = .ok (.iconst 2, 1) := by decide +kernel
theorem dL_deposit_20 : decode cL_deposit 20 = .ok (.ireturn, 1) := by decide +kernel
theorem dL_deposit_21 : decode cL_deposit 21 = .ok (.astore 4, 2) := by decide +kernel
theorem dL_deposit_23 : decode cL_deposit 23 = .ok (.iconst 3, 1) := by decide +kernel
theorem dL_deposit_24 : decode cL_deposit 24 = .ok (.ireturn, 1) := by decide +kernel
theorem dL_deposit_25 : decode cL_deposit 25 = .ok (.iconst 0, 1) := by decide +kernel
theorem dL_deposit_26 : decode cL_deposit 26 = .ok (.ireturn, 1) := by decide +kernel
theorem dL_withdraw_0 : decode cL_withdraw 0 = .ok (.aload_n 3, 1) := by decide +kernel
theorem dL_withdraw_1 : decode cL_withdraw 1 = .ok (.iconst 0, 1) := by decide +kernel
theorem dL_withdraw_2 : decode cL_withdraw 2 = .ok (.aload_n 0, 1) := by decide +kernel
theorem dL_withdraw_3 : decode cL_withdraw 3 = .ok (.iload_n 1, 1) := by decide +kernel
theorem dL_withdraw_4 : decode cL_withdraw 4 = .ok (.iload_n 2, 1) := by decide +kernel
theorem dL_withdraw_5 : decode cL_withdraw 5 = .ok (.invokevirtual 36, 3) := by decide +kernel
theorem dL_withdraw_8 : decode cL_withdraw 8 = .ok (.i2l, 1) := by decide +kernel
theorem dL_withdraw_9 : decode cL_withdraw 9 = .ok (.lastore, 1) := by decide +kernel
theorem dL_withdraw_10 : decode cL_withdraw 10 = .ok (.goto 15, 3) := by decide +kernel
theorem dL_withdraw_13 : decode cL_withdraw 13 = .ok (.astore 4, 2) := by decide +kernel
theorem dL_withdraw_15 : decode cL_withdraw 15 = .ok (.iconst 1, 1) := by decide +kernel
theorem dL_withdraw_16 : decode cL_withdraw 16 = .ok (.ireturn, 1) := by decide +kernel
theorem dL_withdraw_17 : decode cL_withdraw 17 = .ok (.astore 4, 2) := by decide +kernel
theorem dL_withdraw_19 : decode cL_withdraw 19 = .ok (.iconst 2, 1) := by decide +kernel
theorem dL_withdraw_20 : decode cL_withdraw 20 = .ok (.ireturn, 1) := by decide +kernel
theorem dL_withdraw_21 : decode cL_withdraw 21 = .ok (.astore 4, 2) := by decide +kernel
theorem dL_withdraw_23 : decode cL_withdraw 23 = .ok (.iconst 3, 1) := by decide +kernel
theorem dL_withdraw_24 : decode cL_withdraw 24 = .ok (.ireturn, 1) := by decide +kernel
theorem dL_withdraw_25 : decode cL_withdraw 25 = .ok (.iconst 0, 1) := by decide +kernel
theorem dL_withdraw_26 : decode cL_withdraw 26 = .ok (.ireturn, 1) := by decide +kernel
theorem dL_lend_0 : decode cL_lend 0 = .ok (.aload_n 3, 1) := by decide +kernel
theorem dL_lend_1 : decode cL_lend 1 = .ok (.iconst 0, 1) := by decide +kernel
theorem dL_lend_2 : decode cL_lend 2 = .ok (.aload_n 0, 1) := by decide +kernel
theorem dL_lend_3 : decode cL_lend 3 = .ok (.iload_n 1, 1) := by decide +kernel
theorem dL_lend_4 : decode cL_lend 4 = .ok (.iload_n 2, 1) := by decide +kernel
theorem dL_lend_5 : decode cL_lend 5 = .ok (.invokevirtual 39, 3) := by decide +kernel
theorem dL_lend_8 : decode cL_lend 8 = .ok (.i2l, 1) := by decide +kernel
theorem dL_lend_9 : decode cL_lend 9 = .ok (.lastore, 1) := by decide +kernel
theorem dL_lend_10 : decode cL_lend 10 = .ok (.goto 15, 3) := by decide +kernel
theorem dL_lend_13 : decode cL_lend 13 = .ok (.astore 4, 2) := by decide +kernel
theorem dL_lend_15 : decode cL_lend 15 = .ok (.iconst 1, 1) := by decide +kernel
theorem dL_lend_16 : decode cL_lend 16 = .ok (.ireturn, 1) := by decide +kernel
theorem dL_lend_17 : decode cL_lend 17 = .ok (.astore 4, 2) := by decide +kernel
theorem dL_lend_19 : decode cL_lend 19 = .ok (.iconst 2, 1) := by decide +kernel
theorem dL_lend_20 : decode cL_lend 20 = .ok (.ireturn, 1) := by decide +kernel
theorem dL_lend_21 : decode cL_lend 21 = .ok (.astore 4, 2) := by decide +kernel
theorem dL_lend_23 : decode cL_lend 23 = .ok (.iconst 3, 1) := by decide +kernel
theorem dL_lend_24 : decode cL_lend 24 = .ok (.ireturn, 1) := by decide +kernel
theorem dL_lend_25 : decode cL_lend 25 = .ok (.iconst 0, 1) := by decide +kernel
theorem dL_lend_26 : decode cL_lend 26 = .ok (.ireturn, 1) := by decide +kernel
theorem dL_payBack_0 : decode cL_payBack 0 = .ok (.aload_n 3, 1) := by decide +kernel
theorem dL_payBack_1 : decode cL_payBack 1 = .ok (.iconst 0, 1) := by decide +kernel
theorem dL_payBack_2 : decode cL_payBack 2 = .ok (.aload_n 0, 1) := by decide +kernel
theorem dL_payBack_3 : decode cL_payBack 3 = .ok (.iload_n 1, 1) := by decide +kernel
theorem dL_payBack_4 : decode cL_payBack 4 = .ok (.iload_n 2, 1) := by decide +kernel
theorem dL_payBack_5 : decode cL_payBack 5 = .ok (.invokevirtual 42, 3) := by decide +kernel
theorem dL_payBack_8 : decode cL_payBack 8 = .ok (.i2l, 1) := by decide +kernel
theorem dL_payBack_9 : decode cL_payBack 9 = .ok (.lastore, 1) := by decide +kernel
theorem dL_payBack_10 : decode cL_payBack 10 = .ok (.goto 15, 3) := by decide +kernel
theorem dL_payBack_13 : decode cL_payBack 13 = .ok (.astore 4, 2) := by decide +kernel
theorem dL_payBack_15 : decode cL_payBack 15 = .ok (.iconst 1, 1) := by decide +kernel
theorem dL_payBack_16 : decode cL_payBack 16 = .ok (.ireturn, 1) := by decide +kernel
theorem dL_payBack_17 : decode cL_payBack 17 = .ok (.astore 4, 2) := by decide +kernel
theorem dL_payBack_19 : decode cL_payBack 19 = .ok (.iconst 2, 1) := by decide +kernel
theorem dL_payBack_20 : decode cL_payBack 20 = .ok (.ireturn, 1) := by decide +kernel
theorem dL_payBack_21 : decode cL_payBack 21 = .ok (.astore 4, 2) := by decide +kernel
theorem dL_payBack_23 : decode cL_payBack 23 = .ok (.iconst 3, 1) := by decide +kernel
theorem dL_payBack_24 : decode cL_payBack 24 = .ok (.ireturn, 1) := by decide +kernel
theorem dL_payBack_25 : decode cL_payBack 25 = .ok (.iconst 0, 1) := by decide +kernel
theorem dL_payBack_26 : decode cL_payBack 26 = .ok (.ireturn, 1) := by decide +kernel
theorem dL_readmit_0 : decode cL_readmit 0 = .ok (.aload_n 0, 1) := by decide +kernel
theorem dL_readmit_1 : decode cL_readmit 1 = .ok (.iload_n 1, 1) := by decide +kernel
theorem dL_readmit_2 : decode cL_readmit 2 = .ok (.invokevirtual 45, 3) := by decide +kernel
theorem dL_readmit_5 : decode cL_readmit 5 = .ok (.goto 9, 3) := by decide +kernel
theorem dL_readmit_8 : decode cL_readmit 8 = .ok (.astore_n 2, 1) := by decide +kernel
theorem dL_readmit_9 : decode cL_readmit 9 = .ok (.iconst 1, 1) := by decide +kernel
theorem dL_readmit_10 : decode cL_readmit 10 = .ok (.ireturn, 1) := by decide +kernel
theorem dL_readmit_11 : decode cL_readmit 11 = .ok (.astore_n 2, 1) := by decide +kernel
theorem dL_readmit_12 : decode cL_readmit 12 = .ok (.iconst 2, 1) := by decide +kernel
theorem dL_readmit_13 : decode cL_readmit 13 = .ok (.ireturn, 1) := by decide +kernel
theorem dL_readmit_14 : decode cL_readmit 14 = .ok (.iconst 0, 1) := by decide +kernel
theorem dL_readmit_15 : decode cL_readmit 15 = .ok (.ireturn, 1) := by decide +kernel
theorem dL_pass_0 : decode cL_pass 0 = .ok (.aload_n 2, 1) := by decide +kernel
theorem dL_pass_1 : decode cL_pass 1 = .ok (.iconst 0, 1) := by decide +kernel
theorem dL_pass_2 : decode cL_pass 2 = .ok (.aload_n 0, 1) := by decide +kernel
theorem dL_pass_3 : decode cL_pass 3 = .ok (.iload_n 1, 1) := by decide +kernel
theorem dL_pass_4 : decode cL_pass 4 = .ok (.invokevirtual 49, 3) := by decide +kernel
theorem dL_pass_7 : decode cL_pass 7 = .ok (.i2l, 1) := by decide +kernel
theorem dL_pass_8 : decode cL_pass 8 = .ok (.lastore, 1) := by decide +kernel
theorem dL_pass_9 : decode cL_pass 9 = .ok (.goto 6, 3) := by decide +kernel
theorem dL_pass_12 : decode cL_pass 12 = .ok (.astore_n 3, 1) := by decide +kernel
theorem dL_pass_13 : decode cL_pass 13 = .ok (.iconst 1, 1) := by decide +kernel
theorem dL_pass_14 : decode cL_pass 14 = .ok (.ireturn, 1) := by decide +kernel
theorem dL_pass_15 : decode cL_pass 15 = .ok (.iconst 0, 1) := by decide +kernel
theorem dL_pass_16 : decode cL_pass 16 = .ok (.ireturn, 1) := by decide +kernel
theorem dL_changeRate_0 : decode cL_changeRate 0 = .ok (.aload_n 2, 1) := by decide +kernel
theorem dL_changeRate_1 : decode cL_changeRate 1 = .ok (.iconst 0, 1) := by decide +kernel
theorem dL_changeRate_2 : decode cL_changeRate 2 = .ok (.aload_n 0, 1) := by decide +kernel
theorem dL_changeRate_3 : decode cL_changeRate 3 = .ok (.iload_n 1, 1) := by decide +kernel
theorem dL_changeRate_4 : decode cL_changeRate 4 = .ok (.invokevirtual 52, 3) := by decide +kernel
theorem dL_changeRate_7 : decode cL_changeRate 7 = .ok (.i2l, 1) := by decide +kernel
theorem dL_changeRate_8 : decode cL_changeRate 8 = .ok (.lastore, 1) := by decide +kernel
theorem dL_changeRate_9 : decode cL_changeRate 9 = .ok (.goto 6, 3) := by decide +kernel
theorem dL_changeRate_12 : decode cL_changeRate 12 = .ok (.astore_n 3, 1) := by decide +kernel
theorem dL_changeRate_13 : decode cL_changeRate 13 = .ok (.iconst 1, 1) := by decide +kernel
theorem dL_changeRate_14 : decode cL_changeRate 14 = .ok (.ireturn, 1) := by decide +kernel
theorem dL_changeRate_15 : decode cL_changeRate 15 = .ok (.iconst 0, 1) := by decide +kernel
theorem dL_changeRate_16 : decode cL_changeRate 16 = .ok (.ireturn, 1) := by decide +kernel
theorem dL_changeGrace_0 : decode cL_changeGrace 0 = .ok (.aload_n 2, 1) := by decide +kernel
theorem dL_changeGrace_1 : decode cL_changeGrace 1 = .ok (.iconst 0, 1) := by decide +kernel
theorem dL_changeGrace_2 : decode cL_changeGrace 2 = .ok (.aload_n 0, 1) := by decide +kernel
theorem dL_changeGrace_3 : decode cL_changeGrace 3 = .ok (.iload_n 1, 1) := by decide +kernel
theorem dL_changeGrace_4 : decode cL_changeGrace 4 = .ok (.invokevirtual 55, 3) := by decide +kernel
theorem dL_changeGrace_7 : decode cL_changeGrace 7 = .ok (.i2l, 1) := by decide +kernel
theorem dL_changeGrace_8 : decode cL_changeGrace 8 = .ok (.lastore, 1) := by decide +kernel
theorem dL_changeGrace_9 : decode cL_changeGrace 9 = .ok (.goto 6, 3) := by decide +kernel
theorem dL_changeGrace_12 : decode cL_changeGrace 12 = .ok (.astore_n 3, 1) := by decide +kernel
theorem dL_changeGrace_13 : decode cL_changeGrace 13 = .ok (.iconst 1, 1) := by decide +kernel
theorem dL_changeGrace_14 : decode cL_changeGrace 14 = .ok (.ireturn, 1) := by decide +kernel
theorem dL_changeGrace_15 : decode cL_changeGrace 15 = .ok (.iconst 0, 1) := by decide +kernel
theorem dL_changeGrace_16 : decode cL_changeGrace 16 = .ok (.ireturn, 1) := by decide +kernel
theorem dL_changeSlip_0 : decode cL_changeSlip 0 = .ok (.aload_n 2, 1) := by decide +kernel
theorem dL_changeSlip_1 : decode cL_changeSlip 1 = .ok (.iconst 0, 1) := by decide +kernel
theorem dL_changeSlip_2 : decode cL_changeSlip 2 = .ok (.aload_n 0, 1) := by decide +kernel
theorem dL_changeSlip_3 : decode cL_changeSlip 3 = .ok (.iload_n 1, 1) := by decide +kernel
theorem dL_changeSlip_4 : decode cL_changeSlip 4 = .ok (.invokevirtual 58, 3) := by decide +kernel
theorem dL_changeSlip_7 : decode cL_changeSlip 7 = .ok (.i2l, 1) := by decide +kernel
theorem dL_changeSlip_8 : decode cL_changeSlip 8 = .ok (.lastore, 1) := by decide +kernel
theorem dL_changeSlip_9 : decode cL_changeSlip 9 = .ok (.goto 6, 3) := by decide +kernel
theorem dL_changeSlip_12 : decode cL_changeSlip 12 = .ok (.astore_n 3, 1) := by decide +kernel
theorem dL_changeSlip_13 : decode cL_changeSlip 13 = .ok (.iconst 1, 1) := by decide +kernel
theorem dL_changeSlip_14 : decode cL_changeSlip 14 = .ok (.ireturn, 1) := by decide +kernel
theorem dL_changeSlip_15 : decode cL_changeSlip 15 = .ok (.iconst 0, 1) := by decide +kernel
theorem dL_changeSlip_16 : decode cL_changeSlip 16 = .ok (.ireturn, 1) := by decide +kernel
theorem dL_append_0 : decode cL_append 0 = .ok (.aload_n 2, 1) := by decide +kernel
theorem dL_append_1 : decode cL_append 1 = .ok (.iconst 0, 1) := by decide +kernel
theorem dL_append_2 : decode cL_append 2 = .ok (.aload_n 0, 1) := by decide +kernel
theorem dL_append_3 : decode cL_append 3 = .ok (.iload_n 1, 1) := by decide +kernel
theorem dL_append_4 : decode cL_append 4 = .ok (.invokevirtual 61, 3) := by decide +kernel
theorem dL_append_7 : decode cL_append 7 = .ok (.i2l, 1) := by decide +kernel
theorem dL_append_8 : decode cL_append 8 = .ok (.lastore, 1) := by decide +kernel
theorem dL_append_9 : decode cL_append 9 = .ok (.goto 9, 3) := by decide +kernel
theorem dL_append_12 : decode cL_append 12 = .ok (.astore_n 3, 1) := by decide +kernel
theorem dL_append_13 : decode cL_append 13 = .ok (.iconst 1, 1) := by decide +kernel
theorem dL_append_14 : decode cL_append 14 = .ok (.ireturn, 1) := by decide +kernel
theorem dL_append_15 : decode cL_append 15 = .ok (.astore_n 3, 1) := by decide +kernel
theorem dL_append_16 : decode cL_append 16 = .ok (.iconst 2, 1) := by decide +kernel
theorem dL_append_17 : decode cL_append 17 = .ok (.ireturn, 1) := by decide +kernel
theorem dL_append_18 : decode cL_append 18 = .ok (.iconst 0, 1) := by decide +kernel
theorem dL_append_19 : decode cL_append 19 = .ok (.ireturn, 1) := by decide +kernel
theorem dL_follow_0 : decode cL_follow 0 = .ok (.aload_n 1, 1) := by decide +kernel
theorem dL_follow_1 : decode cL_follow 1 = .ok (.iconst 0, 1) := by decide +kernel
theorem dL_follow_2 : decode cL_follow 2 = .ok (.aload_n 0, 1) := by decide +kernel
theorem dL_follow_3 : decode cL_follow 3 = .ok (.invokevirtual 64, 3) := by decide +kernel
theorem dL_follow_6 : decode cL_follow 6 = .ok (.i2l, 1) := by decide +kernel
theorem dL_follow_7 : decode cL_follow 7 = .ok (.lastore, 1) := by decide +kernel
theorem dL_follow_8 : decode cL_follow 8 = .ok (.goto 9, 3) := by decide +kernel
theorem dL_follow_11 : decode cL_follow 11 = .ok (.astore_n 2, 1) := by decide +kernel
theorem dL_follow_12 : decode cL_follow 12 = .ok (.iconst 1, 1) := by decide +kernel
theorem dL_follow_13 : decode cL_follow 13 = .ok (.ireturn, 1) := by decide +kernel
theorem dL_follow_14 : decode cL_follow 14 = .ok (.astore_n 2, 1) := by decide +kernel
theorem dL_follow_15 : decode cL_follow 15 = .ok (.iconst 2, 1) := by decide +kernel
theorem dL_follow_16 : decode cL_follow 16 = .ok (.ireturn, 1) := by decide +kernel
theorem dL_follow_17 : decode cL_follow 17 = .ok (.iconst 0, 1) := by decide +kernel
theorem dL_follow_18 : decode cL_follow 18 = .ok (.ireturn, 1) := by decide +kernel
theorem dL_keep_0 : decode cL_keep 0 = .ok (.aload_n 0, 1) := by decide +kernel
theorem dL_keep_1 : decode cL_keep 1 = .ok (.iload_n 1, 1) := by decide +kernel
theorem dL_keep_2 : decode cL_keep 2 = .ok (.invokevirtual 68, 3) := by decide +kernel
theorem dL_keep_5 : decode cL_keep 5 = .ok (.goto 6, 3) := by decide +kernel
theorem dL_keep_8 : decode cL_keep 8 = .ok (.astore_n 2, 1) := by decide +kernel
theorem dL_keep_9 : decode cL_keep 9 = .ok (.iconst 1, 1) := by decide +kernel
theorem dL_keep_10 : decode cL_keep 10 = .ok (.ireturn, 1) := by decide +kernel
theorem dL_keep_11 : decode cL_keep 11 = .ok (.iconst 0, 1) := by decide +kernel
theorem dL_keep_12 : decode cL_keep 12 = .ok (.ireturn, 1) := by decide +kernel
theorem dL_goBack_0 : decode cL_goBack 0 = .ok (.aload_n 0, 1) := by decide +kernel
theorem dL_goBack_1 : decode cL_goBack 1 = .ok (.iload_n 1, 1) := by decide +kernel
theorem dL_goBack_2 : decode cL_goBack 2 = .ok (.invokevirtual 71, 3) := by decide +kernel
theorem dL_goBack_5 : decode cL_goBack 5 = .ok (.goto 9, 3) := by decide +kernel
theorem dL_goBack_8 : decode cL_goBack 8 = .ok (.astore_n 2, 1) := by decide +kernel
theorem dL_goBack_9 : decode cL_goBack 9 = .ok (.iconst 1, 1) := by decide +kernel
theorem dL_goBack_10 : decode cL_goBack 10 = .ok (.ireturn, 1) := by decide +kernel
theorem dL_goBack_11 : decode cL_goBack 11 = .ok (.astore_n 2, 1) := by decide +kernel
theorem dL_goBack_12 : decode cL_goBack 12 = .ok (.iconst 2, 1) := by decide +kernel
theorem dL_goBack_13 : decode cL_goBack 13 = .ok (.ireturn, 1) := by decide +kernel
theorem dL_goBack_14 : decode cL_goBack 14 = .ok (.iconst 0, 1) := by decide +kernel
theorem dL_goBack_15 : decode cL_goBack 15 = .ok (.ireturn, 1) := by decide +kernel
theorem dL_undo_0 : decode cL_undo 0 = .ok (.aload_n 0, 1) := by decide +kernel
theorem dL_undo_1 : decode cL_undo 1 = .ok (.invokevirtual 74, 3) := by decide +kernel
theorem dL_undo_4 : decode cL_undo 4 = .ok (.goto 6, 3) := by decide +kernel
theorem dL_undo_7 : decode cL_undo 7 = .ok (.astore_n 1, 1) := by decide +kernel
theorem dL_undo_8 : decode cL_undo 8 = .ok (.iconst 1, 1) := by decide +kernel
theorem dL_undo_9 : decode cL_undo 9 = .ok (.ireturn, 1) := by decide +kernel
theorem dL_undo_10 : decode cL_undo 10 = .ok (.iconst 0, 1) := by decide +kernel
theorem dL_undo_11 : decode cL_undo 11 = .ok (.ireturn, 1) := by decide +kernel
theorem dL_priceOf_0 : decode cL_priceOf 0 = .ok (.aload_n 2, 1) := by decide +kernel
theorem dL_priceOf_1 : decode cL_priceOf 1 = .ok (.iconst 0, 1) := by decide +kernel
theorem dL_priceOf_2 : decode cL_priceOf 2 = .ok (.aload_n 0, 1) := by decide +kernel
theorem dL_priceOf_3 : decode cL_priceOf 3 = .ok (.iload_n 1, 1) := by decide +kernel
theorem dL_priceOf_4 : decode cL_priceOf 4 = .ok (.invokevirtual 77, 3) := by decide +kernel
theorem dL_priceOf_7 : decode cL_priceOf 7 = .ok (.i2l, 1) := by decide +kernel
theorem dL_priceOf_8 : decode cL_priceOf 8 = .ok (.lastore, 1) := by decide +kernel
theorem dL_priceOf_9 : decode cL_priceOf 9 = .ok (.goto 6, 3) := by decide +kernel
theorem dL_priceOf_12 : decode cL_priceOf 12 = .ok (.astore_n 3, 1) := by decide +kernel
theorem dL_priceOf_13 : decode cL_priceOf 13 = .ok (.iconst 1, 1) := by decide +kernel
theorem dL_priceOf_14 : decode cL_priceOf 14 = .ok (.ireturn, 1) := by decide +kernel
theorem dL_priceOf_15 : decode cL_priceOf 15 = .ok (.iconst 0, 1) := by decide +kernel
theorem dL_priceOf_16 : decode cL_priceOf 16 = .ok (.ireturn, 1) := by decide +kernel
theorem dL_cutOf_0 : decode cL_cutOf 0 = .ok (.aload_n 2, 1) := by decide +kernel
theorem dL_cutOf_1 : decode cL_cutOf 1 = .ok (.iconst 0, 1) := by decide +kernel
theorem dL_cutOf_2 : decode cL_cutOf 2 = .ok (.aload_n 0, 1) := by decide +kernel
theorem dL_cutOf_3 : decode cL_cutOf 3 = .ok (.iload_n 1, 1) := by decide +kernel
theorem dL_cutOf_4 : decode cL_cutOf 4 = .ok (.invokevirtual 80, 3) := by decide +kernel
theorem dL_cutOf_7 : decode cL_cutOf 7 = .ok (.i2l, 1) := by decide +kernel
theorem dL_cutOf_8 : decode cL_cutOf 8 = .ok (.lastore, 1) := by decide +kernel
theorem dL_cutOf_9 : decode cL_cutOf 9 = .ok (.goto 6, 3) := by decide +kernel
theorem dL_cutOf_12 : decode cL_cutOf 12 = .ok (.astore_n 3, 1) := by decide +kernel
theorem dL_cutOf_13 : decode cL_cutOf 13 = .ok (.iconst 1, 1) := by decide +kernel
theorem dL_cutOf_14 : decode cL_cutOf 14 = .ok (.ireturn, 1) := by decide +kernel
theorem dL_cutOf_15 : decode cL_cutOf 15 = .ok (.iconst 0, 1) := by decide +kernel
theorem dL_cutOf_16 : decode cL_cutOf 16 = .ok (.ireturn, 1) := by decide +kernel
theorem dL_pledgedOf_0 : decode cL_pledgedOf 0 = .ok (.aload_n 2, 1) := by decide +kernel
theorem dL_pledgedOf_1 : decode cL_pledgedOf 1 = .ok (.iconst 0, 1) := by decide +kernel
theorem dL_pledgedOf_2 : decode cL_pledgedOf 2 = .ok (.aload_n 0, 1) := by decide +kernel
theorem dL_pledgedOf_3 : decode cL_pledgedOf 3 = .ok (.iload_n 1, 1) := by decide +kernel
theorem dL_pledgedOf_4 : decode cL_pledgedOf 4 = .ok (.invokevirtual 83, 3) := by decide +kernel
theorem dL_pledgedOf_7 : decode cL_pledgedOf 7 = .ok (.i2l, 1) := by decide +kernel
theorem dL_pledgedOf_8 : decode cL_pledgedOf 8 = .ok (.lastore, 1) := by decide +kernel
theorem dL_pledgedOf_9 : decode cL_pledgedOf 9 = .ok (.goto 6, 3) := by decide +kernel
theorem dL_pledgedOf_12 : decode cL_pledgedOf 12 = .ok (.astore_n 3, 1) := by decide +kernel
theorem dL_pledgedOf_13 : decode cL_pledgedOf 13 = .ok (.iconst 1, 1) := by decide +kernel
theorem dL_pledgedOf_14 : decode cL_pledgedOf 14 = .ok (.ireturn, 1) := by decide +kernel
theorem dL_pledgedOf_15 : decode cL_pledgedOf 15 = .ok (.iconst 0, 1) := by decide +kernel
theorem dL_pledgedOf_16 : decode cL_pledgedOf 16 = .ok (.ireturn, 1) := by decide +kernel
theorem dL_soldOf_0 : decode cL_soldOf 0 = .ok (.aload_n 2, 1) := by decide +kernel
theorem dL_soldOf_1 : decode cL_soldOf 1 = .ok (.iconst 0, 1) := by decide +kernel
theorem dL_soldOf_2 : decode cL_soldOf 2 = .ok (.aload_n 0, 1) := by decide +kernel
theorem dL_soldOf_3 : decode cL_soldOf 3 = .ok (.iload_n 1, 1) := by decide +kernel
theorem dL_soldOf_4 : decode cL_soldOf 4 = .ok (.invokevirtual 86, 3) := by decide +kernel
theorem dL_soldOf_7 : decode cL_soldOf 7 = .ok (.i2l, 1) := by decide +kernel
theorem dL_soldOf_8 : decode cL_soldOf 8 = .ok (.lastore, 1) := by decide +kernel
theorem dL_soldOf_9 : decode cL_soldOf 9 = .ok (.goto 6, 3) := by decide +kernel
theorem dL_soldOf_12 : decode cL_soldOf 12 = .ok (.astore_n 3, 1) := by decide +kernel
theorem dL_soldOf_13 : decode cL_soldOf 13 = .ok (.iconst 1, 1) := by decide +kernel
theorem dL_soldOf_14 : decode cL_soldOf 14 = .ok (.ireturn, 1) := by decide +kernel
theorem dL_soldOf_15 : decode cL_soldOf 15 = .ok (.iconst 0, 1) := by decide +kernel
theorem dL_soldOf_16 : decode cL_soldOf 16 = .ok (.ireturn, 1) := by decide +kernel
theorem dL_piecesOf_0 : decode cL_piecesOf 0 = .ok (.aload_n 3, 1) := by decide +kernel
theorem dL_piecesOf_1 : decode cL_piecesOf 1 = .ok (.iconst 0, 1) := by decide +kernel
theorem dL_piecesOf_2 : decode cL_piecesOf 2 = .ok (.aload_n 0, 1) := by decide +kernel
theorem dL_piecesOf_3 : decode cL_piecesOf 3 = .ok (.iload_n 1, 1) := by decide +kernel
theorem dL_piecesOf_4 : decode cL_piecesOf 4 = .ok (.iload_n 2, 1) := by decide +kernel
theorem dL_piecesOf_5 : decode cL_piecesOf 5 = .ok (.invokevirtual 89, 3) := by decide +kernel
theorem dL_piecesOf_8 : decode cL_piecesOf 8 = .ok (.i2l, 1) := by decide +kernel
theorem dL_piecesOf_9 : decode cL_piecesOf 9 = .ok (.lastore, 1) := by decide +kernel
theorem dL_piecesOf_10 : decode cL_piecesOf 10 = .ok (.goto 7, 3) := by decide +kernel
theorem dL_piecesOf_13 : decode cL_piecesOf 13 = .ok (.astore 4, 2) := by decide +kernel
theorem dL_piecesOf_15 : decode cL_piecesOf 15 = .ok (.iconst 1, 1) := by decide +kernel
theorem dL_piecesOf_16 : decode cL_piecesOf 16 = .ok (.ireturn, 1) := by decide +kernel
theorem dL_piecesOf_17 : decode cL_piecesOf 17 = .ok (.iconst 0, 1) := by decide +kernel
theorem dL_piecesOf_18 : decode cL_piecesOf 18 = .ok (.ireturn, 1) := by decide +kernel
theorem dL_coinsOf_0 : decode cL_coinsOf 0 = .ok (.aload_n 2, 1) := by decide +kernel
theorem dL_coinsOf_1 : decode cL_coinsOf 1 = .ok (.iconst 0, 1) := by decide +kernel
theorem dL_coinsOf_2 : decode cL_coinsOf 2 = .ok (.aload_n 0, 1) := by decide +kernel
theorem dL_coinsOf_3 : decode cL_coinsOf 3 = .ok (.iload_n 1, 1) := by decide +kernel
theorem dL_coinsOf_4 : decode cL_coinsOf 4 = .ok (.invokevirtual 92, 3) := by decide +kernel
theorem dL_coinsOf_7 : decode cL_coinsOf 7 = .ok (.i2l, 1) := by decide +kernel
theorem dL_coinsOf_8 : decode cL_coinsOf 8 = .ok (.lastore, 1) := by decide +kernel
theorem dL_coinsOf_9 : decode cL_coinsOf 9 = .ok (.goto 6, 3) := by decide +kernel
theorem dL_coinsOf_12 : decode cL_coinsOf 12 = .ok (.astore_n 3, 1) := by decide +kernel
theorem dL_coinsOf_13 : decode cL_coinsOf 13 = .ok (.iconst 1, 1) := by decide +kernel
theorem dL_coinsOf_14 : decode cL_coinsOf 14 = .ok (.ireturn, 1) := by decide +kernel
theorem dL_coinsOf_15 : decode cL_coinsOf 15 = .ok (.iconst 0, 1) := by decide +kernel
theorem dL_coinsOf_16 : decode cL_coinsOf 16 = .ok (.ireturn, 1) := by decide +kernel
theorem dL_debtOf_0 : decode cL_debtOf 0 = .ok (.aload_n 2, 1) := by decide +kernel
theorem dL_debtOf_1 : decode cL_debtOf 1 = .ok (.iconst 0, 1) := by decide +kernel
theorem dL_debtOf_2 : decode cL_debtOf 2 = .ok (.aload_n 0, 1) := by decide +kernel
theorem dL_debtOf_3 : decode cL_debtOf 3 = .ok (.iload_n 1, 1) := by decide +kernel
theorem dL_debtOf_4 : decode cL_debtOf 4 = .ok (.invokevirtual 95, 3) := by decide +kernel
theorem dL_debtOf_7 : decode cL_debtOf 7 = .ok (.i2l, 1) := by decide +kernel
theorem dL_debtOf_8 : decode cL_debtOf 8 = .ok (.lastore, 1) := by decide +kernel
theorem dL_debtOf_9 : decode cL_debtOf 9 = .ok (.goto 6, 3) := by decide +kernel
theorem dL_debtOf_12 : decode cL_debtOf 12 = .ok (.astore_n 3, 1) := by decide +kernel
theorem dL_debtOf_13 : decode cL_debtOf 13 = .ok (.iconst 1, 1) := by decide +kernel
theorem dL_debtOf_14 : decode cL_debtOf 14 = .ok (.ireturn, 1) := by decide +kernel
theorem dL_debtOf_15 : decode cL_debtOf 15 = .ok (.iconst 0, 1) := by decide +kernel
theorem dL_debtOf_16 : decode cL_debtOf 16 = .ok (.ireturn, 1) := by decide +kernel
theorem dL_worthOf_0 : decode cL_worthOf 0 = .ok (.aload_n 2, 1) := by decide +kernel
theorem dL_worthOf_1 : decode cL_worthOf 1 = .ok (.iconst 0, 1) := by decide +kernel
theorem dL_worthOf_2 : decode cL_worthOf 2 = .ok (.aload_n 0, 1) := by decide +kernel
theorem dL_worthOf_3 : decode cL_worthOf 3 = .ok (.iload_n 1, 1) := by decide +kernel
theorem dL_worthOf_4 : decode cL_worthOf 4 = .ok (.invokevirtual 98, 3) := by decide +kernel
theorem dL_worthOf_7 : decode cL_worthOf 7 = .ok (.i2l, 1) := by decide +kernel
theorem dL_worthOf_8 : decode cL_worthOf 8 = .ok (.lastore, 1) := by decide +kernel
theorem dL_worthOf_9 : decode cL_worthOf 9 = .ok (.goto 6, 3) := by decide +kernel
theorem dL_worthOf_12 : decode cL_worthOf 12 = .ok (.astore_n 3, 1) := by decide +kernel
theorem dL_worthOf_13 : decode cL_worthOf 13 = .ok (.iconst 1, 1) := by decide +kernel
theorem dL_worthOf_14 : decode cL_worthOf 14 = .ok (.ireturn, 1) := by decide +kernel
theorem dL_worthOf_15 : decode cL_worthOf 15 = .ok (.iconst 0, 1) := by decide +kernel
theorem dL_worthOf_16 : decode cL_worthOf 16 = .ok (.ireturn, 1) := by decide +kernel
theorem dL_coverOf_0 : decode cL_coverOf 0 = .ok (.aload_n 2, 1) := by decide +kernel
theorem dL_coverOf_1 : decode cL_coverOf 1 = .ok (.iconst 0, 1) := by decide +kernel
theorem dL_coverOf_2 : decode cL_coverOf 2 = .ok (.aload_n 0, 1) := by decide +kernel
theorem dL_coverOf_3 : decode cL_coverOf 3 = .ok (.iload_n 1, 1) := by decide +kernel
theorem dL_coverOf_4 : decode cL_coverOf 4 = .ok (.invokevirtual 101, 3) := by decide +kernel
theorem dL_coverOf_7 : decode cL_coverOf 7 = .ok (.i2l, 1) := by decide +kernel
theorem dL_coverOf_8 : decode cL_coverOf 8 = .ok (.lastore, 1) := by decide +kernel
theorem dL_coverOf_9 : decode cL_coverOf 9 = .ok (.goto 6, 3) := by decide +kernel
theorem dL_coverOf_12 : decode cL_coverOf 12 = .ok (.astore_n 3, 1) := by decide +kernel
theorem dL_coverOf_13 : decode cL_coverOf 13 = .ok (.iconst 1, 1) := by decide +kernel
theorem dL_coverOf_14 : decode cL_coverOf 14 = .ok (.ireturn, 1) := by decide +kernel
theorem dL_coverOf_15 : decode cL_coverOf 15 = .ok (.iconst 0, 1) := by decide +kernel
theorem dL_coverOf_16 : decode cL_coverOf 16 = .ok (.ireturn, 1) := by decide +kernel
theorem dL_roomOf_0 : decode cL_roomOf 0 = .ok (.aload_n 2, 1) := by decide +kernel
theorem dL_roomOf_1 : decode cL_roomOf 1 = .ok (.iconst 0, 1) := by decide +kernel
theorem dL_roomOf_2 : decode cL_roomOf 2 = .ok (.aload_n 0, 1) := by decide +kernel
theorem dL_roomOf_3 : decode cL_roomOf 3 = .ok (.iload_n 1, 1) := by decide +kernel
theorem dL_roomOf_4 : decode cL_roomOf 4 = .ok (.invokevirtual 104, 3) := by decide +kernel
theorem dL_roomOf_7 : decode cL_roomOf 7 = .ok (.i2l, 1) := by decide +kernel
theorem dL_roomOf_8 : decode cL_roomOf 8 = .ok (.lastore, 1) := by decide +kernel
theorem dL_roomOf_9 : decode cL_roomOf 9 = .ok (.goto 6, 3) := by decide +kernel
theorem dL_roomOf_12 : decode cL_roomOf 12 = .ok (.astore_n 3, 1) := by decide +kernel
theorem dL_roomOf_13 : decode cL_roomOf 13 = .ok (.iconst 1, 1) := by decide +kernel
theorem dL_roomOf_14 : decode cL_roomOf 14 = .ok (.ireturn, 1) := by decide +kernel
theorem dL_roomOf_15 : decode cL_roomOf 15 = .ok (.iconst 0, 1) := by decide +kernel
theorem dL_roomOf_16 : decode cL_roomOf 16 = .ok (.ireturn, 1) := by decide +kernel
theorem dL_isCalled_0 : decode cL_isCalled 0 = .ok (.aload_n 2, 1) := by decide +kernel
theorem dL_isCalled_1 : decode cL_isCalled 1 = .ok (.iconst 0, 1) := by decide +kernel
theorem dL_isCalled_2 : decode cL_isCalled 2 = .ok (.aload_n 0, 1) := by decide +kernel
theorem dL_isCalled_3 : decode cL_isCalled 3 = .ok (.iload_n 1, 1) := by decide +kernel
theorem dL_isCalled_4 : decode cL_isCalled 4 = .ok (.invokevirtual 107, 3) := by decide +kernel
theorem dL_isCalled_7 : decode cL_isCalled 7 = .ok (.ifCond .eq 7, 3) := by decide +kernel
theorem dL_isCalled_10 : decode cL_isCalled 10 = .ok (.lconst 1, 1) := by decide +kernel
theorem dL_isCalled_11 : decode cL_isCalled 11 = .ok (.goto 4, 3) := by decide +kernel
theorem dL_isCalled_14 : decode cL_isCalled 14 = .ok (.lconst 0, 1) := by decide +kernel
theorem dL_isCalled_15 : decode cL_isCalled 15 = .ok (.lastore, 1) := by decide +kernel
theorem dL_isCalled_16 : decode cL_isCalled 16 = .ok (.goto 6, 3) := by decide +kernel
theorem dL_isCalled_19 : decode cL_isCalled 19 = .ok (.astore_n 3, 1) := by decide +kernel
theorem dL_isCalled_20 : decode cL_isCalled 20 = .ok (.iconst 1, 1) := by decide +kernel
theorem dL_isCalled_21 : decode cL_isCalled 21 = .ok (.ireturn, 1) := by decide +kernel
theorem dL_isCalled_22 : decode cL_isCalled 22 = .ok (.iconst 0, 1) := by decide +kernel
theorem dL_isCalled_23 : decode cL_isCalled 23 = .ok (.ireturn, 1) := by decide +kernel
theorem dL_hoursLeft_0 : decode cL_hoursLeft 0 = .ok (.aload_n 2, 1) := by decide +kernel
theorem dL_hoursLeft_1 : decode cL_hoursLeft 1 = .ok (.iconst 0, 1) := by decide +kernel
theorem dL_hoursLeft_2 : decode cL_hoursLeft 2 = .ok (.aload_n 0, 1) := by decide +kernel
theorem dL_hoursLeft_3 : decode cL_hoursLeft 3 = .ok (.iload_n 1, 1) := by decide +kernel
theorem dL_hoursLeft_4 : decode cL_hoursLeft 4 = .ok (.invokevirtual 111, 3) := by decide +kernel
theorem dL_hoursLeft_7 : decode cL_hoursLeft 7 = .ok (.i2l, 1) := by decide +kernel
theorem dL_hoursLeft_8 : decode cL_hoursLeft 8 = .ok (.lastore, 1) := by decide +kernel
theorem dL_hoursLeft_9 : decode cL_hoursLeft 9 = .ok (.goto 9, 3) := by decide +kernel
theorem dL_hoursLeft_12 : decode cL_hoursLeft 12 = .ok (.astore_n 3, 1) := by decide +kernel
theorem dL_hoursLeft_13 : decode cL_hoursLeft 13 = .ok (.iconst 1, 1) := by decide +kernel
theorem dL_hoursLeft_14 : decode cL_hoursLeft 14 = .ok (.ireturn, 1) := by decide +kernel
theorem dL_hoursLeft_15 : decode cL_hoursLeft 15 = .ok (.astore_n 3, 1) := by decide +kernel
theorem dL_hoursLeft_16 : decode cL_hoursLeft 16 = .ok (.iconst 2, 1) := by decide +kernel
theorem dL_hoursLeft_17 : decode cL_hoursLeft 17 = .ok (.ireturn, 1) := by decide +kernel
theorem dL_hoursLeft_18 : decode cL_hoursLeft 18 = .ok (.iconst 0, 1) := by decide +kernel
theorem dL_hoursLeft_19 : decode cL_hoursLeft 19 = .ok (.ireturn, 1) := by decide +kernel
theorem dL_isBarred_0 : decode cL_isBarred 0 = .ok (.aload_n 2, 1) := by decide +kernel
theorem dL_isBarred_1 : decode cL_isBarred 1 = .ok (.iconst 0, 1) := by decide +kernel
theorem dL_isBarred_2 : decode cL_isBarred 2 = .ok (.aload_n 0, 1) := by decide +kernel
theorem dL_isBarred_3 : decode cL_isBarred 3 = .ok (.iload_n 1, 1) := by decide +kernel
theorem dL_isBarred_4 : decode cL_isBarred 4 = .ok (.invokevirtual 114, 3) := by decide +kernel
theorem dL_isBarred_7 : decode cL_isBarred 7 = .ok (.ifCond .eq 7, 3) := by decide +kernel
theorem dL_isBarred_10 : decode cL_isBarred 10 = .ok (.lconst 1, 1) := by decide +kernel
theorem dL_isBarred_11 : decode cL_isBarred 11 = .ok (.goto 4, 3) := by decide +kernel
theorem dL_isBarred_14 : decode cL_isBarred 14 = .ok (.lconst 0, 1) := by decide +kernel
theorem dL_isBarred_15 : decode cL_isBarred 15 = .ok (.lastore, 1) := by decide +kernel
theorem dL_isBarred_16 : decode cL_isBarred 16 = .ok (.goto 6, 3) := by decide +kernel
theorem dL_isBarred_19 : decode cL_isBarred 19 = .ok (.astore_n 3, 1) := by decide +kernel
theorem dL_isBarred_20 : decode cL_isBarred 20 = .ok (.iconst 1, 1) := by decide +kernel
theorem dL_isBarred_21 : decode cL_isBarred 21 = .ok (.ireturn, 1) := by decide +kernel
theorem dL_isBarred_22 : decode cL_isBarred 22 = .ok (.iconst 0, 1) := by decide +kernel
theorem dL_isBarred_23 : decode cL_isBarred 23 = .ok (.ireturn, 1) := by decide +kernel
theorem dL_rankOf_0 : decode cL_rankOf 0 = .ok (.aload_n 2, 1) := by decide +kernel
theorem dL_rankOf_1 : decode cL_rankOf 1 = .ok (.iconst 0, 1) := by decide +kernel
theorem dL_rankOf_2 : decode cL_rankOf 2 = .ok (.aload_n 0, 1) := by decide +kernel
theorem dL_rankOf_3 : decode cL_rankOf 3 = .ok (.iload_n 1, 1) := by decide +kernel
theorem dL_rankOf_4 : decode cL_rankOf 4 = .ok (.invokevirtual 117, 3) := by decide +kernel
theorem dL_rankOf_7 : decode cL_rankOf 7 = .ok (.i2l, 1) := by decide +kernel
theorem dL_rankOf_8 : decode cL_rankOf 8 = .ok (.lastore, 1) := by decide +kernel
theorem dL_rankOf_9 : decode cL_rankOf 9 = .ok (.goto 6, 3) := by decide +kernel
theorem dL_rankOf_12 : decode cL_rankOf 12 = .ok (.astore_n 3, 1) := by decide +kernel
theorem dL_rankOf_13 : decode cL_rankOf 13 = .ok (.iconst 1, 1) := by decide +kernel
theorem dL_rankOf_14 : decode cL_rankOf 14 = .ok (.ireturn, 1) := by decide +kernel
theorem dL_rankOf_15 : decode cL_rankOf 15 = .ok (.iconst 0, 1) := by decide +kernel
theorem dL_rankOf_16 : decode cL_rankOf 16 = .ok (.ireturn, 1) := by decide +kernel
theorem dL_riskyBySorting_0 : decode cL_riskyBySorting 0 = .ok (.aload_n 2, 1) := by decide +kernel
theorem dL_riskyBySorting_1 : decode cL_riskyBySorting 1 = .ok (.iconst 0, 1) := by decide +kernel
theorem dL_riskyBySorting_2 : decode cL_riskyBySorting 2 = .ok (.aload_n 0, 1) := by decide +kernel
theorem dL_riskyBySorting_3 : decode cL_riskyBySorting 3 = .ok (.iload_n 1, 1) := by decide +kernel
theorem dL_riskyBySorting_4 : decode cL_riskyBySorting 4 = .ok (.invokevirtual 120, 3) := by decide +kernel
theorem dL_riskyBySorting_7 : decode cL_riskyBySorting 7 = .ok (.i2l, 1) := by decide +kernel
theorem dL_riskyBySorting_8 : decode cL_riskyBySorting 8 = .ok (.lastore, 1) := by decide +kernel
theorem dL_riskyBySorting_9 : decode cL_riskyBySorting 9 = .ok (.goto 6, 3) := by decide +kernel
theorem dL_riskyBySorting_12 : decode cL_riskyBySorting 12 = .ok (.astore_n 3, 1) := by decide +kernel
theorem dL_riskyBySorting_13 : decode cL_riskyBySorting 13 = .ok (.iconst 1, 1) := by decide +kernel
theorem dL_riskyBySorting_14 : decode cL_riskyBySorting 14 = .ok (.ireturn, 1) := by decide +kernel
theorem dL_riskyBySorting_15 : decode cL_riskyBySorting 15 = .ok (.iconst 0, 1) := by decide +kernel
theorem dL_riskyBySorting_16 : decode cL_riskyBySorting 16 = .ok (.ireturn, 1) := by decide +kernel
theorem dL_riskyByTaking_0 : decode cL_riskyByTaking 0 = .ok (.aload_n 2, 1) := by decide +kernel
theorem dL_riskyByTaking_1 : decode cL_riskyByTaking 1 = .ok (.iconst 0, 1) := by decide +kernel
theorem dL_riskyByTaking_2 : decode cL_riskyByTaking 2 = .ok (.aload_n 0, 1) := by decide +kernel
theorem dL_riskyByTaking_3 : decode cL_riskyByTaking 3 = .ok (.iload_n 1, 1) := by decide +kernel
theorem dL_riskyByTaking_4 : decode cL_riskyByTaking 4 = .ok (.invokevirtual 123, 3) := by decide +kernel
theorem dL_riskyByTaking_7 : decode cL_riskyByTaking 7 = .ok (.i2l, 1) := by decide +kernel
theorem dL_riskyByTaking_8 : decode cL_riskyByTaking 8 = .ok (.lastore, 1) := by decide +kernel
theorem dL_riskyByTaking_9 : decode cL_riskyByTaking 9 = .ok (.goto 6, 3) := by decide +kernel
theorem dL_riskyByTaking_12 : decode cL_riskyByTaking 12 = .ok (.astore_n 3, 1) := by decide +kernel
theorem dL_riskyByTaking_13 : decode cL_riskyByTaking 13 = .ok (.iconst 1, 1) := by decide +kernel
theorem dL_riskyByTaking_14 : decode cL_riskyByTaking 14 = .ok (.ireturn, 1) := by decide +kernel
theorem dL_riskyByTaking_15 : decode cL_riskyByTaking 15 = .ok (.iconst 0, 1) := by decide +kernel
theorem dL_riskyByTaking_16 : decode cL_riskyByTaking 16 = .ok (.ireturn, 1) := by decide +kernel
theorem dL_fallToCallByTrying_0 : decode cL_fallToCallByTrying 0 = .ok (.aload_n 2, 1) := by decide +kernel
theorem dL_fallToCallByTrying_1 : decode cL_fallToCallByTrying 1 = .ok (.iconst 0, 1) := by decide +kernel
theorem dL_fallToCallByTrying_2 : decode cL_fallToCallByTrying 2 = .ok (.aload_n 0, 1) := by decide +kernel
theorem dL_fallToCallByTrying_3 : decode cL_fallToCallByTrying 3 = .ok (.iload_n 1, 1) := by decide +kernel
theorem dL_fallToCallByTrying_4 : decode cL_fallToCallByTrying 4 = .ok (.invokevirtual 126, 3) := by decide +kernel
theorem dL_fallToCallByTrying_7 : decode cL_fallToCallByTrying 7 = .ok (.i2l, 1) := by decide +kernel
theorem dL_fallToCallByTrying_8 : decode cL_fallToCallByTrying 8 = .ok (.lastore, 1) := by decide +kernel
theorem dL_fallToCallByTrying_9 : decode cL_fallToCallByTrying 9 = .ok (.goto 9, 3) := by decide +kernel
theorem dL_fallToCallByTrying_12 : decode cL_fallToCallByTrying 12 = .ok (.astore_n 3, 1) := by decide +kernel
theorem dL_fallToCallByTrying_13 : decode cL_fallToCallByTrying 13 = .ok (.iconst 1, 1) := by decide +kernel
theorem dL_fallToCallByTrying_14 : decode cL_fallToCallByTrying 14 = .ok (.ireturn, 1) := by decide +kernel
theorem dL_fallToCallByTrying_15 : decode cL_fallToCallByTrying 15 = .ok (.astore_n 3, 1) := by decide +kernel
theorem dL_fallToCallByTrying_16 : decode cL_fallToCallByTrying 16 = .ok (.iconst 2, 1) := by decide +kernel
theorem dL_fallToCallByTrying_17 : decode cL_fallToCallByTrying 17 = .ok (.ireturn, 1) := by decide +kernel
theorem dL_fallToCallByTrying_18 : decode cL_fallToCallByTrying 18 = .ok (.iconst 0, 1) := by decide +kernel
theorem dL_fallToCallByTrying_19 : decode cL_fallToCallByTrying 19 = .ok (.ireturn, 1) := by decide +kernel
theorem dL_fallToCallByHalving_0 : decode cL_fallToCallByHalving 0 = .ok (.aload_n 2, 1) := by decide +kernel
theorem dL_fallToCallByHalving_1 : decode cL_fallToCallByHalving 1 = .ok (.iconst 0, 1) := by decide +kernel
theorem dL_fallToCallByHalving_2 : decode cL_fallToCallByHalving 2 = .ok (.aload_n 0, 1) := by decide +kernel
theorem dL_fallToCallByHalving_3 : decode cL_fallToCallByHalving 3 = .ok (.iload_n 1, 1) := by decide +kernel
theorem dL_fallToCallByHalving_4 : decode cL_fallToCallByHalving 4 = .ok (.invokevirtual 129, 3) := by decide +kernel
theorem dL_fallToCallByHalving_7 : decode cL_fallToCallByHalving 7 = .ok (.i2l, 1) := by decide +kernel
theorem dL_fallToCallByHalving_8 : decode cL_fallToCallByHalving 8 = .ok (.lastore, 1) := by decide +kernel
theorem dL_fallToCallByHalving_9 : decode cL_fallToCallByHalving 9 = .ok (.goto 9, 3) := by decide +kernel
theorem dL_fallToCallByHalving_12 : decode cL_fallToCallByHalving 12 = .ok (.astore_n 3, 1) := by decide +kernel
theorem dL_fallToCallByHalving_13 : decode cL_fallToCallByHalving 13 = .ok (.iconst 1, 1) := by decide +kernel
theorem dL_fallToCallByHalving_14 : decode cL_fallToCallByHalving 14 = .ok (.ireturn, 1) := by decide +kernel
theorem dL_fallToCallByHalving_15 : decode cL_fallToCallByHalving 15 = .ok (.astore_n 3, 1) := by decide +kernel
theorem dL_fallToCallByHalving_16 : decode cL_fallToCallByHalving 16 = .ok (.iconst 2, 1) := by decide +kernel
theorem dL_fallToCallByHalving_17 : decode cL_fallToCallByHalving 17 = .ok (.ireturn, 1) := by decide +kernel
theorem dL_fallToCallByHalving_18 : decode cL_fallToCallByHalving 18 = .ok (.iconst 0, 1) := by decide +kernel
theorem dL_fallToCallByHalving_19 : decode cL_fallToCallByHalving 19 = .ok (.ireturn, 1) := by decide +kernel
theorem dL_hoursToCall_0 : decode cL_hoursToCall 0 = .ok (.aload_n 2, 1) := by decide +kernel
theorem dL_hoursToCall_1 : decode cL_hoursToCall 1 = .ok (.iconst 0, 1) := by decide +kernel
theorem dL_hoursToCall_2 : decode cL_hoursToCall 2 = .ok (.aload_n 0, 1) := by decide +kernel
theorem dL_hoursToCall_3 : decode cL_hoursToCall 3 = .ok (.iload_n 1, 1) := by decide +kernel
theorem dL_hoursToCall_4 : decode cL_hoursToCall 4 = .ok (.invokevirtual 132, 3) := by decide +kernel
theorem dL_hoursToCall_7 : decode cL_hoursToCall 7 = .ok (.i2l, 1) := by decide +kernel
theorem dL_hoursToCall_8 : decode cL_hoursToCall 8 = .ok (.lastore, 1) := by decide +kernel
theorem dL_hoursToCall_9 : decode cL_hoursToCall 9 = .ok (.goto 9, 3) := by decide +kernel
theorem dL_hoursToCall_12 : decode cL_hoursToCall 12 = .ok (.astore_n 3, 1) := by decide +kernel
theorem dL_hoursToCall_13 : decode cL_hoursToCall 13 = .ok (.iconst 1, 1) := by decide +kernel
theorem dL_hoursToCall_14 : decode cL_hoursToCall 14 = .ok (.ireturn, 1) := by decide +kernel
theorem dL_hoursToCall_15 : decode cL_hoursToCall 15 = .ok (.astore_n 3, 1) := by decide +kernel
theorem dL_hoursToCall_16 : decode cL_hoursToCall 16 = .ok (.iconst 2, 1) := by decide +kernel
theorem dL_hoursToCall_17 : decode cL_hoursToCall 17 = .ok (.ireturn, 1) := by decide +kernel
theorem dL_hoursToCall_18 : decode cL_hoursToCall 18 = .ok (.iconst 0, 1) := by decide +kernel
theorem dL_hoursToCall_19 : decode cL_hoursToCall 19 = .ok (.ireturn, 1) := by decide +kernel
theorem dL_wouldSell_0 : decode cL_wouldSell 0 = .ok (.aload_n 2, 1) := by decide +kernel
theorem dL_wouldSell_1 : decode cL_wouldSell 1 = .ok (.iconst 0, 1) := by decide +kernel
theorem dL_wouldSell_2 : decode cL_wouldSell 2 = .ok (.aload_n 0, 1) := by decide +kernel
theorem dL_wouldSell_3 : decode cL_wouldSell 3 = .ok (.iload_n 1, 1) := by decide +kernel
theorem dL_wouldSell_4 : decode cL_wouldSell 4 = .ok (.invokevirtual 135, 3) := by decide +kernel
theorem dL_wouldSell_7 : decode cL_wouldSell 7 = .ok (.i2l, 1) := by decide +kernel
theorem dL_wouldSell_8 : decode cL_wouldSell 8 = .ok (.lastore, 1) := by decide +kernel
theorem dL_wouldSell_9 : decode cL_wouldSell 9 = .ok (.goto 6, 3) := by decide +kernel
theorem dL_wouldSell_12 : decode cL_wouldSell 12 = .ok (.astore_n 3, 1) := by decide +kernel
theorem dL_wouldSell_13 : decode cL_wouldSell 13 = .ok (.iconst 1, 1) := by decide +kernel
theorem dL_wouldSell_14 : decode cL_wouldSell 14 = .ok (.ireturn, 1) := by decide +kernel
theorem dL_wouldSell_15 : decode cL_wouldSell 15 = .ok (.iconst 0, 1) := by decide +kernel
theorem dL_wouldSell_16 : decode cL_wouldSell 16 = .ok (.ireturn, 1) := by decide +kernel
theorem dL_wouldLose_0 : decode cL_wouldLose 0 = .ok (.aload_n 2, 1) := by decide +kernel
theorem dL_wouldLose_1 : decode cL_wouldLose 1 = .ok (.iconst 0, 1) := by decide +kernel
theorem dL_wouldLose_2 : decode cL_wouldLose 2 = .ok (.aload_n 0, 1) := by decide +kernel
theorem dL_wouldLose_3 : decode cL_wouldLose 3 = .ok (.iload_n 1, 1) := by decide +kernel
theorem dL_wouldLose_4 : decode cL_wouldLose 4 = .ok (.invokevirtual 138, 3) := by decide +kernel
theorem dL_wouldLose_7 : decode cL_wouldLose 7 = .ok (.i2l, 1) := by decide +kernel
theorem dL_wouldLose_8 : decode cL_wouldLose 8 = .ok (.lastore, 1) := by decide +kernel
theorem dL_wouldLose_9 : decode cL_wouldLose 9 = .ok (.goto 6, 3) := by decide +kernel
theorem dL_wouldLose_12 : decode cL_wouldLose 12 = .ok (.astore_n 3, 1) := by decide +kernel
theorem dL_wouldLose_13 : decode cL_wouldLose 13 = .ok (.iconst 1, 1) := by decide +kernel
theorem dL_wouldLose_14 : decode cL_wouldLose 14 = .ok (.ireturn, 1) := by decide +kernel
theorem dL_wouldLose_15 : decode cL_wouldLose 15 = .ok (.iconst 0, 1) := by decide +kernel
theorem dL_wouldLose_16 : decode cL_wouldLose 16 = .ok (.ireturn, 1) := by decide +kernel
theorem dL_calledIfFallen_0 : decode cL_calledIfFallen 0 = .ok (.aload_n 2, 1) := by decide +kernel
theorem dL_calledIfFallen_1 : decode cL_calledIfFallen 1 = .ok (.iconst 0, 1) := by decide +kernel
theorem dL_calledIfFallen_2 : decode cL_calledIfFallen 2 = .ok (.aload_n 0, 1) := by decide +kernel
theorem dL_calledIfFallen_3 : decode cL_calledIfFallen 3 = .ok (.iload_n 1, 1) := by decide +kernel
theorem dL_calledIfFallen_4 : decode cL_calledIfFallen 4 = .ok (.invokevirtual 141, 3) := by decide +kernel
theorem dL_calledIfFallen_7 : decode cL_calledIfFallen 7 = .ok (.i2l, 1) := by decide +kernel
theorem dL_calledIfFallen_8 : decode cL_calledIfFallen 8 = .ok (.lastore, 1) := by decide +kernel
theorem dL_calledIfFallen_9 : decode cL_calledIfFallen 9 = .ok (.goto 6, 3) := by decide +kernel
theorem dL_calledIfFallen_12 : decode cL_calledIfFallen 12 = .ok (.astore_n 3, 1) := by decide +kernel
theorem dL_calledIfFallen_13 : decode cL_calledIfFallen 13 = .ok (.iconst 1, 1) := by decide +kernel
theorem dL_calledIfFallen_14 : decode cL_calledIfFallen 14 = .ok (.ireturn, 1) := by decide +kernel
theorem dL_calledIfFallen_15 : decode cL_calledIfFallen 15 = .ok (.iconst 0, 1) := by decide +kernel
theorem dL_calledIfFallen_16 : decode cL_calledIfFallen 16 = .ok (.ireturn, 1) := by decide +kernel
