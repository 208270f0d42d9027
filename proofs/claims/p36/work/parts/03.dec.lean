theorem dX0_init_0 : decode cX0_init 0 = .ok (.aload_n 0, 1) := by decide +kernel
theorem dX0_init_1 : decode cX0_init 1 = .ok (.invokespecial 3, 3) := by decide +kernel
theorem dX0_init_4 : decode cX0_init 4 = .ok (.aload_n 0, 1) := by decide +kernel
theorem dX0_init_5 : decode cX0_init 5 = .ok (.new 9, 3) := by decide +kernel
theorem dX0_init_8 : decode cX0_init 8 = .ok (.dup, 1) := by decide +kernel
theorem dX0_init_9 : decode cX0_init 9 = .ok (.invokespecial 11, 3) := by decide +kernel
theorem dX0_init_12 : decode cX0_init 12 = .ok (.putfield 12, 3) := by decide +kernel
theorem dX0_init_15 : decode cX0_init 15 = .ok (.aload_n 0, 1) := by decide +kernel
theorem dX0_init_16 : decode cX0_init 16 = .ok (.new 18, 3) := by decide +kernel
theorem dX0_init_19 : decode cX0_init 19 = .ok (.dup, 1) := by decide +kernel
theorem dX0_init_20 : decode cX0_init 20 = .ok (.invokespecial 20, 3) := by decide +kernel
theorem dX0_init_23 : decode cX0_init 23 = .ok (.putfield 21, 3) := by decide +kernel
theorem dX0_init_26 : decode cX0_init 26 = .ok (.aload_n 0, 1) := by decide +kernel
theorem dX0_init_27 : decode cX0_init 27 = .ok (.new 25, 3) := by decide +kernel
theorem dX0_init_30 : decode cX0_init 30 = .ok (.dup, 1) := by decide +kernel
theorem dX0_init_31 : decode cX0_init 31 = .ok (.invokespecial 27, 3) := by decide +kernel
theorem dX0_init_34 : decode cX0_init 34 = .ok (.putfield 28, 3) := by decide +kernel
theorem dX0_init_37 : decode cX0_init 37 = .ok (.return_, 1) := by decide +kernel
theorem dX0_copyFrom_0 : decode cX0_copyFrom 0 = .ok (.aload_n 0, 1) := by decide +kernel
theorem dX0_copyFrom_1 : decode cX0_copyFrom 1 = .ok (.getfield 12, 3) := by decide +kernel
theorem dX0_copyFrom_4 : decode cX0_copyFrom 4 = .ok (.aload_n 1, 1) := by decide +kernel
theorem dX0_copyFrom_5 : decode cX0_copyFrom 5 = .ok (.getfield 12, 3) := by decide +kernel
theorem dX0_copyFrom_8 : decode cX0_copyFrom 8 = .ok (.invokevirtual 32, 3) := by decide +kernel
theorem dX0_copyFrom_11 : decode cX0_copyFrom 11 = .ok (.aload_n 0, 1) := by decide +kernel
theorem dX0_copyFrom_12 : decode cX0_copyFrom 12 = .ok (.getfield 21, 3) := by decide +kernel
theorem dX0_copyFrom_15 : decode cX0_copyFrom 15 = .ok (.aload_n 1, 1) := by decide +kernel
theorem dX0_copyFrom_16 : decode cX0_copyFrom 16 = .ok (.getfield 21, 3) := by decide +kernel
theorem dX0_copyFrom_19 : decode cX0_copyFrom 19 = .ok (.invokevirtual 36, 3) := by decide +kernel
theorem dX0_copyFrom_22 : decode cX0_copyFrom 22 = .ok (.aload_n 0, 1) := by decide +kernel
theorem dX0_copyFrom_23 : decode cX0_copyFrom 23 = .ok (.getfield 28, 3) := by decide +kernel
theorem dX0_copyFrom_26 : decode cX0_copyFrom 26 = .ok (.aload_n 1, 1) := by decide +kernel
theorem dX0_copyFrom_27 : decode cX0_copyFrom 27 = .ok (.getfield 28, 3) := by decide +kernel
theorem dX0_copyFrom_30 : decode cX0_copyFrom 30 = .ok (.invokevirtual 39, 3) := by decide +kernel
theorem dX0_copyFrom_33 : decode cX0_copyFrom 33 = .ok (.return_, 1) := by decide +kernel
theorem dX0_canLend_0 : decode cX0_canLend 0 = .ok (.aload_n 0, 1) := by decide +kernel
theorem dX0_canLend_1 : decode cX0_canLend 1 = .ok (.getfield 21, 3) := by decide +kernel
theorem dX0_canLend_4 : decode cX0_canLend 4 = .ok (.getfield 42, 3) := by decide +kernel
theorem dX0_canLend_7 : decode cX0_canLend 7 = .ok (.bipush 16, 2) := by decide +kernel
theorem dX0_canLend_9 : decode cX0_canLend 9 = .ok (.if_icmp .ge 21, 3) := by decide +kernel
theorem dX0_canLend_12 : decode cX0_canLend 12 = .ok (.aload_n 0, 1) := by decide +kernel
theorem dX0_canLend_13 : decode cX0_canLend 13 = .ok (.getfield 12, 3) := by decide +kernel
theorem dX0_canLend_16 : decode cX0_canLend 16 = .ok (.invokevirtual 46, 3) := by decide +kernel
theorem dX0_canLend_19 : decode cX0_canLend 19 = .ok (.iload_n 1, 1) := by decide +kernel
theorem dX0_canLend_20 : decode cX0_canLend 20 = .ok (.invokestatic 50, 3) := by decide +kernel
theorem dX0_canLend_23 : decode cX0_canLend 23 = .ok (.if_icmp .lt 7, 3) := by decide +kernel
theorem dX0_canLend_26 : decode cX0_canLend 26 = .ok (.iconst 1, 1) := by decide +kernel
theorem dX0_canLend_27 : decode cX0_canLend 27 = .ok (.goto 4, 3) := by decide +kernel
theorem dX0_canLend_30 : decode cX0_canLend 30 = .ok (.iconst 0, 1) := by decide +kernel
theorem dX0_canLend_31 : decode cX0_canLend 31 = .ok (.ireturn, 1) := by decide +kernel
theorem dX0_lendTo_0 : decode cX0_lendTo 0 = .ok (.iload_n 2, 1) := by decide +kernel
theorem dX0_lendTo_1 : decode cX0_lendTo 1 = .ok (.invokestatic 50, 3) := by decide +kernel
theorem dX0_lendTo_4 : decode cX0_lendTo 4 = .ok (.istore_n 3, 1) := by decide +kernel
theorem dX0_lendTo_5 : decode cX0_lendTo 5 = .ok (.aload_n 0, 1) := by decide +kernel
theorem dX0_lendTo_6 : decode cX0_lendTo 6 = .ok (.getfield 12, 3) := by decide +kernel
theorem dX0_lendTo_9 : decode cX0_lendTo 9 = .ok (.iload_n 3, 1) := by decide +kernel
theorem dX0_lendTo_10 : decode cX0_lendTo 10 = .ok (.invokevirtual 54, 3) := by decide +kernel
theorem dX0_lendTo_13 : decode cX0_lendTo 13 = .ok (.istore 4, 2) := by decide +kernel
theorem dX0_lendTo_15 : decode cX0_lendTo 15 = .ok (.aload_n 0, 1) := by decide +kernel
theorem dX0_lendTo_16 : decode cX0_lendTo 16 = .ok (.getfield 21, 3) := by decide +kernel
theorem dX0_lendTo_19 : decode cX0_lendTo 19 = .ok (.iload_n 1, 1) := by decide +kernel
theorem dX0_lendTo_20 : decode cX0_lendTo 20 = .ok (.iload_n 2, 1) := by decide +kernel
theorem dX0_lendTo_21 : decode cX0_lendTo 21 = .ok (.iload 4, 2) := by decide +kernel
theorem dX0_lendTo_23 : decode cX0_lendTo 23 = .ok (.iload_n 3, 1) := by decide +kernel
theorem dX0_lendTo_24 : decode cX0_lendTo 24 = .ok (.invokevirtual 57, 3) := by decide +kernel
theorem dX0_lendTo_27 : decode cX0_lendTo 27 = .ok (.ireturn, 1) := by decide +kernel
theorem dX0_lendOrQueue_0 : decode cX0_lendOrQueue 0 = .ok (.aload_n 0, 1) := by decide +kernel
theorem dX0_lendOrQueue_1 : decode cX0_lendOrQueue 1 = .ok (.iload_n 2, 1) := by decide +kernel
theorem dX0_lendOrQueue_2 : decode cX0_lendOrQueue 2 = .ok (.invokevirtual 61, 3) := by decide +kernel
theorem dX0_lendOrQueue_5 : decode cX0_lendOrQueue 5 = .ok (.ifCond .eq 17, 3) := by decide +kernel
theorem dX0_lendOrQueue_8 : decode cX0_lendOrQueue 8 = .ok (.aload_n 0, 1) := by decide +kernel
theorem dX0_lendOrQueue_9 : decode cX0_lendOrQueue 9 = .ok (.getfield 21, 3) := by decide +kernel
theorem dX0_lendOrQueue_12 : decode cX0_lendOrQueue 12 = .ok (.aload_n 0, 1) := by decide +kernel
theorem dX0_lendOrQueue_13 : decode cX0_lendOrQueue 13 = .ok (.iload_n 1, 1) := by decide +kernel
theorem dX0_lendOrQueue_14 : decode cX0_lendOrQueue 14 = .ok (.iload_n 2, 1) := by decide +kernel
theorem dX0_lendOrQueue_15 : decode cX0_lendOrQueue 15 = .ok (.invokevirtual 65, 3) := by decide +kernel
theorem dX0_lendOrQueue_18 : decode cX0_lendOrQueue 18 = .ok (.invokevirtual 69, 3) := by decide +kernel
theorem dX0_lendOrQueue_21 : decode cX0_lendOrQueue 21 = .ok (.ireturn, 1) := by decide +kernel
theorem dX0_lendOrQueue_22 : decode cX0_lendOrQueue 22 = .ok (.aload_n 0, 1) := by decide +kernel
theorem dX0_lendOrQueue_23 : decode cX0_lendOrQueue 23 = .ok (.getfield 28, 3) := by decide +kernel
theorem dX0_lendOrQueue_26 : decode cX0_lendOrQueue 26 = .ok (.iload_n 1, 1) := by decide +kernel
theorem dX0_lendOrQueue_27 : decode cX0_lendOrQueue 27 = .ok (.iload_n 2, 1) := by decide +kernel
theorem dX0_lendOrQueue_28 : decode cX0_lendOrQueue 28 = .ok (.invokevirtual 72, 3) := by decide +kernel
theorem dX0_lendOrQueue_31 : decode cX0_lendOrQueue 31 = .ok (.iconst (-1), 1) := by decide +kernel
theorem dX0_lendOrQueue_32 : decode cX0_lendOrQueue 32 = .ok (.ireturn, 1) := by decide +kernel
theorem dX0_giveBack_0 : decode cX0_giveBack 0 = .ok (.aload_n 0, 1) := by decide +kernel
theorem dX0_giveBack_1 : decode cX0_giveBack 1 = .ok (.iload_n 1, 1) := by decide +kernel
theorem dX0_giveBack_2 : decode cX0_giveBack 2 = .ok (.invokevirtual 75, 3) := by decide +kernel
theorem dX0_giveBack_5 : decode cX0_giveBack 5 = .ok (.aload_n 0, 1) := by decide +kernel
theorem dX0_giveBack_6 : decode cX0_giveBack 6 = .ok (.invokevirtual 79, 3) := by decide +kernel
theorem dX0_giveBack_9 : decode cX0_giveBack 9 = .ok (.ireturn, 1) := by decide +kernel
theorem dX0_giveBackAll_0 : decode cX0_giveBackAll 0 = .ok (.iconst 0, 1) := by decide +kernel
theorem dX0_giveBackAll_1 : decode cX0_giveBackAll 1 = .ok (.istore_n 2, 1) := by decide +kernel
theorem dX0_giveBackAll_2 : decode cX0_giveBackAll 2 = .ok (.aload_n 0, 1) := by decide +kernel
theorem dX0_giveBackAll_3 : decode cX0_giveBackAll 3 = .ok (.getfield 21, 3) := by decide +kernel
theorem dX0_giveBackAll_6 : decode cX0_giveBackAll 6 = .ok (.getfield 42, 3) := by decide +kernel
theorem dX0_giveBackAll_9 : decode cX0_giveBackAll 9 = .ok (.iconst 1, 1) := by decide +kernel
theorem dX0_giveBackAll_10 : decode cX0_giveBackAll 10 = .ok (.isub, 1) := by decide +kernel
theorem dX0_giveBackAll_11 : decode cX0_giveBackAll 11 = .ok (.istore_n 3, 1) := by decide +kernel
theorem dX0_giveBackAll_12 : decode cX0_giveBackAll 12 = .ok (.iload_n 3, 1) := by decide +kernel
theorem dX0_giveBackAll_13 : decode cX0_giveBackAll 13 = .ok (.ifCond .lt 29, 3) := by decide +kernel
theorem dX0_giveBackAll_16 : decode cX0_giveBackAll 16 = .ok (.aload_n 0, 1) := by decide +kernel
theorem dX0_giveBackAll_17 : decode cX0_giveBackAll 17 = .ok (.getfield 21, 3) := by decide +kernel
theorem dX0_giveBackAll_20 : decode cX0_giveBackAll 20 = .ok (.iload_n 3, 1) := by decide +kernel
theorem dX0_giveBackAll_21 : decode cX0_giveBackAll 21 = .ok (.invokevirtual 82, 3) := by decide +kernel
theorem dX0_giveBackAll_24 : decode cX0_giveBackAll 24 = .ok (.iload_n 1, 1) := by decide +kernel
theorem dX0_giveBackAll_25 : decode cX0_giveBackAll 25 = .ok (.if_icmp .ne 11, 3) := by decide +kernel
theorem dX0_giveBackAll_28 : decode cX0_giveBackAll 28 = .ok (.aload_n 0, 1) := by decide +kernel
theorem dX0_giveBackAll_29 : decode cX0_giveBackAll 29 = .ok (.iload_n 3, 1) := by decide +kernel
theorem dX0_giveBackAll_30 : decode cX0_giveBackAll 30 = .ok (.invokevirtual 75, 3) := by decide +kernel
theorem dX0_giveBackAll_33 : decode cX0_giveBackAll 33 = .ok (.iinc 2 1, 3) := by decide +kernel
theorem dX0_giveBackAll_36 : decode cX0_giveBackAll 36 = .ok (.iinc 3 (-1), 3) := by decide +kernel
theorem dX0_giveBackAll_39 : decode cX0_giveBackAll 39 = .ok (.goto (-27), 3) := by decide +kernel
theorem dX0_giveBackAll_42 : decode cX0_giveBackAll 42 = .ok (.aload_n 0, 1) := by decide +kernel
theorem dX0_giveBackAll_43 : decode cX0_giveBackAll 43 = .ok (.invokevirtual 79, 3) := by decide +kernel
theorem dX0_giveBackAll_46 : decode cX0_giveBackAll 46 = .ok (.pop, 1) := by decide +kernel
theorem dX0_giveBackAll_47 : decode cX0_giveBackAll 47 = .ok (.iload_n 2, 1) := by decide +kernel
theorem dX0_giveBackAll_48 : decode cX0_giveBackAll 48 = .ok (.ireturn, 1) := by decide +kernel
theorem dX0_releaseLoan_0 : decode cX0_releaseLoan 0 = .ok (.aload_n 0, 1) := by decide +kernel
theorem dX0_releaseLoan_1 : decode cX0_releaseLoan 1 = .ok (.getfield 21, 3) := by decide +kernel
theorem dX0_releaseLoan_4 : decode cX0_releaseLoan 4 = .ok (.iload_n 1, 1) := by decide +kernel
theorem dX0_releaseLoan_5 : decode cX0_releaseLoan 5 = .ok (.invokevirtual 69, 3) := by decide +kernel
theorem dX0_releaseLoan_8 : decode cX0_releaseLoan 8 = .ok (.istore_n 2, 1) := by decide +kernel
theorem dX0_releaseLoan_9 : decode cX0_releaseLoan 9 = .ok (.aload_n 0, 1) := by decide +kernel
theorem dX0_releaseLoan_10 : decode cX0_releaseLoan 10 = .ok (.getfield 21, 3) := by decide +kernel
theorem dX0_releaseLoan_13 : decode cX0_releaseLoan 13 = .ok (.iload_n 1, 1) := by decide +kernel
theorem dX0_releaseLoan_14 : decode cX0_releaseLoan 14 = .ok (.invokevirtual 85, 3) := by decide +kernel
theorem dX0_releaseLoan_17 : decode cX0_releaseLoan 17 = .ok (.istore_n 3, 1) := by decide +kernel
theorem dX0_releaseLoan_18 : decode cX0_releaseLoan 18 = .ok (.aload_n 0, 1) := by decide +kernel
theorem dX0_releaseLoan_19 : decode cX0_releaseLoan 19 = .ok (.getfield 21, 3) := by decide +kernel
theorem dX0_releaseLoan_22 : decode cX0_releaseLoan 22 = .ok (.iload_n 1, 1) := by decide +kernel
theorem dX0_releaseLoan_23 : decode cX0_releaseLoan 23 = .ok (.invokevirtual 88, 3) := by decide +kernel
theorem dX0_releaseLoan_26 : decode cX0_releaseLoan 26 = .ok (.aload_n 0, 1) := by decide +kernel
theorem dX0_releaseLoan_27 : decode cX0_releaseLoan 27 = .ok (.getfield 12, 3) := by decide +kernel
theorem dX0_releaseLoan_30 : decode cX0_releaseLoan 30 = .ok (.iload_n 2, 1) := by decide +kernel
theorem dX0_releaseLoan_31 : decode cX0_releaseLoan 31 = .ok (.iload_n 3, 1) := by decide +kernel
theorem dX0_releaseLoan_32 : decode cX0_releaseLoan 32 = .ok (.invokevirtual 91, 3) := by decide +kernel
theorem dX0_releaseLoan_35 : decode cX0_releaseLoan 35 = .ok (.return_, 1) := by decide +kernel
theorem dX0_changeAmount_0 : decode cX0_changeAmount 0 = .ok (.iload_n 2, 1) := by decide +kernel
theorem dX0_changeAmount_1 : decode cX0_changeAmount 1 = .ok (.invokestatic 50, 3) := by decide +kernel
theorem dX0_changeAmount_4 : decode cX0_changeAmount 4 = .ok (.istore_n 3, 1) := by decide +kernel
theorem dX0_changeAmount_5 : decode cX0_changeAmount 5 = .ok (.aload_n 0, 1) := by decide +kernel
theorem dX0_changeAmount_6 : decode cX0_changeAmount 6 = .ok (.getfield 21, 3) := by decide +kernel
theorem dX0_changeAmount_9 : decode cX0_changeAmount 9 = .ok (.iload_n 1, 1) := by decide +kernel
theorem dX0_changeAmount_10 : decode cX0_changeAmount 10 = .ok (.invokevirtual 69, 3) := by decide +kernel
theorem dX0_changeAmount_13 : decode cX0_changeAmount 13 = .ok (.istore 4, 2) := by decide +kernel
theorem dX0_changeAmount_15 : decode cX0_changeAmount 15 = .ok (.aload_n 0, 1) := by decide +kernel
theorem dX0_changeAmount_16 : decode cX0_changeAmount 16 = .ok (.getfield 21, 3) := by decide +kernel
theorem dX0_changeAmount_19 : decode cX0_changeAmount 19 = .ok (.iload_n 1, 1) := by decide +kernel
theorem dX0_changeAmount_20 : decode cX0_changeAmount 20 = .ok (.invokevirtual 85, 3) := by decide +kernel
theorem dX0_changeAmount_23 : decode cX0_changeAmount 23 = .ok (.istore 5, 2) := by decide +kernel
theorem dX0_changeAmount_25 : decode cX0_changeAmount 25 = .ok (.iload_n 3, 1) := by decide +kernel
theorem dX0_changeAmount_26 : decode cX0_changeAmount 26 = .ok (.iload 5, 2) := by decide +kernel
theorem dX0_changeAmount_28 : decode cX0_changeAmount 28 = .ok (.if_icmp .ge 17, 3) := by decide +kernel
theorem dX0_changeAmount_31 : decode cX0_changeAmount 31 = .ok (.aload_n 0, 1) := by decide +kernel
theorem dX0_changeAmount_32 : decode cX0_changeAmount 32 = .ok (.getfield 12, 3) := by decide +kernel
theorem dX0_changeAmount_35 : decode cX0_changeAmount 35 = .ok (.iload 4, 2) := by decide +kernel
theorem dX0_changeAmount_37 : decode cX0_changeAmount 37 = .ok (.iload 5, 2) := by decide +kernel
theorem dX0_changeAmount_39 : decode cX0_changeAmount 39 = .ok (.iload_n 3, 1) := by decide +kernel
theorem dX0_changeAmount_40 : decode cX0_changeAmount 40 = .ok (.invokevirtual 94, 3) := by decide +kernel
theorem dX0_changeAmount_43 : decode cX0_changeAmount 43 = .ok (.istore 4, 2) := by decide +kernel
theorem dX0_changeAmount_45 : decode cX0_changeAmount 45 = .ok (.iload_n 3, 1) := by decide +kernel
theorem dX0_changeAmount_46 : decode cX0_changeAmount 46 = .ok (.iload 5, 2) := by decide +kernel
theorem dX0_changeAmount_48 : decode cX0_changeAmount 48 = .ok (.if_icmp .le 24, 3) := by decide +kernel
theorem dX0_changeAmount_51 : decode cX0_changeAmount 51 = .ok (.aload_n 0, 1) := by decide +kernel
theorem dX0_changeAmount_52 : decode cX0_changeAmount 52 = .ok (.getfield 12, 3) := by decide +kernel
theorem dX0_changeAmount_55 : decode cX0_changeAmount 55 = .ok (.iload 4, 2) := by decide +kernel
theorem dX0_changeAmount_57 : decode cX0_changeAmount 57 = .ok (.iload 5, 2) := by decide +kernel
theorem dX0_changeAmount_59 : decode cX0_changeAmount 59 = .ok (.invokevirtual 91, 3) := by decide +kernel
theorem dX0_changeAmount_62 : decode cX0_changeAmount 62 = .ok (.aload_n 0, 1) := by decide +kernel
theorem dX0_changeAmount_63 : decode cX0_changeAmount 63 = .ok (.getfield 12, 3) := by decide +kernel
theorem dX0_changeAmount_66 : decode cX0_changeAmount 66 = .ok (.iload_n 3, 1) := by decide +kernel
theorem dX0_changeAmount_67 : decode cX0_changeAmount 67 = .ok (.invokevirtual 54, 3) := by decide +kernel
theorem dX0_changeAmount_70 : decode cX0_changeAmount 70 = .ok (.istore 4, 2) := by decide +kernel
theorem dX0_changeAmount_72 : decode cX0_changeAmount 72 = .ok (.aload_n 0, 1) := by decide +kernel
theorem dX0_changeAmount_73 : decode cX0_changeAmount 73 = .ok (.getfield 21, 3) := by decide +kernel
theorem dX0_changeAmount_76 : decode cX0_changeAmount 76 = .ok (.iload_n 1, 1) := by decide +kernel
theorem dX0_changeAmount_77 : decode cX0_changeAmount 77 = .ok (.iload_n 2, 1) := by decide +kernel
theorem dX0_changeAmount_78 : decode cX0_changeAmount 78 = .ok (.iload 4, 2) := by decide +kernel
theorem dX0_changeAmount_80 : decode cX0_changeAmount 80 = .ok (.iload_n 3, 1) := by decide +kernel
theorem dX0_changeAmount_81 : decode cX0_changeAmount 81 = .ok (.invokevirtual 98, 3) := by decide +kernel
theorem dX0_changeAmount_84 : decode cX0_changeAmount 84 = .ok (.iload_n 3, 1) := by decide +kernel
theorem dX0_changeAmount_85 : decode cX0_changeAmount 85 = .ok (.iload 5, 2) := by decide +kernel
theorem dX0_changeAmount_87 : decode cX0_changeAmount 87 = .ok (.if_icmp .eq 8, 3) := by decide +kernel
theorem dX0_changeAmount_90 : decode cX0_changeAmount 90 = .ok (.aload_n 0, 1) := by decide +kernel
theorem dX0_changeAmount_91 : decode cX0_changeAmount 91 = .ok (.invokevirtual 79, 3) := by decide +kernel
theorem dX0_changeAmount_94 : decode cX0_changeAmount 94 = .ok (.pop, 1) := by decide +kernel
theorem dX0_changeAmount_95 : decode cX0_changeAmount 95 = .ok (.iload 4, 2) := by decide +kernel
theorem dX0_changeAmount_97 : decode cX0_changeAmount 97 = .ok (.ireturn, 1) := by decide +kernel
theorem dX0_changeWay_0 : decode cX0_changeWay 0 = .ok (.aload_n 0, 1) := by decide +kernel
theorem dX0_changeWay_1 : decode cX0_changeWay 1 = .ok (.getfield 12, 3) := by decide +kernel
theorem dX0_changeWay_4 : decode cX0_changeWay 4 = .ok (.getfield 102, 3) := by decide +kernel
theorem dX0_changeWay_7 : decode cX0_changeWay 7 = .ok (.istore_n 2, 1) := by decide +kernel
theorem dX0_changeWay_8 : decode cX0_changeWay 8 = .ok (.aload_n 0, 1) := by decide +kernel
theorem dX0_changeWay_9 : decode cX0_changeWay 9 = .ok (.getfield 12, 3) := by decide +kernel
theorem dX0_changeWay_12 : decode cX0_changeWay 12 = .ok (.iload_n 1, 1) := by decide +kernel
theorem dX0_changeWay_13 : decode cX0_changeWay 13 = .ok (.putfield 102, 3) := by decide +kernel
theorem dX0_changeWay_16 : decode cX0_changeWay 16 = .ok (.aload_n 0, 1) := by decide +kernel
theorem dX0_changeWay_17 : decode cX0_changeWay 17 = .ok (.invokevirtual 79, 3) := by decide +kernel
theorem dX0_changeWay_20 : decode cX0_changeWay 20 = .ok (.pop, 1) := by decide +kernel
theorem dX0_changeWay_21 : decode cX0_changeWay 21 = .ok (.iload_n 2, 1) := by decide +kernel
theorem dX0_changeWay_22 : decode cX0_changeWay 22 = .ok (.ireturn, 1) := by decide +kernel
theorem dX0_serveWaiting_0 : decode cX0_serveWaiting 0 = .ok (.iconst 0, 1) := by decide +kernel
theorem dX0_serveWaiting_1 : decode cX0_serveWaiting 1 = .ok (.istore_n 1, 1) := by decide +kernel
theorem dX0_serveWaiting_2 : decode cX0_serveWaiting 2 = .ok (.aload_n 0, 1) := by decide +kernel
theorem dX0_serveWaiting_3 : decode cX0_serveWaiting 3 = .ok (.getfield 28, 3) := by decide +kernel
theorem dX0_serveWaiting_6 : decode cX0_serveWaiting 6 = .ok (.getfield 105, 3) := by decide +kernel
theorem dX0_serveWaiting_9 : decode cX0_serveWaiting 9 = .ok (.istore_n 2, 1) := by decide +kernel
theorem dX0_serveWaiting_10 : decode cX0_serveWaiting 10 = .ok (.iconst 0, 1) := by decide +kernel
theorem dX0_serveWaiting_11 : decode cX0_serveWaiting 11 = .ok (.istore_n 3, 1) := by decide +kernel
theorem dX0_serveWaiting_12 : decode cX0_serveWaiting 12 = .ok (.iload_n 3, 1) := by decide +kernel
theorem dX0_serveWaiting_13 : decode cX0_serveWaiting 13 = .ok (.iload_n 2, 1) := by decide +kernel
theorem dX0_serveWaiting_14 : decode cX0_serveWaiting 14 = .ok (.if_icmp .ge 65, 3) := by decide +kernel
theorem dX0_serveWaiting_17 : decode cX0_serveWaiting 17 = .ok (.iload_n 3, 1) := by decide +kernel
theorem dX0_serveWaiting_18 : decode cX0_serveWaiting 18 = .ok (.iload_n 1, 1) := by decide +kernel
theorem dX0_serveWaiting_19 : decode cX0_serveWaiting 19 = .ok (.isub, 1) := by decide +kernel
theorem dX0_serveWaiting_20 : decode cX0_serveWaiting 20 = .ok (.istore 4, 2) := by decide +kernel
theorem dX0_serveWaiting_22 : decode cX0_serveWaiting 22 = .ok (.aload_n 0, 1) := by decide +kernel
theorem dX0_serveWaiting_23 : decode cX0_serveWaiting 23 = .ok (.aload_n 0, 1) := by decide +kernel
theorem dX0_serveWaiting_24 : decode cX0_serveWaiting 24 = .ok (.getfield 28, 3) := by decide +kernel
theorem dX0_serveWaiting_27 : decode cX0_serveWaiting 27 = .ok (.iload 4, 2) := by decide +kernel
theorem dX0_serveWaiting_29 : decode cX0_serveWaiting 29 = .ok (.invokevirtual 106, 3) := by decide +kernel
theorem dX0_serveWaiting_32 : decode cX0_serveWaiting 32 = .ok (.invokevirtual 61, 3) := by decide +kernel
theorem dX0_serveWaiting_35 : decode cX0_serveWaiting 35 = .ok (.ifCond .eq 38, 3) := by decide +kernel
theorem dX0_serveWaiting_38 : decode cX0_serveWaiting 38 = .ok (.aload_n 0, 1) := by decide +kernel
theorem dX0_serveWaiting_39 : decode cX0_serveWaiting 39 = .ok (.aload_n 0, 1) := by decide +kernel
theorem dX0_serveWaiting_40 : decode cX0_serveWaiting 40 = .ok (.getfield 28, 3) := by decide +kernel
theorem dX0_serveWaiting_43 : decode cX0_serveWaiting 43 = .ok (.iload 4, 2) := by decide +kernel
theorem dX0_serveWaiting_45 : decode cX0_serveWaiting 45 = .ok (.invokevirtual 109, 3) := by decide +kernel
theorem dX0_serveWaiting_48 : decode cX0_serveWaiting 48 = .ok (.aload_n 0, 1) := by decide +kernel
theorem dX0_serveWaiting_49 : decode cX0_serveWaiting 49 = .ok (.getfield 28, 3) := by decide +kernel
theorem dX0_serveWaiting_52 : decode cX0_serveWaiting 52 = .ok (.iload 4, 2) := by decide +kernel
theorem dX0_serveWaiting_54 : decode cX0_serveWaiting 54 = .ok (.invokevirtual 106, 3) := by decide +kernel
theorem dX0_serveWaiting_57 : decode cX0_serveWaiting 57 = .ok (.invokevirtual 65, 3) := by decide +kernel
theorem dX0_serveWaiting_60 : decode cX0_serveWaiting 60 = .ok (.pop, 1) := by decide +kernel
theorem dX0_serveWaiting_61 : decode cX0_serveWaiting 61 = .ok (.aload_n 0, 1) := by decide +kernel
theorem dX0_serveWaiting_62 : decode cX0_serveWaiting 62 = .ok (.getfield 28, 3) := by decide +kernel
theorem dX0_serveWaiting_65 : decode cX0_serveWaiting 65 = .ok (.iload 4, 2) := by decide +kernel
theorem dX0_serveWaiting_67 : decode cX0_serveWaiting 67 = .ok (.invokevirtual 110, 3) := by decide +kernel
theorem dX0_serveWaiting_70 : decode cX0_serveWaiting 70 = .ok (.iinc 1 1, 3) := by decide +kernel
theorem dX0_serveWaiting_73 : decode cX0_serveWaiting 73 = .ok (.iinc 3 1, 3) := by decide +kernel
theorem dX0_serveWaiting_76 : decode cX0_serveWaiting 76 = .ok (.goto (-64), 3) := by decide +kernel
theorem dX0_serveWaiting_79 : decode cX0_serveWaiting 79 = .ok (.iload_n 1, 1) := by decide +kernel
theorem dX0_serveWaiting_80 : decode cX0_serveWaiting 80 = .ok (.ireturn, 1) := by decide +kernel
theorem dX0_greatestSizeWithout_0 : decode cX0_greatestSizeWithout 0 = .ok (.aload_n 0, 1) := by decide +kernel
theorem dX0_greatestSizeWithout_1 : decode cX0_greatestSizeWithout 1 = .ok (.getfield 12, 3) := by decide +kernel
theorem dX0_greatestSizeWithout_4 : decode cX0_greatestSizeWithout 4 = .ok (.aload_n 0, 1) := by decide +kernel
theorem dX0_greatestSizeWithout_5 : decode cX0_greatestSizeWithout 5 = .ok (.getfield 21, 3) := by decide +kernel
theorem dX0_greatestSizeWithout_8 : decode cX0_greatestSizeWithout 8 = .ok (.iload_n 1, 1) := by decide +kernel
theorem dX0_greatestSizeWithout_9 : decode cX0_greatestSizeWithout 9 = .ok (.invokevirtual 69, 3) := by decide +kernel
theorem dX0_greatestSizeWithout_12 : decode cX0_greatestSizeWithout 12 = .ok (.aload_n 0, 1) := by decide +kernel
theorem dX0_greatestSizeWithout_13 : decode cX0_greatestSizeWithout 13 = .ok (.getfield 21, 3) := by decide +kernel
theorem dX0_greatestSizeWithout_16 : decode cX0_greatestSizeWithout 16 = .ok (.iload_n 1, 1) := by decide +kernel
theorem dX0_greatestSizeWithout_17 : decode cX0_greatestSizeWithout 17 = .ok (.invokevirtual 85, 3) := by decide +kernel
theorem dX0_greatestSizeWithout_20 : decode cX0_greatestSizeWithout 20 = .ok (.invokevirtual 111, 3) := by decide +kernel
theorem dX0_greatestSizeWithout_23 : decode cX0_greatestSizeWithout 23 = .ok (.istore_n 2, 1) := by decide +kernel
theorem dX0_greatestSizeWithout_24 : decode cX0_greatestSizeWithout 24 = .ok (.iload_n 2, 1) := by decide +kernel
theorem dX0_greatestSizeWithout_25 : decode cX0_greatestSizeWithout 25 = .ok (.aload_n 0, 1) := by decide +kernel
theorem dX0_greatestSizeWithout_26 : decode cX0_greatestSizeWithout 26 = .ok (.getfield 12, 3) := by decide +kernel
theorem dX0_greatestSizeWithout_29 : decode cX0_greatestSizeWithout 29 = .ok (.invokevirtual 46, 3) := by decide +kernel
theorem dX0_greatestSizeWithout_32 : decode cX0_greatestSizeWithout 32 = .ok (.invokestatic 114, 3) := by decide +kernel
theorem dX0_greatestSizeWithout_35 : decode cX0_greatestSizeWithout 35 = .ok (.ireturn, 1) := by decide +kernel
theorem dX0_pieceStart_0 : decode cX0_pieceStart 0 = .ok (.aload_n 0, 1) := by decide +kernel
theorem dX0_pieceStart_1 : decode cX0_pieceStart 1 = .ok (.getfield 21, 3) := by decide +kernel
theorem dX0_pieceStart_4 : decode cX0_pieceStart 4 = .ok (.iload_n 1, 1) := by decide +kernel
theorem dX0_pieceStart_5 : decode cX0_pieceStart 5 = .ok (.invokevirtual 119, 3) := by decide +kernel
theorem dX0_pieceStart_8 : decode cX0_pieceStart 8 = .ok (.istore_n 2, 1) := by decide +kernel
theorem dX0_pieceStart_9 : decode cX0_pieceStart 9 = .ok (.iload_n 2, 1) := by decide +kernel
theorem dX0_pieceStart_10 : decode cX0_pieceStart 10 = .ok (.ifCond .lt 14, 3) := by decide +kernel
theorem dX0_pieceStart_13 : decode cX0_pieceStart 13 = .ok (.aload_n 0, 1) := by decide +kernel
theorem dX0_pieceStart_14 : decode cX0_pieceStart 14 = .ok (.getfield 21, 3) := by decide +kernel
theorem dX0_pieceStart_17 : decode cX0_pieceStart 17 = .ok (.iload_n 2, 1) := by decide +kernel
theorem dX0_pieceStart_18 : decode cX0_pieceStart 18 = .ok (.invokevirtual 69, 3) := by decide +kernel
theorem dX0_pieceStart_21 : decode cX0_pieceStart 21 = .ok (.goto 11, 3) := by decide +kernel
theorem dX0_pieceStart_24 : decode cX0_pieceStart 24 = .ok (.aload_n 0, 1) := by decide +kernel
theorem dX0_pieceStart_25 : decode cX0_pieceStart 25 = .ok (.getfield 12, 3) := by decide +kernel
theorem dX0_pieceStart_28 : decode cX0_pieceStart 28 = .ok (.iload_n 1, 1) := by decide +kernel
theorem dX0_pieceStart_29 : decode cX0_pieceStart 29 = .ok (.invokevirtual 122, 3) := by decide +kernel
theorem dX0_pieceStart_32 : decode cX0_pieceStart 32 = .ok (.ireturn, 1) := by decide +kernel
theorem dX0_pieceSize_0 : decode cX0_pieceSize 0 = .ok (.aload_n 0, 1) := by decide +kernel
theorem dX0_pieceSize_1 : decode cX0_pieceSize 1 = .ok (.getfield 21, 3) := by decide +kernel
theorem dX0_pieceSize_4 : decode cX0_pieceSize 4 = .ok (.iload_n 1, 1) := by decide +kernel
theorem dX0_pieceSize_5 : decode cX0_pieceSize 5 = .ok (.invokevirtual 119, 3) := by decide +kernel
theorem dX0_pieceSize_8 : decode cX0_pieceSize 8 = .ok (.istore_n 2, 1) := by decide +kernel
theorem dX0_pieceSize_9 : decode cX0_pieceSize 9 = .ok (.iload_n 2, 1) := by decide +kernel
theorem dX0_pieceSize_10 : decode cX0_pieceSize 10 = .ok (.ifCond .lt 14, 3) := by decide +kernel
theorem dX0_pieceSize_13 : decode cX0_pieceSize 13 = .ok (.aload_n 0, 1) := by decide +kernel
theorem dX0_pieceSize_14 : decode cX0_pieceSize 14 = .ok (.getfield 21, 3) := by decide +kernel
theorem dX0_pieceSize_17 : decode cX0_pieceSize 17 = .ok (.iload_n 2, 1) := by decide +kernel
theorem dX0_pieceSize_18 : decode cX0_pieceSize 18 = .ok (.invokevirtual 85, 3) := by decide +kernel
theorem dX0_pieceSize_21 : decode cX0_pieceSize 21 = .ok (.goto 18, 3) := by decide +kernel
theorem dX0_pieceSize_24 : decode cX0_pieceSize 24 = .ok (.aload_n 0, 1) := by decide +kernel
theorem dX0_pieceSize_25 : decode cX0_pieceSize 25 = .ok (.getfield 12, 3) := by decide +kernel
theorem dX0_pieceSize_28 : decode cX0_pieceSize 28 = .ok (.aload_n 0, 1) := by decide +kernel
theorem dX0_pieceSize_29 : decode cX0_pieceSize 29 = .ok (.getfield 12, 3) := by decide +kernel
theorem dX0_pieceSize_32 : decode cX0_pieceSize 32 = .ok (.iload_n 1, 1) := by decide +kernel
theorem dX0_pieceSize_33 : decode cX0_pieceSize 33 = .ok (.invokevirtual 122, 3) := by decide +kernel
theorem dX0_pieceSize_36 : decode cX0_pieceSize 36 = .ok (.invokevirtual 125, 3) := by decide +kernel
theorem dX0_pieceSize_39 : decode cX0_pieceSize 39 = .ok (.ireturn, 1) := by decide +kernel
theorem dX0_countFreeParts_0 : decode cX0_countFreeParts 0 = .ok (.iconst 0, 1) := by decide +kernel
theorem dX0_countFreeParts_1 : decode cX0_countFreeParts 1 = .ok (.istore_n 2, 1) := by decide +kernel
theorem dX0_countFreeParts_2 : decode cX0_countFreeParts 2 = .ok (.iconst 0, 1) := by decide +kernel
theorem dX0_countFreeParts_3 : decode cX0_countFreeParts 3 = .ok (.istore_n 3, 1) := by decide +kernel
theorem dX0_countFreeParts_4 : decode cX0_countFreeParts 4 = .ok (.iload_n 1, 1) := by decide +kernel
theorem dX0_countFreeParts_5 : decode cX0_countFreeParts 5 = .ok (.iconst 1, 1) := by decide +kernel
theorem dX0_countFreeParts_6 : decode cX0_countFreeParts 6 = .ok (.if_icmp .lt 40, 3) := by decide +kernel
theorem dX0_countFreeParts_9 : decode cX0_countFreeParts 9 = .ok (.iload_n 3, 1) := by decide +kernel
theorem dX0_countFreeParts_10 : decode cX0_countFreeParts 10 = .ok (.bipush 64, 2) := by decide +kernel
theorem dX0_countFreeParts_12 : decode cX0_countFreeParts 12 = .ok (.if_icmp .ge 34, 3) := by decide +kernel
theorem dX0_countFreeParts_15 : decode cX0_countFreeParts 15 = .ok (.aload_n 0, 1) := by decide +kernel
theorem dX0_countFreeParts_16 : decode cX0_countFreeParts 16 = .ok (.getfield 21, 3) := by decide +kernel
theorem dX0_countFreeParts_19 : decode cX0_countFreeParts 19 = .ok (.iload_n 3, 1) := by decide +kernel
theorem dX0_countFreeParts_20 : decode cX0_countFreeParts 20 = .ok (.iload_n 1, 1) := by decide +kernel
theorem dX0_countFreeParts_21 : decode cX0_countFreeParts 21 = .ok (.invokevirtual 126, 3) := by decide +kernel
theorem dX0_countFreeParts_24 : decode cX0_countFreeParts 24 = .ok (.ifCond .ne 15, 3) := by decide +kernel
theorem dX0_countFreeParts_27 : decode cX0_countFreeParts 27 = .ok (.aload_n 0, 1) := by decide +kernel
theorem dX0_countFreeParts_28 : decode cX0_countFreeParts 28 = .ok (.iload_n 3, 1) := by decide +kernel
theorem dX0_countFreeParts_29 : decode cX0_countFreeParts 29 = .ok (.iload_n 1, 1) := by decide +kernel
theorem dX0_countFreeParts_30 : decode cX0_countFreeParts 30 = .ok (.invokevirtual 129, 3) := by decide +kernel
theorem dX0_countFreeParts_33 : decode cX0_countFreeParts 33 = .ok (.ifCond .eq 6, 3) := by decide +kernel
theorem dX0_countFreeParts_36 : decode cX0_countFreeParts 36 = .ok (.iinc 2 1, 3) := by decide +kernel
theorem dX0_countFreeParts_39 : decode cX0_countFreeParts 39 = .ok (.iload_n 3, 1) := by decide +kernel
theorem dX0_countFreeParts_40 : decode cX0_countFreeParts 40 = .ok (.iload_n 1, 1) := by decide +kernel
theorem dX0_countFreeParts_41 : decode cX0_countFreeParts 41 = .ok (.iadd, 1) := by decide +kernel
theorem dX0_countFreeParts_42 : decode cX0_countFreeParts 42 = .ok (.istore_n 3, 1) := by decide +kernel
theorem dX0_countFreeParts_43 : decode cX0_countFreeParts 43 = .ok (.goto (-39), 3) := by decide +kernel
theorem dX0_countFreeParts_46 : decode cX0_countFreeParts 46 = .ok (.iload_n 2, 1) := by decide +kernel
theorem dX0_countFreeParts_47 : decode cX0_countFreeParts 47 = .ok (.ireturn, 1) := by decide +kernel
theorem dX0_isBoardOrHalfOfMixed_0 : decode cX0_isBoardOrHalfOfMixed 0 = .ok (.iload_n 2, 1) := by decide +kernel
theorem dX0_isBoardOrHalfOfMixed_1 : decode cX0_isBoardOrHalfOfMixed 1 = .ok (.bipush 64, 2) := by decide +kernel
theorem dX0_isBoardOrHalfOfMixed_3 : decode cX0_isBoardOrHalfOfMixed 3 = .ok (.if_icmp .eq 23, 3) := by decide +kernel
theorem dX0_isBoardOrHalfOfMixed_6 : decode cX0_isBoardOrHalfOfMixed 6 = .ok (.aload_n 0, 1) := by decide +kernel
theorem dX0_isBoardOrHalfOfMixed_7 : decode cX0_isBoardOrHalfOfMixed 7 = .ok (.getfield 21, 3) := by decide +kernel
theorem dX0_isBoardOrHalfOfMixed_10 : decode cX0_isBoardOrHalfOfMixed 10 = .ok (.iload_n 1, 1) := by decide +kernel
theorem dX0_isBoardOrHalfOfMixed_11 : decode cX0_isBoardOrHalfOfMixed 11 = .ok (.iconst 2, 1) := by decide +kernel
theorem dX0_isBoardOrHalfOfMixed_12 : decode cX0_isBoardOrHalfOfMixed 12 = .ok (.iload_n 2, 1) := by decide +kernel
theorem dX0_isBoardOrHalfOfMixed_13 : decode cX0_isBoardOrHalfOfMixed 13 = .ok (.imul, 1) := by decide +kernel
theorem dX0_isBoardOrHalfOfMixed_14 : decode cX0_isBoardOrHalfOfMixed 14 = .ok (.invokestatic 133, 3) := by decide +kernel
theorem dX0_isBoardOrHalfOfMixed_17 : decode cX0_isBoardOrHalfOfMixed 17 = .ok (.iconst 2, 1) := by decide +kernel
theorem dX0_isBoardOrHalfOfMixed_18 : decode cX0_isBoardOrHalfOfMixed 18 = .ok (.iload_n 2, 1) := by decide +kernel
theorem dX0_isBoardOrHalfOfMixed_19 : decode cX0_isBoardOrHalfOfMixed 19 = .ok (.imul, 1) := by decide +kernel
theorem dX0_isBoardOrHalfOfMixed_20 : decode cX0_isBoardOrHalfOfMixed 20 = .ok (.invokevirtual 126, 3) := by decide +kernel
theorem dX0_isBoardOrHalfOfMixed_23 : decode cX0_isBoardOrHalfOfMixed 23 = .ok (.ifCond .le 7, 3) := by decide +kernel
theorem dX0_isBoardOrHalfOfMixed_26 : decode cX0_isBoardOrHalfOfMixed 26 = .ok (.iconst 1, 1) := by decide +kernel
theorem dX0_isBoardOrHalfOfMixed_27 : decode cX0_isBoardOrHalfOfMixed 27 = .ok (.goto 4, 3) := by decide +kernel
theorem dX0_isBoardOrHalfOfMixed_30 : decode cX0_isBoardOrHalfOfMixed 30 = .ok (.iconst 0, 1) := by decide +kernel
theorem dX0_isBoardOrHalfOfMixed_31 : decode cX0_isBoardOrHalfOfMixed 31 = .ok (.ireturn, 1) := by decide +kernel
theorem dX0_isCovered_0 : decode cX0_isCovered 0 = .ok (.iconst 0, 1) := by decide +kernel
theorem dX0_isCovered_1 : decode cX0_isCovered 1 = .ok (.istore_n 1, 1) := by decide +kernel
theorem dX0_isCovered_2 : decode cX0_isCovered 2 = .ok (.iload_n 1, 1) := by decide +kernel
theorem dX0_isCovered_3 : decode cX0_isCovered 3 = .ok (.bipush 64, 2) := by decide +kernel
theorem dX0_isCovered_5 : decode cX0_isCovered 5 = .ok (.if_icmp .ge 33, 3) := by decide +kernel
theorem dX0_isCovered_8 : decode cX0_isCovered 8 = .ok (.aload_n 0, 1) := by decide +kernel
theorem dX0_isCovered_9 : decode cX0_isCovered 9 = .ok (.getfield 21, 3) := by decide +kernel
theorem dX0_isCovered_12 : decode cX0_isCovered 12 = .ok (.iload_n 1, 1) := by decide +kernel
theorem dX0_isCovered_13 : decode cX0_isCovered 13 = .ok (.iconst 1, 1) := by decide +kernel
theorem dX0_isCovered_14 : decode cX0_isCovered 14 = .ok (.invokevirtual 126, 3) := by decide +kernel
theorem dX0_isCovered_17 : decode cX0_isCovered 17 = .ok (.aload_n 0, 1) := by decide +kernel
theorem dX0_isCovered_18 : decode cX0_isCovered 18 = .ok (.getfield 12, 3) := by decide +kernel
theorem dX0_isCovered_21 : decode cX0_isCovered 21 = .ok (.iload_n 1, 1) := by decide +kernel
theorem dX0_isCovered_22 : decode cX0_isCovered 22 = .ok (.invokevirtual 136, 3) := by decide +kernel
theorem dX0_isCovered_25 : decode cX0_isCovered 25 = .ok (.iadd, 1) := by decide +kernel
theorem dX0_isCovered_26 : decode cX0_isCovered 26 = .ok (.iconst 1, 1) := by decide +kernel
theorem dX0_isCovered_27 : decode cX0_isCovered 27 = .ok (.if_icmp .eq 5, 3) := by decide +kernel
theorem dX0_isCovered_30 : decode cX0_isCovered 30 = .ok (.iconst 0, 1) := by decide +kernel
theorem dX0_isCovered_31 : decode cX0_isCovered 31 = .ok (.ireturn, 1) := by decide +kernel
theorem dX0_isCovered_32 : decode cX0_isCovered 32 = .ok (.iinc 1 1, 3) := by decide +kernel
theorem dX0_isCovered_35 : decode cX0_isCovered 35 = .ok (.goto (-33), 3) := by decide +kernel
theorem dX0_isCovered_38 : decode cX0_isCovered 38 = .ok (.iconst 1, 1) := by decide +kernel
theorem dX0_isCovered_39 : decode cX0_isCovered 39 = .ok (.ireturn, 1) := by decide +kernel
theorem dX0_isCountedAlike_0 : decode cX0_isCountedAlike 0 = .ok (.iconst 1, 1) := by decide +kernel
theorem dX0_isCountedAlike_1 : decode cX0_isCountedAlike 1 = .ok (.istore_n 1, 1) := by decide +kernel
theorem dX0_isCountedAlike_2 : decode cX0_isCountedAlike 2 = .ok (.iload_n 1, 1) := by decide +kernel
theorem dX0_isCountedAlike_3 : decode cX0_isCountedAlike 3 = .ok (.bipush 64, 2) := by decide +kernel
theorem dX0_isCountedAlike_5 : decode cX0_isCountedAlike 5 = .ok (.if_icmp .gt 28, 3) := by decide +kernel
theorem dX0_isCountedAlike_8 : decode cX0_isCountedAlike 8 = .ok (.aload_n 0, 1) := by decide +kernel
theorem dX0_isCountedAlike_9 : decode cX0_isCountedAlike 9 = .ok (.getfield 12, 3) := by decide +kernel
theorem dX0_isCountedAlike_12 : decode cX0_isCountedAlike 12 = .ok (.iload_n 1, 1) := by decide +kernel
theorem dX0_isCountedAlike_13 : decode cX0_isCountedAlike 13 = .ok (.invokevirtual 139, 3) := by decide +kernel
theorem dX0_isCountedAlike_16 : decode cX0_isCountedAlike 16 = .ok (.aload_n 0, 1) := by decide +kernel
theorem dX0_isCountedAlike_17 : decode cX0_isCountedAlike 17 = .ok (.iload_n 1, 1) := by decide +kernel
theorem dX0_isCountedAlike_18 : decode cX0_isCountedAlike 18 = .ok (.invokevirtual 142, 3) := by decide +kernel
theorem dX0_isCountedAlike_21 : decode cX0_isCountedAlike 21 = .ok (.if_icmp .eq 5, 3) := by decide +kernel
theorem dX0_isCountedAlike_24 : decode cX0_isCountedAlike 24 = .ok (.iconst 0, 1) := by decide +kernel
theorem dX0_isCountedAlike_25 : decode cX0_isCountedAlike 25 = .ok (.ireturn, 1) := by decide +kernel
theorem dX0_isCountedAlike_26 : decode cX0_isCountedAlike 26 = .ok (.iload_n 1, 1) := by decide +kernel
theorem dX0_isCountedAlike_27 : decode cX0_isCountedAlike 27 = .ok (.iconst 2, 1) := by decide +kernel
theorem dX0_isCountedAlike_28 : decode cX0_isCountedAlike 28 = .ok (.imul, 1) := by decide +kernel
theorem dX0_isCountedAlike_29 : decode cX0_isCountedAlike 29 = .ok (.istore_n 1, 1) := by decide +kernel
theorem dX0_isCountedAlike_30 : decode cX0_isCountedAlike 30 = .ok (.goto (-28), 3) := by decide +kernel
theorem dX0_isCountedAlike_33 : decode cX0_isCountedAlike 33 = .ok (.iconst 1, 1) := by decide +kernel
theorem dX0_isCountedAlike_34 : decode cX0_isCountedAlike 34 = .ok (.ireturn, 1) := by decide +kernel
theorem dX0_isSomebodyLeft_0 : decode cX0_isSomebodyLeft 0 = .ok (.iconst 0, 1) := by decide +kernel
theorem dX0_isSomebodyLeft_1 : decode cX0_isSomebodyLeft 1 = .ok (.istore_n 1, 1) := by decide +kernel
theorem dX0_isSomebodyLeft_2 : decode cX0_isSomebodyLeft 2 = .ok (.iload_n 1, 1) := by decide +kernel
theorem dX0_isSomebodyLeft_3 : decode cX0_isSomebodyLeft 3 = .ok (.aload_n 0, 1) := by decide +kernel
theorem dX0_isSomebodyLeft_4 : decode cX0_isSomebodyLeft 4 = .ok (.getfield 28, 3) := by decide +kernel
theorem dX0_isSomebodyLeft_7 : decode cX0_isSomebodyLeft 7 = .ok (.getfield 105, 3) := by decide +kernel
theorem dX0_isSomebodyLeft_10 : decode cX0_isSomebodyLeft 10 = .ok (.if_icmp .ge 26, 3) := by decide +kernel
theorem dX0_isSomebodyLeft_13 : decode cX0_isSomebodyLeft 13 = .ok (.aload_n 0, 1) := by decide +kernel
theorem dX0_isSomebodyLeft_14 : decode cX0_isSomebodyLeft 14 = .ok (.aload_n 0, 1) := by decide +kernel
theorem dX0_isSomebodyLeft_15 : decode cX0_isSomebodyLeft 15 = .ok (.getfield 28, 3) := by decide +kernel
theorem dX0_isSomebodyLeft_18 : decode cX0_isSomebodyLeft 18 = .ok (.iload_n 1, 1) := by decide +kernel
theorem dX0_isSomebodyLeft_19 : decode cX0_isSomebodyLeft 19 = .ok (.invokevirtual 106, 3) := by decide +kernel
theorem dX0_isSomebodyLeft_22 : decode cX0_isSomebodyLeft 22 = .ok (.invokevirtual 61, 3) := by decide +kernel
theorem dX0_isSomebodyLeft_25 : decode cX0_isSomebodyLeft 25 = .ok (.ifCond .eq 5, 3) := by decide +kernel
theorem dX0_isSomebodyLeft_28 : decode cX0_isSomebodyLeft 28 = .ok (.iconst 1, 1) := by decide +kernel
theorem dX0_isSomebodyLeft_29 : decode cX0_isSomebodyLeft 29 = .ok (.ireturn, 1) := by decide +kernel
theorem dX0_isSomebodyLeft_30 : decode cX0_isSomebodyLeft 30 = .ok (.iinc 1 1, 3) := by decide +kernel
theorem dX0_isSomebodyLeft_33 : decode cX0_isSomebodyLeft 33 = .ok (.goto (-31), 3) := by decide +kernel
theorem dX0_isSomebodyLeft_36 : decode cX0_isSomebodyLeft 36 = .ok (.iconst 0, 1) := by decide +kernel
theorem dX0_isSomebodyLeft_37 : decode cX0_isSomebodyLeft 37 = .ok (.ireturn, 1) := by decide +kernel
theorem dX0_writePieces_0 : decode cX0_writePieces 0 = .ok (.aload_n 1, 1) := by decide +kernel
theorem dX0_writePieces_1 : decode cX0_writePieces 1 = .ok (.invokevirtual 145, 3) := by decide +kernel
theorem dX0_writePieces_4 : decode cX0_writePieces 4 = .ok (.iconst 0, 1) := by decide +kernel
theorem dX0_writePieces_5 : decode cX0_writePieces 5 = .ok (.istore_n 2, 1) := by decide +kernel
theorem dX0_writePieces_6 : decode cX0_writePieces 6 = .ok (.iload_n 2, 1) := by decide +kernel
theorem dX0_writePieces_7 : decode cX0_writePieces 7 = .ok (.bipush 64, 2) := by decide +kernel
theorem dX0_writePieces_9 : decode cX0_writePieces 9 = .ok (.if_icmp .ge 34, 3) := by decide +kernel
theorem dX0_writePieces_12 : decode cX0_writePieces 12 = .ok (.aload_n 0, 1) := by decide +kernel
theorem dX0_writePieces_13 : decode cX0_writePieces 13 = .ok (.iload_n 2, 1) := by decide +kernel
theorem dX0_writePieces_14 : decode cX0_writePieces 14 = .ok (.invokevirtual 150, 3) := by decide +kernel
theorem dX0_writePieces_17 : decode cX0_writePieces 17 = .ok (.iload_n 2, 1) := by decide +kernel
theorem dX0_writePieces_18 : decode cX0_writePieces 18 = .ok (.if_icmp .ne 19, 3) := by decide +kernel
theorem dX0_writePieces_21 : decode cX0_writePieces 21 = .ok (.iload_n 2, 1) := by decide +kernel
theorem dX0_writePieces_22 : decode cX0_writePieces 22 = .ok (.ifCond .le 9, 3) := by decide +kernel
theorem dX0_writePieces_25 : decode cX0_writePieces 25 = .ok (.aload_n 1, 1) := by decide +kernel
theorem dX0_writePieces_26 : decode cX0_writePieces 26 = .ok (.bipush 32, 2) := by decide +kernel
theorem dX0_writePieces_28 : decode cX0_writePieces 28 = .ok (.invokevirtual 153, 3) := by decide +kernel
theorem dX0_writePieces_31 : decode cX0_writePieces 31 = .ok (.aload_n 0, 1) := by decide +kernel
theorem dX0_writePieces_32 : decode cX0_writePieces 32 = .ok (.aload_n 1, 1) := by decide +kernel
theorem dX0_writePieces_33 : decode cX0_writePieces 33 = .ok (.iload_n 2, 1) := by decide +kernel
theorem dX0_writePieces_34 : decode cX0_writePieces 34 = .ok (.invokevirtual 156, 3) := by decide +kernel
theorem dX0_writePieces_37 : decode cX0_writePieces 37 = .ok (.iinc 2 1, 3) := by decide +kernel
theorem dX0_writePieces_40 : decode cX0_writePieces 40 = .ok (.goto (-34), 3) := by decide +kernel
theorem dX0_writePieces_43 : decode cX0_writePieces 43 = .ok (.return_, 1) := by decide +kernel
theorem dX0_writePiece_0 : decode cX0_writePiece 0 = .ok (.aload_n 0, 1) := by decide +kernel
theorem dX0_writePiece_1 : decode cX0_writePiece 1 = .ok (.getfield 21, 3) := by decide +kernel
theorem dX0_writePiece_4 : decode cX0_writePiece 4 = .ok (.iload_n 2, 1) := by decide +kernel
theorem dX0_writePiece_5 : decode cX0_writePiece 5 = .ok (.invokevirtual 119, 3) := by decide +kernel
theorem dX0_writePiece_8 : decode cX0_writePiece 8 = .ok (.istore_n 3, 1) := by decide +kernel
theorem dX0_writePiece_9 : decode cX0_writePiece 9 = .ok (.aload_n 1, 1) := by decide +kernel
theorem dX0_writePiece_10 : decode cX0_writePiece 10 = .ok (.aload_n 0, 1) := by decide +kernel
theorem dX0_writePiece_11 : decode cX0_writePiece 11 = .ok (.iload_n 2, 1) := by decide +kernel
theorem dX0_writePiece_12 : decode cX0_writePiece 12 = .ok (.invokevirtual 160, 3) := by decide +kernel
theorem dX0_writePiece_15 : decode cX0_writePiece 15 = .ok (.invokevirtual 163, 3) := by decide +kernel
theorem dX0_writePiece_18 : decode cX0_writePiece 18 = .ok (.iload_n 3, 1) := by decide +kernel
theorem dX0_writePiece_19 : decode cX0_writePiece 19 = .ok (.ifCond .ge 12, 3) := by decide +kernel
theorem dX0_writePiece_22 : decode cX0_writePiece 22 = .ok (.aload_n 1, 1) := by decide +kernel
theorem dX0_writePiece_23 : decode cX0_writePiece 23 = .ok (.bipush 46, 2) := by decide +kernel
theorem dX0_writePiece_25 : decode cX0_writePiece 25 = .ok (.invokevirtual 153, 3) := by decide +kernel
theorem dX0_writePiece_28 : decode cX0_writePiece 28 = .ok (.goto 14, 3) := by decide +kernel
theorem dX0_writePiece_31 : decode cX0_writePiece 31 = .ok (.aload_n 1, 1) := by decide +kernel
theorem dX0_writePiece_32 : decode cX0_writePiece 32 = .ok (.bipush 61, 2) := by decide +kernel
theorem dX0_writePiece_34 : decode cX0_writePiece 34 = .ok (.invokevirtual 153, 3) := by decide +kernel
theorem dX0_writePiece_37 : decode cX0_writePiece 37 = .ok (.aload_n 1, 1) := by decide +kernel
theorem dX0_writePiece_38 : decode cX0_writePiece 38 = .ok (.iload_n 3, 1) := by decide +kernel
theorem dX0_writePiece_39 : decode cX0_writePiece 39 = .ok (.invokevirtual 163, 3) := by decide +kernel
theorem dX0_writePiece_42 : decode cX0_writePiece 42 = .ok (.return_, 1) := by decide +kernel
theorem dX1_init_0 : decode cX1_init 0 = .ok (.aload_n 0, 1) := by decide +kernel
theorem dX1_init_1 : decode cX1_init 1 = .ok (.invokespecial 3, 3) := by decide +kernel
theorem dX1_init_4 : decode cX1_init 4 = .ok (.aload_n 0, 1) := by decide +kernel
theorem dX1_init_5 : decode cX1_init 5 = .ok (.bipush 8, 2) := by decide +kernel
theorem dX1_init_7 : decode cX1_init 7 = .ok (.anewarray 9, 3) := by decide +kernel
theorem dX1_init_10 : decode cX1_init 10 = .ok (.putfield 11, 3) := by decide +kernel
theorem dX1_init_13 : decode cX1_init 13 = .ok (.aload_n 0, 1) := by decide +kernel
theorem dX1_init_14 : decode cX1_init 14 = .ok (.iconst 0, 1) := by decide +kernel
theorem dX1_init_15 : decode cX1_init 15 = .ok (.putfield 17, 3) := by decide +kernel
theorem dX1_init_18 : decode cX1_init 18 = .ok (.aload_n 0, 1) := by decide +kernel
theorem dX1_init_19 : decode cX1_init 19 = .ok (.iconst 0, 1) := by decide +kernel
theorem dX1_init_20 : decode cX1_init 20 = .ok (.putfield 21, 3) := by decide +kernel
theorem dX1_init_23 : decode cX1_init 23 = .ok (.iconst 0, 1) := by decide +kernel
theorem dX1_init_24 : decode cX1_init 24 = .ok (.istore_n 1, 1) := by decide +kernel
theorem dX1_init_25 : decode cX1_init 25 = .ok (.iload_n 1, 1) := by decide +kernel
theorem dX1_init_26 : decode cX1_init 26 = .ok (.bipush 8, 2) := by decide +kernel
theorem dX1_init_28 : decode cX1_init 28 = .ok (.if_icmp .ge 22, 3) := by decide +kernel
theorem dX1_init_31 : decode cX1_init 31 = .ok (.aload_n 0, 1) := by decide +kernel
theorem dX1_init_32 : decode cX1_init 32 = .ok (.getfield 11, 3) := by decide +kernel
theorem dX1_init_35 : decode cX1_init 35 = .ok (.iload_n 1, 1) := by decide +kernel
theorem dX1_init_36 : decode cX1_init 36 = .ok (.new 9, 3) := by decide +kernel
theorem dX1_init_39 : decode cX1_init 39 = .ok (.dup, 1) := by decide +kernel
theorem dX1_init_40 : decode cX1_init 40 = .ok (.invokespecial 24, 3) := by decide +kernel
theorem dX1_init_43 : decode cX1_init 43 = .ok (.aastore, 1) := by decide +kernel
theorem dX1_init_44 : decode cX1_init 44 = .ok (.iinc 1 1, 3) := by decide +kernel
theorem dX1_init_47 : decode cX1_init 47 = .ok (.goto (-22), 3) := by decide +kernel
theorem dX1_init_50 : decode cX1_init 50 = .ok (.return_, 1) := by decide +kernel
theorem dX1_keep_0 : decode cX1_keep 0 = .ok (.aload_n 0, 1) := by decide +kernel
theorem dX1_keep_1 : decode cX1_keep 1 = .ok (.aload_n 0, 1) := by decide +kernel
theorem dX1_keep_2 : decode cX1_keep 2 = .ok (.getfield 17, 3) := by decide +kernel
theorem dX1_keep_5 : decode cX1_keep 5 = .ok (.invokevirtual 25, 3) := by decide +kernel
theorem dX1_keep_8 : decode cX1_keep 8 = .ok (.astore_n 2, 1) := by decide +kernel
theorem dX1_keep_9 : decode cX1_keep 9 = .ok (.aload_n 2, 1) := by decide +kernel
theorem dX1_keep_10 : decode cX1_keep 10 = .ok (.ifnull 48, 3) := by decide +kernel
theorem dX1_keep_13 : decode cX1_keep 13 = .ok (.aload_n 2, 1) := by decide +kernel
theorem dX1_keep_14 : decode cX1_keep 14 = .ok (.aload_n 1, 1) := by decide +kernel
theorem dX1_keep_15 : decode cX1_keep 15 = .ok (.invokevirtual 29, 3) := by decide +kernel
theorem dX1_keep_18 : decode cX1_keep 18 = .ok (.aload_n 0, 1) := by decide +kernel
theorem dX1_keep_19 : decode cX1_keep 19 = .ok (.aload_n 0, 1) := by decide +kernel
theorem dX1_keep_20 : decode cX1_keep 20 = .ok (.getfield 17, 3) := by decide +kernel
theorem dX1_keep_23 : decode cX1_keep 23 = .ok (.iconst 1, 1) := by decide +kernel
theorem dX1_keep_24 : decode cX1_keep 24 = .ok (.iadd, 1) := by decide +kernel
theorem dX1_keep_25 : decode cX1_keep 25 = .ok (.bipush 8, 2) := by decide +kernel
theorem dX1_keep_27 : decode cX1_keep 27 = .ok (.if_icmp .ge 12, 3) := by decide +kernel
theorem dX1_keep_30 : decode cX1_keep 30 = .ok (.aload_n 0, 1) := by decide +kernel
theorem dX1_keep_31 : decode cX1_keep 31 = .ok (.getfield 17, 3) := by decide +kernel
theorem dX1_keep_34 : decode cX1_keep 34 = .ok (.iconst 1, 1) := by decide +kernel
theorem dX1_keep_35 : decode cX1_keep 35 = .ok (.iadd, 1) := by decide +kernel
theorem dX1_keep_36 : decode cX1_keep 36 = .ok (.goto 4, 3) := by decide +kernel
theorem dX1_keep_39 : decode cX1_keep 39 = .ok (.iconst 0, 1) := by decide +kernel
theorem dX1_keep_40 : decode cX1_keep 40 = .ok (.putfield 17, 3) := by decide +kernel
theorem dX1_keep_43 : decode cX1_keep 43 = .ok (.aload_n 0, 1) := by decide +kernel
theorem dX1_keep_44 : decode cX1_keep 44 = .ok (.aload_n 0, 1) := by decide +kernel
theorem dX1_keep_45 : decode cX1_keep 45 = .ok (.getfield 21, 3) := by decide +kernel
theorem dX1_keep_48 : decode cX1_keep 48 = .ok (.iconst 1, 1) := by decide +kernel
theorem dX1_keep_49 : decode cX1_keep 49 = .ok (.iadd, 1) := by decide +kernel
theorem dX1_keep_50 : decode cX1_keep 50 = .ok (.bipush 8, 2) := by decide +kernel
theorem dX1_keep_52 : decode cX1_keep 52 = .ok (.invokestatic 33, 3) := by decide +kernel
theorem dX1_keep_55 : decode cX1_keep 55 = .ok (.putfield 21, 3) := by decide +kernel
theorem dX1_keep_58 : decode cX1_keep 58 = .ok (.return_, 1) := by decide +kernel
theorem dX1_takeBack_0 : decode cX1_takeBack 0 = .ok (.aload_n 0, 1) := by decide +kernel
theorem dX1_takeBack_1 : decode cX1_takeBack 1 = .ok (.getfield 17, 3) := by decide +kernel
theorem dX1_takeBack_4 : decode cX1_takeBack 4 = .ok (.ifCond .le 12, 3) := by decide +kernel
theorem dX1_takeBack_7 : decode cX1_takeBack 7 = .ok (.aload_n 0, 1) := by decide +kernel
theorem dX1_takeBack_8 : decode cX1_takeBack 8 = .ok (.getfield 17, 3) := by decide +kernel
theorem dX1_takeBack_11 : decode cX1_takeBack 11 = .ok (.iconst 1, 1) := by decide +kernel
theorem dX1_takeBack_12 : decode cX1_takeBack 12 = .ok (.isub, 1) := by decide +kernel
theorem dX1_takeBack_13 : decode cX1_takeBack 13 = .ok (.goto 5, 3) := by decide +kernel
theorem dX1_takeBack_16 : decode cX1_takeBack 16 = .ok (.bipush 7, 2) := by decide +kernel
theorem dX1_takeBack_18 : decode cX1_takeBack 18 = .ok (.istore_n 2, 1) := by decide +kernel
theorem dX1_takeBack_19 : decode cX1_takeBack 19 = .ok (.aload_n 0, 1) := by decide +kernel
theorem dX1_takeBack_20 : decode cX1_takeBack 20 = .ok (.iload_n 2, 1) := by decide +kernel
theorem dX1_takeBack_21 : decode cX1_takeBack 21 = .ok (.invokevirtual 25, 3) := by decide +kernel
theorem dX1_takeBack_24 : decode cX1_takeBack 24 = .ok (.astore_n 3, 1) := by decide +kernel
theorem dX1_takeBack_25 : decode cX1_takeBack 25 = .ok (.aload_n 3, 1) := by decide +kernel
theorem dX1_takeBack_26 : decode cX1_takeBack 26 = .ok (.ifnull 30, 3) := by decide +kernel
theorem dX1_takeBack_29 : decode cX1_takeBack 29 = .ok (.aload_n 0, 1) := by decide +kernel
theorem dX1_takeBack_30 : decode cX1_takeBack 30 = .ok (.getfield 21, 3) := by decide +kernel
theorem dX1_takeBack_33 : decode cX1_takeBack 33 = .ok (.ifCond .le 23, 3) := by decide +kernel
theorem dX1_takeBack_36 : decode cX1_takeBack 36 = .ok (.aload_n 1, 1) := by decide +kernel
theorem dX1_takeBack_37 : decode cX1_takeBack 37 = .ok (.aload_n 3, 1) := by decide +kernel
theorem dX1_takeBack_38 : decode cX1_takeBack 38 = .ok (.invokevirtual 29, 3) := by decide +kernel
theorem dX1_takeBack_41 : decode cX1_takeBack 41 = .ok (.aload_n 0, 1) := by decide +kernel
theorem dX1_takeBack_42 : decode cX1_takeBack 42 = .ok (.iload_n 2, 1) := by decide +kernel
theorem dX1_takeBack_43 : decode cX1_takeBack 43 = .ok (.putfield 17, 3) := by decide +kernel
theorem dX1_takeBack_46 : decode cX1_takeBack 46 = .ok (.aload_n 0, 1) := by decide +kernel
theorem dX1_takeBack_47 : decode cX1_takeBack 47 = .ok (.dup, 1) := by decide +kernel
theorem dX1_takeBack_48 : decode cX1_takeBack 48 = .ok (.getfield 21, 3) := by decide +kernel
theorem dX1_takeBack_51 : decode cX1_takeBack 51 = .ok (.iconst 1, 1) := by decide +kernel
theorem dX1_takeBack_52 : decode cX1_takeBack 52 = .ok (.isub, 1) := by decide +kernel
theorem dX1_takeBack_53 : decode cX1_takeBack 53 = .ok (.putfield 21, 3) := by decide +kernel
theorem dX1_takeBack_56 : decode cX1_takeBack 56 = .ok (.return_, 1) := by decide +kernel
theorem dX1_keptAt_0 : decode cX1_keptAt 0 = .ok (.iload_n 1, 1) := by decide +kernel
theorem dX1_keptAt_1 : decode cX1_keptAt 1 = .ok (.ifCond .lt 18, 3) := by decide +kernel
theorem dX1_keptAt_4 : decode cX1_keptAt 4 = .ok (.iload_n 1, 1) := by decide +kernel
theorem dX1_keptAt_5 : decode cX1_keptAt 5 = .ok (.bipush 8, 2) := by decide +kernel
theorem dX1_keptAt_7 : decode cX1_keptAt 7 = .ok (.if_icmp .ge 12, 3) := by decide +kernel
theorem dX1_keptAt_10 : decode cX1_keptAt 10 = .ok (.aload_n 0, 1) := by decide +kernel
theorem dX1_keptAt_11 : decode cX1_keptAt 11 = .ok (.getfield 11, 3) := by decide +kernel
theorem dX1_keptAt_14 : decode cX1_keptAt 14 = .ok (.iload_n 1, 1) := by decide +kernel
theorem dX1_keptAt_15 : decode cX1_keptAt 15 = .ok (.aaload, 1) := by decide +kernel
theorem dX1_keptAt_16 : decode cX1_keptAt 16 = .ok (.goto 4, 3) := by decide +kernel
theorem dX1_keptAt_19 : decode cX1_keptAt 19 = .ok (.aconst_null, 1) := by decide +kernel
theorem dX1_keptAt_20 : decode cX1_keptAt 20 = .ok (.areturn, 1) := by decide +kernel
theorem dX1_clear_0 : decode cX1_clear 0 = .ok (.aload_n 0, 1) := by decide +kernel
theorem dX1_clear_1 : decode cX1_clear 1 = .ok (.iconst 0, 1) := by decide +kernel
theorem dX1_clear_2 : decode cX1_clear 2 = .ok (.putfield 21, 3) := by decide +kernel
theorem dX1_clear_5 : decode cX1_clear 5 = .ok (.return_, 1) := by decide +kernel
theorem dX2_init_0 : decode cX2_init 0 = .ok (.aload_n 0, 1) := by decide +kernel
theorem dX2_init_1 : decode cX2_init 1 = .ok (.invokespecial 3, 3) := by decide +kernel
theorem dX2_init_4 : decode cX2_init 4 = .ok (.aload_n 0, 1) := by decide +kernel
theorem dX2_init_5 : decode cX2_init 5 = .ok (.sipush 384, 3) := by decide +kernel
theorem dX2_init_8 : decode cX2_init 8 = .ok (.newarray .char, 2) := by decide +kernel
theorem dX2_init_10 : decode cX2_init 10 = .ok (.putfield 9, 3) := by decide +kernel
theorem dX2_init_13 : decode cX2_init 13 = .ok (.aload_n 0, 1) := by decide +kernel
theorem dX2_init_14 : decode cX2_init 14 = .ok (.iconst 0, 1) := by decide +kernel
theorem dX2_init_15 : decode cX2_init 15 = .ok (.putfield 15, 3) := by decide +kernel
theorem dX2_init_18 : decode cX2_init 18 = .ok (.return_, 1) := by decide +kernel
theorem dX2_clear_0 : decode cX2_clear 0 = .ok (.aload_n 0, 1) := by decide +kernel
theorem dX2_clear_1 : decode cX2_clear 1 = .ok (.iconst 0, 1) := by decide +kernel
theorem dX2_clear_2 : decode cX2_clear 2 = .ok (.putfield 15, 3) := by decide +kernel
theorem dX2_clear_5 : decode cX2_clear 5 = .ok (.return_, 1) := by decide +kernel
theorem dX2_has_0 : decode cX2_has 0 = .ok (.iload_n 1, 1) := by decide +kernel
theorem dX2_has_1 : decode cX2_has 1 = .ok (.ifCond .lt 22, 3) := by decide +kernel
theorem dX2_has_4 : decode cX2_has 4 = .ok (.iload_n 1, 1) := by decide +kernel
theorem dX2_has_5 : decode cX2_has 5 = .ok (.aload_n 0, 1) := by decide +kernel
theorem dX2_has_6 : decode cX2_has 6 = .ok (.getfield 15, 3) := by decide +kernel
theorem dX2_has_9 : decode cX2_has 9 = .ok (.if_icmp .ge 14, 3) := by decide +kernel
theorem dX2_has_12 : decode cX2_has 12 = .ok (.iload_n 1, 1) := by decide +kernel
theorem dX2_has_13 : decode cX2_has 13 = .ok (.sipush 384, 3) := by decide +kernel
theorem dX2_has_16 : decode cX2_has 16 = .ok (.if_icmp .ge 7, 3) := by decide +kernel
theorem dX2_has_19 : decode cX2_has 19 = .ok (.iconst 1, 1) := by decide +kernel
theorem dX2_has_20 : decode cX2_has 20 = .ok (.goto 4, 3) := by decide +kernel
theorem dX2_has_23 : decode cX2_has 23 = .ok (.iconst 0, 1) := by decide +kernel
theorem dX2_has_24 : decode cX2_has 24 = .ok (.ireturn, 1) := by decide +kernel
theorem dX2_signAt_0 : decode cX2_signAt 0 = .ok (.aload_n 0, 1) := by decide +kernel
theorem dX2_signAt_1 : decode cX2_signAt 1 = .ok (.iload_n 1, 1) := by decide +kernel
theorem dX2_signAt_2 : decode cX2_signAt 2 = .ok (.invokevirtual 19, 3) := by decide +kernel
theorem dX2_signAt_5 : decode cX2_signAt 5 = .ok (.ifCond .eq 12, 3) := by decide +kernel
theorem dX2_signAt_8 : decode cX2_signAt 8 = .ok (.aload_n 0, 1) := by decide +kernel
theorem dX2_signAt_9 : decode cX2_signAt 9 = .ok (.getfield 9, 3) := by decide +kernel
theorem dX2_signAt_12 : decode cX2_signAt 12 = .ok (.iload_n 1, 1) := by decide +kernel
theorem dX2_signAt_13 : decode cX2_signAt 13 = .ok (.caload, 1) := by decide +kernel
theorem dX2_signAt_14 : decode cX2_signAt 14 = .ok (.goto 5, 3) := by decide +kernel
theorem dX2_signAt_17 : decode cX2_signAt 17 = .ok (.bipush 32, 2) := by decide +kernel
theorem dX2_signAt_19 : decode cX2_signAt 19 = .ok (.ireturn, 1) := by decide +kernel
theorem dX2_put_0 : decode cX2_put 0 = .ok (.aload_n 0, 1) := by decide +kernel
theorem dX2_put_1 : decode cX2_put 1 = .ok (.getfield 15, 3) := by decide +kernel
theorem dX2_put_4 : decode cX2_put 4 = .ok (.ifCond .lt 33, 3) := by decide +kernel
theorem dX2_put_7 : decode cX2_put 7 = .ok (.aload_n 0, 1) := by decide +kernel
theorem dX2_put_8 : decode cX2_put 8 = .ok (.getfield 15, 3) := by decide +kernel
theorem dX2_put_11 : decode cX2_put 11 = .ok (.sipush 384, 3) := by decide +kernel
theorem dX2_put_14 : decode cX2_put 14 = .ok (.if_icmp .ge 23, 3) := by decide +kernel
theorem dX2_put_17 : decode cX2_put 17 = .ok (.aload_n 0, 1) := by decide +kernel
theorem dX2_put_18 : decode cX2_put 18 = .ok (.getfield 9, 3) := by decide +kernel
theorem dX2_put_21 : decode cX2_put 21 = .ok (.aload_n 0, 1) := by decide +kernel
theorem dX2_put_22 : decode cX2_put 22 = .ok (.getfield 15, 3) := by decide +kernel
theorem dX2_put_25 : decode cX2_put 25 = .ok (.iload_n 1, 1) := by decide +kernel
theorem dX2_put_26 : decode cX2_put 26 = .ok (.castore, 1) := by decide +kernel
theorem dX2_put_27 : decode cX2_put 27 = .ok (.aload_n 0, 1) := by decide +kernel
theorem dX2_put_28 : decode cX2_put 28 = .ok (.dup, 1) := by decide +kernel
theorem dX2_put_29 : decode cX2_put 29 = .ok (.getfield 15, 3) := by decide +kernel
theorem dX2_put_32 : decode cX2_put 32 = .ok (.iconst 1, 1) := by decide +kernel
theorem dX2_put_33 : decode cX2_put 33 = .ok (.iadd, 1) := by decide +kernel
theorem dX2_put_34 : decode cX2_put 34 = .ok (.putfield 15, 3) := by decide +kernel
theorem dX2_put_37 : decode cX2_put 37 = .ok (.return_, 1) := by decide +kernel
theorem dX2_putNumber_0 : decode cX2_putNumber 0 = .ok (.iload_n 1, 1) := by decide +kernel
theorem dX2_putNumber_1 : decode cX2_putNumber 1 = .ok (.bipush 10, 2) := by decide +kernel
theorem dX2_putNumber_3 : decode cX2_putNumber 3 = .ok (.if_icmp .lt 15, 3) := by decide +kernel
theorem dX2_putNumber_6 : decode cX2_putNumber 6 = .ok (.aload_n 0, 1) := by decide +kernel
theorem dX2_putNumber_7 : decode cX2_putNumber 7 = .ok (.bipush 48, 2) := by decide +kernel
theorem dX2_putNumber_9 : decode cX2_putNumber 9 = .ok (.iload_n 1, 1) := by decide +kernel
theorem dX2_putNumber_10 : decode cX2_putNumber 10 = .ok (.bipush 10, 2) := by decide +kernel
theorem dX2_putNumber_12 : decode cX2_putNumber 12 = .ok (.idiv, 1) := by decide +kernel
theorem dX2_putNumber_13 : decode cX2_putNumber 13 = .ok (.iadd, 1) := by decide +kernel
theorem dX2_putNumber_14 : decode cX2_putNumber 14 = .ok (.i2c, 1) := by decide +kernel
theorem dX2_putNumber_15 : decode cX2_putNumber 15 = .ok (.invokevirtual 23, 3) := by decide +kernel
theorem dX2_putNumber_18 : decode cX2_putNumber 18 = .ok (.aload_n 0, 1) := by decide +kernel
theorem dX2_putNumber_19 : decode cX2_putNumber 19 = .ok (.bipush 48, 2) := by decide +kernel
theorem dX2_putNumber_21 : decode cX2_putNumber 21 = .ok (.iload_n 1, 1) := by decide +kernel
theorem dX2_putNumber_22 : decode cX2_putNumber 22 = .ok (.bipush 10, 2) := by decide +kernel
theorem dX2_putNumber_24 : decode cX2_putNumber 24 = .ok (.irem, 1) := by decide +kernel
theorem dX2_putNumber_25 : decode cX2_putNumber 25 = .ok (.iadd, 1) := by decide +kernel
theorem dX2_putNumber_26 : decode cX2_putNumber 26 = .ok (.i2c, 1) := by decide +kernel
theorem dX2_putNumber_27 : decode cX2_putNumber 27 = .ok (.invokevirtual 23, 3) := by decide +kernel
theorem dX2_putNumber_30 : decode cX2_putNumber 30 = .ok (.return_, 1) := by decide +kernel
theorem dX3_init_0 : decode cX3_init 0 = .ok (.aload_n 0, 1) := by decide +kernel
theorem dX3_init_1 : decode cX3_init 1 = .ok (.invokespecial 3, 3) := by decide +kernel
theorem dX3_init_4 : decode cX3_init 4 = .ok (.aload_n 0, 1) := by decide +kernel
theorem dX3_init_5 : decode cX3_init 5 = .ok (.bipush 16, 2) := by decide +kernel
theorem dX3_init_7 : decode cX3_init 7 = .ok (.newarray .int, 2) := by decide +kernel
theorem dX3_init_9 : decode cX3_init 9 = .ok (.putfield 9, 3) := by decide +kernel
theorem dX3_init_12 : decode cX3_init 12 = .ok (.aload_n 0, 1) := by decide +kernel
theorem dX3_init_13 : decode cX3_init 13 = .ok (.bipush 16, 2) := by decide +kernel
theorem dX3_init_15 : decode cX3_init 15 = .ok (.newarray .int, 2) := by decide +kernel
theorem dX3_init_17 : decode cX3_init 17 = .ok (.putfield 15, 3) := by decide +kernel
theorem dX3_init_20 : decode cX3_init 20 = .ok (.aload_n 0, 1) := by decide +kernel
theorem dX3_init_21 : decode cX3_init 21 = .ok (.bipush 16, 2) := by decide +kernel
theorem dX3_init_23 : decode cX3_init 23 = .ok (.newarray .int, 2) := by decide +kernel
theorem dX3_init_25 : decode cX3_init 25 = .ok (.putfield 18, 3) := by decide +kernel
theorem dX3_init_28 : decode cX3_init 28 = .ok (.aload_n 0, 1) := by decide +kernel
theorem dX3_init_29 : decode cX3_init 29 = .ok (.bipush 16, 2) := by decide +kernel
theorem dX3_init_31 : decode cX3_init 31 = .ok (.newarray .int, 2) := by decide +kernel
theorem dX3_init_33 : decode cX3_init 33 = .ok (.putfield 21, 3) := by decide +kernel
theorem dX3_init_36 : decode cX3_init 36 = .ok (.aload_n 0, 1) := by decide +kernel
theorem dX3_init_37 : decode cX3_init 37 = .ok (.iconst 0, 1) := by decide +kernel
theorem dX3_init_38 : decode cX3_init 38 = .ok (.putfield 24, 3) := by decide +kernel
theorem dX3_init_41 : decode cX3_init 41 = .ok (.return_, 1) := by decide +kernel
theorem dX3_copyFrom_0 : decode cX3_copyFrom 0 = .ok (.aload_n 1, 1) := by decide +kernel
theorem dX3_copyFrom_1 : decode cX3_copyFrom 1 = .ok (.getfield 9, 3) := by decide +kernel
theorem dX3_copyFrom_4 : decode cX3_copyFrom 4 = .ok (.iconst 0, 1) := by decide +kernel
theorem dX3_copyFrom_5 : decode cX3_copyFrom 5 = .ok (.aload_n 0, 1) := by decide +kernel
theorem dX3_copyFrom_6 : decode cX3_copyFrom 6 = .ok (.getfield 9, 3) := by decide +kernel
theorem dX3_copyFrom_9 : decode cX3_copyFrom 9 = .ok (.iconst 0, 1) := by decide +kernel
theorem dX3_copyFrom_10 : decode cX3_copyFrom 10 = .ok (.bipush 16, 2) := by decide +kernel
theorem dX3_copyFrom_12 : decode cX3_copyFrom 12 = .ok (.invokestatic 28, 3) := by decide +kernel
theorem dX3_copyFrom_15 : decode cX3_copyFrom 15 = .ok (.aload_n 1, 1) := by decide +kernel
theorem dX3_copyFrom_16 : decode cX3_copyFrom 16 = .ok (.getfield 15, 3) := by decide +kernel
theorem dX3_copyFrom_19 : decode cX3_copyFrom 19 = .ok (.iconst 0, 1) := by decide +kernel
theorem dX3_copyFrom_20 : decode cX3_copyFrom 20 = .ok (.aload_n 0, 1) := by decide +kernel
theorem dX3_copyFrom_21 : decode cX3_copyFrom 21 = .ok (.getfield 15, 3) := by decide +kernel
theorem dX3_copyFrom_24 : decode cX3_copyFrom 24 = .ok (.iconst 0, 1) := by decide +kernel
theorem dX3_copyFrom_25 : decode cX3_copyFrom 25 = .ok (.bipush 16, 2) := by decide +kernel
theorem dX3_copyFrom_27 : decode cX3_copyFrom 27 = .ok (.invokestatic 28, 3) := by decide +kernel
theorem dX3_copyFrom_30 : decode cX3_copyFrom 30 = .ok (.aload_n 1, 1) := by decide +kernel
theorem dX3_copyFrom_31 : decode cX3_copyFrom 31 = .ok (.getfield 18, 3) := by decide +kernel
theorem dX3_copyFrom_34 : decode cX3_copyFrom 34 = .ok (.iconst 0, 1) := by decide +kernel
theorem dX3_copyFrom_35 : decode cX3_copyFrom 35 = .ok (.aload_n 0, 1) := by decide +kernel
theorem dX3_copyFrom_36 : decode cX3_copyFrom 36 = .ok (.getfield 18, 3) := by decide +kernel
theorem dX3_copyFrom_39 : decode cX3_copyFrom 39 = .ok (.iconst 0, 1) := by decide +kernel
theorem dX3_copyFrom_40 : decode cX3_copyFrom 40 = .ok (.bipush 16, 2) := by decide +kernel
theorem dX3_copyFrom_42 : decode cX3_copyFrom 42 = .ok (.invokestatic 28, 3) := by decide +kernel
theorem dX3_copyFrom_45 : decode cX3_copyFrom 45 = .ok (.aload_n 1, 1) := by decide +kernel
theorem dX3_copyFrom_46 : decode cX3_copyFrom 46 = .ok (.getfield 21, 3) := by decide +kernel
theorem dX3_copyFrom_49 : decode cX3_copyFrom 49 = .ok (.iconst 0, 1) := by decide +kernel
theorem dX3_copyFrom_50 : decode cX3_copyFrom 50 = .ok (.aload_n 0, 1) := by decide +kernel
theorem dX3_copyFrom_51 : decode cX3_copyFrom 51 = .ok (.getfield 21, 3) := by decide +kernel
theorem dX3_copyFrom_54 : decode cX3_copyFrom 54 = .ok (.iconst 0, 1) := by decide +kernel
theorem dX3_copyFrom_55 : decode cX3_copyFrom 55 = .ok (.bipush 16, 2) := by decide +kernel
theorem dX3_copyFrom_57 : decode cX3_copyFrom 57 = .ok (.invokestatic 28, 3) := by decide +kernel
theorem dX3_copyFrom_60 : decode cX3_copyFrom 60 = .ok (.aload_n 0, 1) := by decide +kernel
theorem dX3_copyFrom_61 : decode cX3_copyFrom 61 = .ok (.aload_n 1, 1) := by decide +kernel
theorem dX3_copyFrom_62 : decode cX3_copyFrom 62 = .ok (.getfield 24, 3) := by decide +kernel
theorem dX3_copyFrom_65 : decode cX3_copyFrom 65 = .ok (.putfield 24, 3) := by decide +kernel
theorem dX3_copyFrom_68 : decode cX3_copyFrom 68 = .ok (.return_, 1) := by decide +kernel
theorem dX3_has_0 : decode cX3_has 0 = .ok (.iload_n 1, 1) := by decide +kernel
theorem dX3_has_1 : decode cX3_has 1 = .ok (.ifCond .lt 21, 3) := by decide +kernel
theorem dX3_has_4 : decode cX3_has 4 = .ok (.iload_n 1, 1) := by decide +kernel
theorem dX3_has_5 : decode cX3_has 5 = .ok (.aload_n 0, 1) := by decide +kernel
theorem dX3_has_6 : decode cX3_has 6 = .ok (.getfield 24, 3) := by decide +kernel
theorem dX3_has_9 : decode cX3_has 9 = .ok (.if_icmp .ge 13, 3) := by decide +kernel
theorem dX3_has_12 : decode cX3_has 12 = .ok (.iload_n 1, 1) := by decide +kernel
theorem dX3_has_13 : decode cX3_has 13 = .ok (.bipush 16, 2) := by decide +kernel
theorem dX3_has_15 : decode cX3_has 15 = .ok (.if_icmp .ge 7, 3) := by decide +kernel
theorem dX3_has_18 : decode cX3_has 18 = .ok (.iconst 1, 1) := by decide +kernel
theorem dX3_has_19 : decode cX3_has 19 = .ok (.goto 4, 3) := by decide +kernel
theorem dX3_has_22 : decode cX3_has 22 = .ok (.iconst 0, 1) := by decide +kernel
theorem dX3_has_23 : decode cX3_has 23 = .ok (.ireturn, 1) := by decide +kernel
theorem dX3_nameAt_0 : decode cX3_nameAt 0 = .ok (.aload_n 0, 1) := by decide +kernel
theorem dX3_nameAt_1 : decode cX3_nameAt 1 = .ok (.iload_n 1, 1) := by decide +kernel
theorem dX3_nameAt_2 : decode cX3_nameAt 2 = .ok (.invokevirtual 34, 3) := by decide +kernel
theorem dX3_nameAt_5 : decode cX3_nameAt 5 = .ok (.ifCond .eq 12, 3) := by decide +kernel
theorem dX3_nameAt_8 : decode cX3_nameAt 8 = .ok (.aload_n 0, 1) := by decide +kernel
theorem dX3_nameAt_9 : decode cX3_nameAt 9 = .ok (.getfield 9, 3) := by decide +kernel
theorem dX3_nameAt_12 : decode cX3_nameAt 12 = .ok (.iload_n 1, 1) := by decide +kernel
theorem dX3_nameAt_13 : decode cX3_nameAt 13 = .ok (.iaload, 1) := by decide +kernel
theorem dX3_nameAt_14 : decode cX3_nameAt 14 = .ok (.goto 4, 3) := by decide +kernel
theorem dX3_nameAt_17 : decode cX3_nameAt 17 = .ok (.iconst (-1), 1) := by decide +kernel
theorem dX3_nameAt_18 : decode cX3_nameAt 18 = .ok (.ireturn, 1) := by decide +kernel
theorem dX3_amountAt_0 : decode cX3_amountAt 0 = .ok (.aload_n 0, 1) := by decide +kernel
theorem dX3_amountAt_1 : decode cX3_amountAt 1 = .ok (.iload_n 1, 1) := by decide +kernel
theorem dX3_amountAt_2 : decode cX3_amountAt 2 = .ok (.invokevirtual 34, 3) := by decide +kernel
theorem dX3_amountAt_5 : decode cX3_amountAt 5 = .ok (.ifCond .eq 12, 3) := by decide +kernel
theorem dX3_amountAt_8 : decode cX3_amountAt 8 = .ok (.aload_n 0, 1) := by decide +kernel
theorem dX3_amountAt_9 : decode cX3_amountAt 9 = .ok (.getfield 15, 3) := by decide +kernel
theorem dX3_amountAt_12 : decode cX3_amountAt 12 = .ok (.iload_n 1, 1) := by decide +kernel
theorem dX3_amountAt_13 : decode cX3_amountAt 13 = .ok (.iaload, 1) := by decide +kernel
theorem dX3_amountAt_14 : decode cX3_amountAt 14 = .ok (.goto 4, 3) := by decide +kernel
theorem dX3_amountAt_17 : decode cX3_amountAt 17 = .ok (.iconst 0, 1) := by decide +kernel
theorem dX3_amountAt_18 : decode cX3_amountAt 18 = .ok (.ireturn, 1) := by decide +kernel
theorem dX3_startAt_0 : decode cX3_startAt 0 = .ok (.aload_n 0, 1) := by decide +kernel
theorem dX3_startAt_1 : decode cX3_startAt 1 = .ok (.iload_n 1, 1) := by decide +kernel
theorem dX3_startAt_2 : decode cX3_startAt 2 = .ok (.invokevirtual 34, 3) := by decide +kernel
theorem dX3_startAt_5 : decode cX3_startAt 5 = .ok (.ifCond .eq 12, 3) := by decide +kernel
theorem dX3_startAt_8 : decode cX3_startAt 8 = .ok (.aload_n 0, 1) := by decide +kernel
theorem dX3_startAt_9 : decode cX3_startAt 9 = .ok (.getfield 18, 3) := by decide +kernel
theorem dX3_startAt_12 : decode cX3_startAt 12 = .ok (.iload_n 1, 1) := by decide +kernel
theorem dX3_startAt_13 : decode cX3_startAt 13 = .ok (.iaload, 1) := by decide +kernel
theorem dX3_startAt_14 : decode cX3_startAt 14 = .ok (.goto 4, 3) := by decide +kernel
theorem dX3_startAt_17 : decode cX3_startAt 17 = .ok (.iconst (-1), 1) := by decide +kernel
theorem dX3_startAt_18 : decode cX3_startAt 18 = .ok (.ireturn, 1) := by decide +kernel
theorem dX3_sizeAt_0 : decode cX3_sizeAt 0 = .ok (.aload_n 0, 1) := by decide +kernel
theorem dX3_sizeAt_1 : decode cX3_sizeAt 1 = .ok (.iload_n 1, 1) := by decide +kernel
theorem dX3_sizeAt_2 : decode cX3_sizeAt 2 = .ok (.invokevirtual 34, 3) := by decide +kernel
theorem dX3_sizeAt_5 : decode cX3_sizeAt 5 = .ok (.ifCond .eq 12, 3) := by decide +kernel
theorem dX3_sizeAt_8 : decode cX3_sizeAt 8 = .ok (.aload_n 0, 1) := by decide +kernel
theorem dX3_sizeAt_9 : decode cX3_sizeAt 9 = .ok (.getfield 21, 3) := by decide +kernel
theorem dX3_sizeAt_12 : decode cX3_sizeAt 12 = .ok (.iload_n 1, 1) := by decide +kernel
theorem dX3_sizeAt_13 : decode cX3_sizeAt 13 = .ok (.iaload, 1) := by decide +kernel
theorem dX3_sizeAt_14 : decode cX3_sizeAt 14 = .ok (.goto 4, 3) := by decide +kernel
theorem dX3_sizeAt_17 : decode cX3_sizeAt 17 = .ok (.iconst 0, 1) := by decide +kernel
theorem dX3_sizeAt_18 : decode cX3_sizeAt 18 = .ok (.ireturn, 1) := by decide +kernel
theorem dX3_add_0 : decode cX3_add 0 = .ok (.iload_n 3, 1) := by decide +kernel
theorem dX3_add_1 : decode cX3_add 1 = .ok (.ifCond .lt 19, 3) := by decide +kernel
theorem dX3_add_4 : decode cX3_add 4 = .ok (.aload_n 0, 1) := by decide +kernel
theorem dX3_add_5 : decode cX3_add 5 = .ok (.getfield 24, 3) := by decide +kernel
theorem dX3_add_8 : decode cX3_add 8 = .ok (.ifCond .lt 12, 3) := by decide +kernel
theorem dX3_add_11 : decode cX3_add 11 = .ok (.aload_n 0, 1) := by decide +kernel
theorem dX3_add_12 : decode cX3_add 12 = .ok (.getfield 24, 3) := by decide +kernel
theorem dX3_add_15 : decode cX3_add 15 = .ok (.bipush 16, 2) := by decide +kernel
theorem dX3_add_17 : decode cX3_add 17 = .ok (.if_icmp .lt 5, 3) := by decide +kernel
theorem dX3_add_20 : decode cX3_add 20 = .ok (.iconst (-1), 1) := by decide +kernel
theorem dX3_add_21 : decode cX3_add 21 = .ok (.ireturn, 1) := by decide +kernel
theorem dX3_add_22 : decode cX3_add 22 = .ok (.aload_n 0, 1) := by decide +kernel
theorem dX3_add_23 : decode cX3_add 23 = .ok (.getfield 9, 3) := by decide +kernel
theorem dX3_add_26 : decode cX3_add 26 = .ok (.aload_n 0, 1) := by decide +kernel
theorem dX3_add_27 : decode cX3_add 27 = .ok (.getfield 24, 3) := by decide +kernel
theorem dX3_add_30 : decode cX3_add 30 = .ok (.iload_n 1, 1) := by decide +kernel
theorem dX3_add_31 : decode cX3_add 31 = .ok (.iastore, 1) := by decide +kernel
theorem dX3_add_32 : decode cX3_add 32 = .ok (.aload_n 0, 1) := by decide +kernel
theorem dX3_add_33 : decode cX3_add 33 = .ok (.dup, 1) := by decide +kernel
theorem dX3_add_34 : decode cX3_add 34 = .ok (.getfield 24, 3) := by decide +kernel
theorem dX3_add_37 : decode cX3_add 37 = .ok (.iconst 1, 1) := by decide +kernel
theorem dX3_add_38 : decode cX3_add 38 = .ok (.iadd, 1) := by decide +kernel
theorem dX3_add_39 : decode cX3_add 39 = .ok (.putfield 24, 3) := by decide +kernel
theorem dX3_add_42 : decode cX3_add 42 = .ok (.aload_n 0, 1) := by decide +kernel
theorem dX3_add_43 : decode cX3_add 43 = .ok (.aload_n 0, 1) := by decide +kernel
theorem dX3_add_44 : decode cX3_add 44 = .ok (.getfield 24, 3) := by decide +kernel
theorem dX3_add_47 : decode cX3_add 47 = .ok (.iconst 1, 1) := by decide +kernel
theorem dX3_add_48 : decode cX3_add 48 = .ok (.isub, 1) := by decide +kernel
theorem dX3_add_49 : decode cX3_add 49 = .ok (.iload_n 2, 1) := by decide +kernel
theorem dX3_add_50 : decode cX3_add 50 = .ok (.iload_n 3, 1) := by decide +kernel
theorem dX3_add_51 : decode cX3_add 51 = .ok (.iload 4, 2) := by decide +kernel
theorem dX3_add_53 : decode cX3_add 53 = .ok (.invokevirtual 38, 3) := by decide +kernel
theorem dX3_add_56 : decode cX3_add 56 = .ok (.aload_n 0, 1) := by decide +kernel
theorem dX3_add_57 : decode cX3_add 57 = .ok (.getfield 24, 3) := by decide +kernel
theorem dX3_add_60 : decode cX3_add 60 = .ok (.iconst 1, 1) := by decide +kernel
theorem dX3_add_61 : decode cX3_add 61 = .ok (.isub, 1) := by decide +kernel
theorem dX3_add_62 : decode cX3_add 62 = .ok (.ireturn, 1) := by decide +kernel
theorem dX3_put_0 : decode cX3_put 0 = .ok (.aload_n 0, 1) := by decide +kernel
theorem dX3_put_1 : decode cX3_put 1 = .ok (.iload_n 1, 1) := by decide +kernel
theorem dX3_put_2 : decode cX3_put 2 = .ok (.invokevirtual 34, 3) := by decide +kernel
theorem dX3_put_5 : decode cX3_put 5 = .ok (.ifCond .eq 25, 3) := by decide +kernel
theorem dX3_put_8 : decode cX3_put 8 = .ok (.aload_n 0, 1) := by decide +kernel
theorem dX3_put_9 : decode cX3_put 9 = .ok (.getfield 15, 3) := by decide +kernel
theorem dX3_put_12 : decode cX3_put 12 = .ok (.iload_n 1, 1) := by decide +kernel
theorem dX3_put_13 : decode cX3_put 13 = .ok (.iload_n 2, 1) := by decide +kernel
theorem dX3_put_14 : decode cX3_put 14 = .ok (.iastore, 1) := by decide +kernel
theorem dX3_put_15 : decode cX3_put 15 = .ok (.aload_n 0, 1) := by decide +kernel
theorem dX3_put_16 : decode cX3_put 16 = .ok (.getfield 18, 3) := by decide +kernel
theorem dX3_put_19 : decode cX3_put 19 = .ok (.iload_n 1, 1) := by decide +kernel
theorem dX3_put_20 : decode cX3_put 20 = .ok (.iload_n 3, 1) := by decide +kernel
theorem dX3_put_21 : decode cX3_put 21 = .ok (.iastore, 1) := by decide +kernel
theorem dX3_put_22 : decode cX3_put 22 = .ok (.aload_n 0, 1) := by decide +kernel
theorem dX3_put_23 : decode cX3_put 23 = .ok (.getfield 21, 3) := by decide +kernel
theorem dX3_put_26 : decode cX3_put 26 = .ok (.iload_n 1, 1) := by decide +kernel
theorem dX3_put_27 : decode cX3_put 27 = .ok (.iload 4, 2) := by decide +kernel
theorem dX3_put_29 : decode cX3_put 29 = .ok (.iastore, 1) := by decide +kernel
theorem dX3_put_30 : decode cX3_put 30 = .ok (.return_, 1) := by decide +kernel
theorem dX3_remove_0 : decode cX3_remove 0 = .ok (.aload_n 0, 1) := by decide +kernel
theorem dX3_remove_1 : decode cX3_remove 1 = .ok (.iload_n 1, 1) := by decide +kernel
theorem dX3_remove_2 : decode cX3_remove 2 = .ok (.invokevirtual 34, 3) := by decide +kernel
theorem dX3_remove_5 : decode cX3_remove 5 = .ok (.ifCond .ne 4, 3) := by decide +kernel
theorem dX3_remove_8 : decode cX3_remove 8 = .ok (.return_, 1) := by decide +kernel
theorem dX3_remove_9 : decode cX3_remove 9 = .ok (.iload_n 1, 1) := by decide +kernel
theorem dX3_remove_10 : decode cX3_remove 10 = .ok (.istore_n 2, 1) := by decide +kernel
theorem dX3_remove_11 : decode cX3_remove 11 = .ok (.iload_n 2, 1) := by decide +kernel
theorem dX3_remove_12 : decode cX3_remove 12 = .ok (.aload_n 0, 1) := by decide +kernel
theorem dX3_remove_13 : decode cX3_remove 13 = .ok (.getfield 24, 3) := by decide +kernel
theorem dX3_remove_16 : decode cX3_remove 16 = .ok (.iconst 1, 1) := by decide +kernel
theorem dX3_remove_17 : decode cX3_remove 17 = .ok (.isub, 1) := by decide +kernel
theorem dX3_remove_18 : decode cX3_remove 18 = .ok (.if_icmp .ge 71, 3) := by decide +kernel
theorem dX3_remove_21 : decode cX3_remove 21 = .ok (.iload_n 2, 1) := by decide +kernel
theorem dX3_remove_22 : decode cX3_remove 22 = .ok (.bipush 15, 2) := by decide +kernel
theorem dX3_remove_24 : decode cX3_remove 24 = .ok (.if_icmp .ge 65, 3) := by decide +kernel
theorem dX3_remove_27 : decode cX3_remove 27 = .ok (.aload_n 0, 1) := by decide +kernel
theorem dX3_remove_28 : decode cX3_remove 28 = .ok (.getfield 9, 3) := by decide +kernel
theorem dX3_remove_31 : decode cX3_remove 31 = .ok (.iload_n 2, 1) := by decide +kernel
theorem dX3_remove_32 : decode cX3_remove 32 = .ok (.aload_n 0, 1) := by decide +kernel
theorem dX3_remove_33 : decode cX3_remove 33 = .ok (.getfield 9, 3) := by decide +kernel
theorem dX3_remove_36 : decode cX3_remove 36 = .ok (.iload_n 2, 1) := by decide +kernel
theorem dX3_remove_37 : decode cX3_remove 37 = .ok (.iconst 1, 1) := by decide +kernel
theorem dX3_remove_38 : decode cX3_remove 38 = .ok (.iadd, 1) := by decide +kernel
theorem dX3_remove_39 : decode cX3_remove 39 = .ok (.iaload, 1) := by decide +kernel
theorem dX3_remove_40 : decode cX3_remove 40 = .ok (.iastore, 1) := by decide +kernel
theorem dX3_remove_41 : decode cX3_remove 41 = .ok (.aload_n 0, 1) := by decide +kernel
theorem dX3_remove_42 : decode cX3_remove 42 = .ok (.getfield 15, 3) := by decide +kernel
theorem dX3_remove_45 : decode cX3_remove 45 = .ok (.iload_n 2, 1) := by decide +kernel
theorem dX3_remove_46 : decode cX3_remove 46 = .ok (.aload_n 0, 1) := by decide +kernel
theorem dX3_remove_47 : decode cX3_remove 47 = .ok (.getfield 15, 3) := by decide +kernel
theorem dX3_remove_50 : decode cX3_remove 50 = .ok (.iload_n 2, 1) := by decide +kernel
theorem dX3_remove_51 : decode cX3_remove 51 = .ok (.iconst 1, 1) := by decide +kernel
theorem dX3_remove_52 : decode cX3_remove 52 = .ok (.iadd, 1) := by decide +kernel
theorem dX3_remove_53 : decode cX3_remove 53 = .ok (.iaload, 1) := by decide +kernel
theorem dX3_remove_54 : decode cX3_remove 54 = .ok (.iastore, 1) := by decide +kernel
theorem dX3_remove_55 : decode cX3_remove 55 = .ok (.aload_n 0, 1) := by decide +kernel
theorem dX3_remove_56 : decode cX3_remove 56 = .ok (.getfield 18, 3) := by decide +kernel
theorem dX3_remove_59 : decode cX3_remove 59 = .ok (.iload_n 2, 1) := by decide +kernel
theorem dX3_remove_60 : decode cX3_remove 60 = .ok (.aload_n 0, 1) := by decide +kernel
theorem dX3_remove_61 : decode cX3_remove 61 = .ok (.getfield 18, 3) := by decide +kernel
theorem dX3_remove_64 : decode cX3_remove 64 = .ok (.iload_n 2, 1) := by decide +kernel
theorem dX3_remove_65 : decode cX3_remove 65 = .ok (.iconst 1, 1) := by decide +kernel
theorem dX3_remove_66 : decode cX3_remove 66 = .ok (.iadd, 1) := by decide +kernel
theorem dX3_remove_67 : decode cX3_remove 67 = .ok (.iaload, 1) := by decide +kernel
theorem dX3_remove_68 : decode cX3_remove 68 = .ok (.iastore, 1) := by decide +kernel
theorem dX3_remove_69 : decode cX3_remove 69 = .ok (.aload_n 0, 1) := by decide +kernel
theorem dX3_remove_70 : decode cX3_remove 70 = .ok (.getfield 21, 3) := by decide +kernel
theorem dX3_remove_73 : decode cX3_remove 73 = .ok (.iload_n 2, 1) := by decide +kernel
theorem dX3_remove_74 : decode cX3_remove 74 = .ok (.aload_n 0, 1) := by decide +kernel
theorem dX3_remove_75 : decode cX3_remove 75 = .ok (.getfield 21, 3) := by decide +kernel
theorem dX3_remove_78 : decode cX3_remove 78 = .ok (.iload_n 2, 1) := by decide +kernel
theorem dX3_remove_79 : decode cX3_remove 79 = .ok (.iconst 1, 1) := by decide +kernel
theorem dX3_remove_80 : decode cX3_remove 80 = .ok (.iadd, 1) := by decide +kernel
theorem dX3_remove_81 : decode cX3_remove 81 = .ok (.iaload, 1) := by decide +kernel
theorem dX3_remove_82 : decode cX3_remove 82 = .ok (.iastore, 1) := by decide +kernel
theorem dX3_remove_83 : decode cX3_remove 83 = .ok (.iinc 2 1, 3) := by decide +kernel
theorem dX3_remove_86 : decode cX3_remove 86 = .ok (.goto (-75), 3) := by decide +kernel
theorem dX3_remove_89 : decode cX3_remove 89 = .ok (.aload_n 0, 1) := by decide +kernel
theorem dX3_remove_90 : decode cX3_remove 90 = .ok (.dup, 1) := by decide +kernel
theorem dX3_remove_91 : decode cX3_remove 91 = .ok (.getfield 24, 3) := by decide +kernel
theorem dX3_remove_94 : decode cX3_remove 94 = .ok (.iconst 1, 1) := by decide +kernel
theorem dX3_remove_95 : decode cX3_remove 95 = .ok (.isub, 1) := by decide +kernel
theorem dX3_remove_96 : decode cX3_remove 96 = .ok (.putfield 24, 3) := by decide +kernel
theorem dX3_remove_99 : decode cX3_remove 99 = .ok (.return_, 1) := by decide +kernel
theorem dX3_countOf_0 : decode cX3_countOf 0 = .ok (.iconst 0, 1) := by decide +kernel
theorem dX3_countOf_1 : decode cX3_countOf 1 = .ok (.istore_n 2, 1) := by decide +kernel
theorem dX3_countOf_2 : decode cX3_countOf 2 = .ok (.iconst 0, 1) := by decide +kernel
theorem dX3_countOf_3 : decode cX3_countOf 3 = .ok (.istore_n 3, 1) := by decide +kernel
theorem dX3_countOf_4 : decode cX3_countOf 4 = .ok (.iload_n 3, 1) := by decide +kernel
theorem dX3_countOf_5 : decode cX3_countOf 5 = .ok (.aload_n 0, 1) := by decide +kernel
theorem dX3_countOf_6 : decode cX3_countOf 6 = .ok (.getfield 24, 3) := by decide +kernel
theorem dX3_countOf_9 : decode cX3_countOf 9 = .ok (.if_icmp .ge 21, 3) := by decide +kernel
theorem dX3_countOf_12 : decode cX3_countOf 12 = .ok (.aload_n 0, 1) := by decide +kernel
theorem dX3_countOf_13 : decode cX3_countOf 13 = .ok (.iload_n 3, 1) := by decide +kernel
theorem dX3_countOf_14 : decode cX3_countOf 14 = .ok (.invokevirtual 42, 3) := by decide +kernel
theorem dX3_countOf_17 : decode cX3_countOf 17 = .ok (.iload_n 1, 1) := by decide +kernel
theorem dX3_countOf_18 : decode cX3_countOf 18 = .ok (.if_icmp .ne 6, 3) := by decide +kernel
theorem dX3_countOf_21 : decode cX3_countOf 21 = .ok (.iinc 2 1, 3) := by decide +kernel
theorem dX3_countOf_24 : decode cX3_countOf 24 = .ok (.iinc 3 1, 3) := by decide +kernel
theorem dX3_countOf_27 : decode cX3_countOf 27 = .ok (.goto (-23), 3) := by decide +kernel
theorem dX3_countOf_30 : decode cX3_countOf 30 = .ok (.iload_n 2, 1) := by decide +kernel
theorem dX3_countOf_31 : decode cX3_countOf 31 = .ok (.ireturn, 1) := by decide +kernel
theorem dX3_sizesOf_0 : decode cX3_sizesOf 0 = .ok (.iconst 0, 1) := by decide +kernel
theorem dX3_sizesOf_1 : decode cX3_sizesOf 1 = .ok (.istore_n 2, 1) := by decide +kernel
theorem dX3_sizesOf_2 : decode cX3_sizesOf 2 = .ok (.iconst 0, 1) := by decide +kernel
theorem dX3_sizesOf_3 : decode cX3_sizesOf 3 = .ok (.istore_n 3, 1) := by decide +kernel
theorem dX3_sizesOf_4 : decode cX3_sizesOf 4 = .ok (.iload_n 3, 1) := by decide +kernel
theorem dX3_sizesOf_5 : decode cX3_sizesOf 5 = .ok (.aload_n 0, 1) := by decide +kernel
theorem dX3_sizesOf_6 : decode cX3_sizesOf 6 = .ok (.getfield 24, 3) := by decide +kernel
theorem dX3_sizesOf_9 : decode cX3_sizesOf 9 = .ok (.if_icmp .ge 26, 3) := by decide +kernel
theorem dX3_sizesOf_12 : decode cX3_sizesOf 12 = .ok (.aload_n 0, 1) := by decide +kernel
theorem dX3_sizesOf_13 : decode cX3_sizesOf 13 = .ok (.iload_n 3, 1) := by decide +kernel
theorem dX3_sizesOf_14 : decode cX3_sizesOf 14 = .ok (.invokevirtual 42, 3) := by decide +kernel
theorem dX3_sizesOf_17 : decode cX3_sizesOf 17 = .ok (.iload_n 1, 1) := by decide +kernel
theorem dX3_sizesOf_18 : decode cX3_sizesOf 18 = .ok (.if_icmp .ne 11, 3) := by decide +kernel
theorem dX3_sizesOf_21 : decode cX3_sizesOf 21 = .ok (.iload_n 2, 1) := by decide +kernel
theorem dX3_sizesOf_22 : decode cX3_sizesOf 22 = .ok (.aload_n 0, 1) := by decide +kernel
theorem dX3_sizesOf_23 : decode cX3_sizesOf 23 = .ok (.iload_n 3, 1) := by decide +kernel
theorem dX3_sizesOf_24 : decode cX3_sizesOf 24 = .ok (.invokevirtual 49, 3) := by decide +kernel
theorem dX3_sizesOf_27 : decode cX3_sizesOf 27 = .ok (.iadd, 1) := by decide +kernel
theorem dX3_sizesOf_28 : decode cX3_sizesOf 28 = .ok (.istore_n 2, 1) := by decide +kernel
theorem dX3_sizesOf_29 : decode cX3_sizesOf 29 = .ok (.iinc 3 1, 3) := by decide +kernel
theorem dX3_sizesOf_32 : decode cX3_sizesOf 32 = .ok (.goto (-28), 3) := by decide +kernel
theorem dX3_sizesOf_35 : decode cX3_sizesOf 35 = .ok (.iload_n 2, 1) := by decide +kernel
theorem dX3_sizesOf_36 : decode cX3_sizesOf 36 = .ok (.ireturn, 1) := by decide +kernel
theorem dX3_allAmounts_0 : decode cX3_allAmounts 0 = .ok (.iconst 0, 1) := by decide +kernel
theorem dX3_allAmounts_1 : decode cX3_allAmounts 1 = .ok (.istore_n 1, 1) := by decide +kernel
theorem dX3_allAmounts_2 : decode cX3_allAmounts 2 = .ok (.iconst 0, 1) := by decide +kernel
theorem dX3_allAmounts_3 : decode cX3_allAmounts 3 = .ok (.istore_n 2, 1) := by decide +kernel
theorem dX3_allAmounts_4 : decode cX3_allAmounts 4 = .ok (.iload_n 2, 1) := by decide +kernel
theorem dX3_allAmounts_5 : decode cX3_allAmounts 5 = .ok (.aload_n 0, 1) := by decide +kernel
theorem dX3_allAmounts_6 : decode cX3_allAmounts 6 = .ok (.getfield 24, 3) := by decide +kernel
theorem dX3_allAmounts_9 : decode cX3_allAmounts 9 = .ok (.if_icmp .ge 17, 3) := by decide +kernel
theorem dX3_allAmounts_12 : decode cX3_allAmounts 12 = .ok (.iload_n 1, 1) := by decide +kernel
theorem dX3_allAmounts_13 : decode cX3_allAmounts 13 = .ok (.aload_n 0, 1) := by decide +kernel
theorem dX3_allAmounts_14 : decode cX3_allAmounts 14 = .ok (.iload_n 2, 1) := by decide +kernel
theorem dX3_allAmounts_15 : decode cX3_allAmounts 15 = .ok (.invokevirtual 46, 3) := by decide +kernel
theorem dX3_allAmounts_18 : decode cX3_allAmounts 18 = .ok (.iadd, 1) := by decide +kernel
theorem dX3_allAmounts_19 : decode cX3_allAmounts 19 = .ok (.istore_n 1, 1) := by decide +kernel
theorem dX3_allAmounts_20 : decode cX3_allAmounts 20 = .ok (.iinc 2 1, 3) := by decide +kernel
theorem dX3_allAmounts_23 : decode cX3_allAmounts 23 = .ok (.goto (-19), 3) := by decide +kernel
theorem dX3_allAmounts_26 : decode cX3_allAmounts 26 = .ok (.iload_n 1, 1) := by decide +kernel
theorem dX3_allAmounts_27 : decode cX3_allAmounts 27 = .ok (.ireturn, 1) := by decide +kernel
theorem dX3_allSizes_0 : decode cX3_allSizes 0 = .ok (.iconst 0, 1) := by decide +kernel
theorem dX3_allSizes_1 : decode cX3_allSizes 1 = .ok (.istore_n 1, 1) := by decide +kernel
theorem dX3_allSizes_2 : decode cX3_allSizes 2 = .ok (.iconst 0, 1) := by decide +kernel
theorem dX3_allSizes_3 : decode cX3_allSizes 3 = .ok (.istore_n 2, 1) := by decide +kernel
theorem dX3_allSizes_4 : decode cX3_allSizes 4 = .ok (.iload_n 2, 1) := by decide +kernel
theorem dX3_allSizes_5 : decode cX3_allSizes 5 = .ok (.aload_n 0, 1) := by decide +kernel
theorem dX3_allSizes_6 : decode cX3_allSizes 6 = .ok (.getfield 24, 3) := by decide +kernel
theorem dX3_allSizes_9 : decode cX3_allSizes 9 = .ok (.if_icmp .ge 17, 3) := by decide +kernel
theorem dX3_allSizes_12 : decode cX3_allSizes 12 = .ok (.iload_n 1, 1) := by decide +kernel
theorem dX3_allSizes_13 : decode cX3_allSizes 13 = .ok (.aload_n 0, 1) := by decide +kernel
theorem dX3_allSizes_14 : decode cX3_allSizes 14 = .ok (.iload_n 2, 1) := by decide +kernel
theorem dX3_allSizes_15 : decode cX3_allSizes 15 = .ok (.invokevirtual 49, 3) := by decide +kernel
theorem dX3_allSizes_18 : decode cX3_allSizes 18 = .ok (.iadd, 1) := by decide +kernel
theorem dX3_allSizes_19 : decode cX3_allSizes 19 = .ok (.istore_n 1, 1) := by decide +kernel
theorem dX3_allSizes_20 : decode cX3_allSizes 20 = .ok (.iinc 2 1, 3) := by decide +kernel
theorem dX3_allSizes_23 : decode cX3_allSizes 23 = .ok (.goto (-19), 3) := by decide +kernel
theorem dX3_allSizes_26 : decode cX3_allSizes 26 = .ok (.iload_n 1, 1) := by decide +kernel
theorem dX3_allSizes_27 : decode cX3_allSizes 27 = .ok (.ireturn, 1) := by decide +kernel
theorem dX3_holderOf_0 : decode cX3_holderOf 0 = .ok (.iconst 0, 1) := by decide +kernel
theorem dX3_holderOf_1 : decode cX3_holderOf 1 = .ok (.istore_n 2, 1) := by decide +kernel
theorem dX3_holderOf_2 : decode cX3_holderOf 2 = .ok (.iload_n 2, 1) := by decide +kernel
theorem dX3_holderOf_3 : decode cX3_holderOf 3 = .ok (.aload_n 0, 1) := by decide +kernel
theorem dX3_holderOf_4 : decode cX3_holderOf 4 = .ok (.getfield 24, 3) := by decide +kernel
theorem dX3_holderOf_7 : decode cX3_holderOf 7 = .ok (.if_icmp .ge 21, 3) := by decide +kernel
theorem dX3_holderOf_10 : decode cX3_holderOf 10 = .ok (.aload_n 0, 1) := by decide +kernel
theorem dX3_holderOf_11 : decode cX3_holderOf 11 = .ok (.iload_n 2, 1) := by decide +kernel
theorem dX3_holderOf_12 : decode cX3_holderOf 12 = .ok (.iload_n 1, 1) := by decide +kernel
theorem dX3_holderOf_13 : decode cX3_holderOf 13 = .ok (.iconst 1, 1) := by decide +kernel
theorem dX3_holderOf_14 : decode cX3_holderOf 14 = .ok (.invokevirtual 52, 3) := by decide +kernel
theorem dX3_holderOf_17 : decode cX3_holderOf 17 = .ok (.ifCond .eq 5, 3) := by decide +kernel
theorem dX3_holderOf_20 : decode cX3_holderOf 20 = .ok (.iload_n 2, 1) := by decide +kernel
theorem dX3_holderOf_21 : decode cX3_holderOf 21 = .ok (.ireturn, 1) := by decide +kernel
theorem dX3_holderOf_22 : decode cX3_holderOf 22 = .ok (.iinc 2 1, 3) := by decide +kernel
theorem dX3_holderOf_25 : decode cX3_holderOf 25 = .ok (.goto (-23), 3) := by decide +kernel
theorem dX3_holderOf_28 : decode cX3_holderOf 28 = .ok (.iconst (-1), 1) := by decide +kernel
theorem dX3_holderOf_29 : decode cX3_holderOf 29 = .ok (.ireturn, 1) := by decide +kernel
theorem dX3_countIn_0 : decode cX3_countIn 0 = .ok (.iconst 0, 1) := by decide +kernel
theorem dX3_countIn_1 : decode cX3_countIn 1 = .ok (.istore_n 3, 1) := by decide +kernel
theorem dX3_countIn_2 : decode cX3_countIn 2 = .ok (.iconst 0, 1) := by decide +kernel
theorem dX3_countIn_3 : decode cX3_countIn 3 = .ok (.istore 4, 2) := by decide +kernel
theorem dX3_countIn_5 : decode cX3_countIn 5 = .ok (.iload 4, 2) := by decide +kernel
theorem dX3_countIn_7 : decode cX3_countIn 7 = .ok (.aload_n 0, 1) := by decide +kernel
theorem dX3_countIn_8 : decode cX3_countIn 8 = .ok (.getfield 24, 3) := by decide +kernel
theorem dX3_countIn_11 : decode cX3_countIn 11 = .ok (.if_icmp .ge 23, 3) := by decide +kernel
theorem dX3_countIn_14 : decode cX3_countIn 14 = .ok (.aload_n 0, 1) := by decide +kernel
theorem dX3_countIn_15 : decode cX3_countIn 15 = .ok (.iload 4, 2) := by decide +kernel
theorem dX3_countIn_17 : decode cX3_countIn 17 = .ok (.iload_n 1, 1) := by decide +kernel
theorem dX3_countIn_18 : decode cX3_countIn 18 = .ok (.iload_n 2, 1) := by decide +kernel
theorem dX3_countIn_19 : decode cX3_countIn 19 = .ok (.invokevirtual 52, 3) := by decide +kernel
theorem dX3_countIn_22 : decode cX3_countIn 22 = .ok (.ifCond .eq 6, 3) := by decide +kernel
theorem dX3_countIn_25 : decode cX3_countIn 25 = .ok (.iinc 3 1, 3) := by decide +kernel
theorem dX3_countIn_28 : decode cX3_countIn 28 = .ok (.iinc 4 1, 3) := by decide +kernel
theorem dX3_countIn_31 : decode cX3_countIn 31 = .ok (.goto (-26), 3) := by decide +kernel
theorem dX3_countIn_34 : decode cX3_countIn 34 = .ok (.iload_n 3, 1) := by decide +kernel
theorem dX3_countIn_35 : decode cX3_countIn 35 = .ok (.ireturn, 1) := by decide +kernel
theorem dX3_isIn_0 : decode cX3_isIn 0 = .ok (.aload_n 0, 1) := by decide +kernel
theorem dX3_isIn_1 : decode cX3_isIn 1 = .ok (.iload_n 1, 1) := by decide +kernel
theorem dX3_isIn_2 : decode cX3_isIn 2 = .ok (.invokevirtual 34, 3) := by decide +kernel
theorem dX3_isIn_5 : decode cX3_isIn 5 = .ok (.ifCond .eq 36, 3) := by decide +kernel
theorem dX3_isIn_8 : decode cX3_isIn 8 = .ok (.aload_n 0, 1) := by decide +kernel
theorem dX3_isIn_9 : decode cX3_isIn 9 = .ok (.getfield 18, 3) := by decide +kernel
theorem dX3_isIn_12 : decode cX3_isIn 12 = .ok (.iload_n 1, 1) := by decide +kernel
theorem dX3_isIn_13 : decode cX3_isIn 13 = .ok (.iaload, 1) := by decide +kernel
theorem dX3_isIn_14 : decode cX3_isIn 14 = .ok (.iload_n 2, 1) := by decide +kernel
theorem dX3_isIn_15 : decode cX3_isIn 15 = .ok (.iload_n 3, 1) := by decide +kernel
theorem dX3_isIn_16 : decode cX3_isIn 16 = .ok (.iadd, 1) := by decide +kernel
theorem dX3_isIn_17 : decode cX3_isIn 17 = .ok (.if_icmp .ge 24, 3) := by decide +kernel
theorem dX3_isIn_20 : decode cX3_isIn 20 = .ok (.iload_n 2, 1) := by decide +kernel
theorem dX3_isIn_21 : decode cX3_isIn 21 = .ok (.aload_n 0, 1) := by decide +kernel
theorem dX3_isIn_22 : decode cX3_isIn 22 = .ok (.getfield 18, 3) := by decide +kernel
theorem dX3_isIn_25 : decode cX3_isIn 25 = .ok (.iload_n 1, 1) := by decide +kernel
theorem dX3_isIn_26 : decode cX3_isIn 26 = .ok (.iaload, 1) := by decide +kernel
theorem dX3_isIn_27 : decode cX3_isIn 27 = .ok (.aload_n 0, 1) := by decide +kernel
theorem dX3_isIn_28 : decode cX3_isIn 28 = .ok (.getfield 21, 3) := by decide +kernel
theorem dX3_isIn_31 : decode cX3_isIn 31 = .ok (.iload_n 1, 1) := by decide +kernel
theorem dX3_isIn_32 : decode cX3_isIn 32 = .ok (.iaload, 1) := by decide +kernel
theorem dX3_isIn_33 : decode cX3_isIn 33 = .ok (.iadd, 1) := by decide +kernel
theorem dX3_isIn_34 : decode cX3_isIn 34 = .ok (.if_icmp .ge 7, 3) := by decide +kernel
theorem dX3_isIn_37 : decode cX3_isIn 37 = .ok (.iconst 1, 1) := by decide +kernel
theorem dX3_isIn_38 : decode cX3_isIn 38 = .ok (.goto 4, 3) := by decide +kernel
theorem dX3_isIn_41 : decode cX3_isIn 41 = .ok (.iconst 0, 1) := by decide +kernel
theorem dX3_isIn_42 : decode cX3_isIn 42 = .ok (.ireturn, 1) := by decide +kernel
theorem dX3_fewestInPart_0 : decode cX3_fewestInPart 0 = .ok (.aload_n 0, 1) := by decide +kernel
theorem dX3_fewestInPart_1 : decode cX3_fewestInPart 1 = .ok (.getfield 24, 3) := by decide +kernel
theorem dX3_fewestInPart_4 : decode cX3_fewestInPart 4 = .ok (.istore_n 2, 1) := by decide +kernel
theorem dX3_fewestInPart_5 : decode cX3_fewestInPart 5 = .ok (.iconst 0, 1) := by decide +kernel
theorem dX3_fewestInPart_6 : decode cX3_fewestInPart 6 = .ok (.istore_n 3, 1) := by decide +kernel
theorem dX3_fewestInPart_7 : decode cX3_fewestInPart 7 = .ok (.iload_n 1, 1) := by decide +kernel
theorem dX3_fewestInPart_8 : decode cX3_fewestInPart 8 = .ok (.iconst 1, 1) := by decide +kernel
theorem dX3_fewestInPart_9 : decode cX3_fewestInPart 9 = .ok (.if_icmp .lt 27, 3) := by decide +kernel
theorem dX3_fewestInPart_12 : decode cX3_fewestInPart 12 = .ok (.iload_n 3, 1) := by decide +kernel
theorem dX3_fewestInPart_13 : decode cX3_fewestInPart 13 = .ok (.bipush 64, 2) := by decide +kernel
theorem dX3_fewestInPart_15 : decode cX3_fewestInPart 15 = .ok (.if_icmp .ge 21, 3) := by decide +kernel
theorem dX3_fewestInPart_18 : decode cX3_fewestInPart 18 = .ok (.iload_n 2, 1) := by decide +kernel
theorem dX3_fewestInPart_19 : decode cX3_fewestInPart 19 = .ok (.aload_n 0, 1) := by decide +kernel
theorem dX3_fewestInPart_20 : decode cX3_fewestInPart 20 = .ok (.iload_n 3, 1) := by decide +kernel
theorem dX3_fewestInPart_21 : decode cX3_fewestInPart 21 = .ok (.iload_n 1, 1) := by decide +kernel
theorem dX3_fewestInPart_22 : decode cX3_fewestInPart 22 = .ok (.invokevirtual 56, 3) := by decide +kernel
theorem dX3_fewestInPart_25 : decode cX3_fewestInPart 25 = .ok (.invokestatic 60, 3) := by decide +kernel
theorem dX3_fewestInPart_28 : decode cX3_fewestInPart 28 = .ok (.istore_n 2, 1) := by decide +kernel
theorem dX3_fewestInPart_29 : decode cX3_fewestInPart 29 = .ok (.iload_n 3, 1) := by decide +kernel
theorem dX3_fewestInPart_30 : decode cX3_fewestInPart 30 = .ok (.iload_n 1, 1) := by decide +kernel
theorem dX3_fewestInPart_31 : decode cX3_fewestInPart 31 = .ok (.iadd, 1) := by decide +kernel
theorem dX3_fewestInPart_32 : decode cX3_fewestInPart 32 = .ok (.istore_n 3, 1) := by decide +kernel
theorem dX3_fewestInPart_33 : decode cX3_fewestInPart 33 = .ok (.goto (-26), 3) := by decide +kernel
theorem dX3_fewestInPart_36 : decode cX3_fewestInPart 36 = .ok (.iload_n 2, 1) := by decide +kernel
theorem dX3_fewestInPart_37 : decode cX3_fewestInPart 37 = .ok (.ireturn, 1) := by decide +kernel
theorem dX3_nameOfRank_0 : decode cX3_nameOfRank 0 = .ok (.iconst 0, 1) := by decide +kernel
theorem dX3_nameOfRank_1 : decode cX3_nameOfRank 1 = .ok (.istore_n 2, 1) := by decide +kernel
theorem dX3_nameOfRank_2 : decode cX3_nameOfRank 2 = .ok (.iload_n 2, 1) := by decide +kernel
theorem dX3_nameOfRank_3 : decode cX3_nameOfRank 3 = .ok (.aload_n 0, 1) := by decide +kernel
theorem dX3_nameOfRank_4 : decode cX3_nameOfRank 4 = .ok (.getfield 24, 3) := by decide +kernel
theorem dX3_nameOfRank_7 : decode cX3_nameOfRank 7 = .ok (.if_icmp .ge 28, 3) := by decide +kernel
theorem dX3_nameOfRank_10 : decode cX3_nameOfRank 10 = .ok (.aload_n 0, 1) := by decide +kernel
theorem dX3_nameOfRank_11 : decode cX3_nameOfRank 11 = .ok (.aload_n 0, 1) := by decide +kernel
theorem dX3_nameOfRank_12 : decode cX3_nameOfRank 12 = .ok (.iload_n 2, 1) := by decide +kernel
theorem dX3_nameOfRank_13 : decode cX3_nameOfRank 13 = .ok (.invokevirtual 42, 3) := by decide +kernel
theorem dX3_nameOfRank_16 : decode cX3_nameOfRank 16 = .ok (.invokevirtual 65, 3) := by decide +kernel
theorem dX3_nameOfRank_19 : decode cX3_nameOfRank 19 = .ok (.iload_n 1, 1) := by decide +kernel
theorem dX3_nameOfRank_20 : decode cX3_nameOfRank 20 = .ok (.if_icmp .ne 9, 3) := by decide +kernel
theorem dX3_nameOfRank_23 : decode cX3_nameOfRank 23 = .ok (.aload_n 0, 1) := by decide +kernel
theorem dX3_nameOfRank_24 : decode cX3_nameOfRank 24 = .ok (.iload_n 2, 1) := by decide +kernel
theorem dX3_nameOfRank_25 : decode cX3_nameOfRank 25 = .ok (.invokevirtual 42, 3) := by decide +kernel
theorem dX3_nameOfRank_28 : decode cX3_nameOfRank 28 = .ok (.ireturn, 1) := by decide +kernel
theorem dX3_nameOfRank_29 : decode cX3_nameOfRank 29 = .ok (.iinc 2 1, 3) := by decide +kernel
theorem dX3_nameOfRank_32 : decode cX3_nameOfRank 32 = .ok (.goto (-30), 3) := by decide +kernel
theorem dX3_nameOfRank_35 : decode cX3_nameOfRank 35 = .ok (.iconst (-1), 1) := by decide +kernel
theorem dX3_nameOfRank_36 : decode cX3_nameOfRank 36 = .ok (.ireturn, 1) := by decide +kernel
theorem dX3_countAhead_0 : decode cX3_countAhead 0 = .ok (.aload_n 0, 1) := by decide +kernel
theorem dX3_countAhead_1 : decode cX3_countAhead 1 = .ok (.iload_n 1, 1) := by decide +kernel
theorem dX3_countAhead_2 : decode cX3_countAhead 2 = .ok (.invokevirtual 68, 3) := by decide +kernel
theorem dX3_countAhead_5 : decode cX3_countAhead 5 = .ok (.istore_n 2, 1) := by decide +kernel
theorem dX3_countAhead_6 : decode cX3_countAhead 6 = .ok (.iconst 0, 1) := by decide +kernel
theorem dX3_countAhead_7 : decode cX3_countAhead 7 = .ok (.istore_n 3, 1) := by decide +kernel
theorem dX3_countAhead_8 : decode cX3_countAhead 8 = .ok (.iconst 0, 1) := by decide +kernel
theorem dX3_countAhead_9 : decode cX3_countAhead 9 = .ok (.istore 4, 2) := by decide +kernel
theorem dX3_countAhead_11 : decode cX3_countAhead 11 = .ok (.iload 4, 2) := by decide +kernel
theorem dX3_countAhead_13 : decode cX3_countAhead 13 = .ok (.aload_n 0, 1) := by decide +kernel
theorem dX3_countAhead_14 : decode cX3_countAhead 14 = .ok (.getfield 24, 3) := by decide +kernel
theorem dX3_countAhead_17 : decode cX3_countAhead 17 = .ok (.if_icmp .ge 55, 3) := by decide +kernel
theorem dX3_countAhead_20 : decode cX3_countAhead 20 = .ok (.aload_n 0, 1) := by decide +kernel
theorem dX3_countAhead_21 : decode cX3_countAhead 21 = .ok (.iload 4, 2) := by decide +kernel
theorem dX3_countAhead_23 : decode cX3_countAhead 23 = .ok (.invokevirtual 42, 3) := by decide +kernel
theorem dX3_countAhead_26 : decode cX3_countAhead 26 = .ok (.istore 5, 2) := by decide +kernel
theorem dX3_countAhead_28 : decode cX3_countAhead 28 = .ok (.aload_n 0, 1) := by decide +kernel
theorem dX3_countAhead_29 : decode cX3_countAhead 29 = .ok (.iload 5, 2) := by decide +kernel
theorem dX3_countAhead_31 : decode cX3_countAhead 31 = .ok (.invokevirtual 68, 3) := by decide +kernel
theorem dX3_countAhead_34 : decode cX3_countAhead 34 = .ok (.istore 6, 2) := by decide +kernel
theorem dX3_countAhead_36 : decode cX3_countAhead 36 = .ok (.aload_n 0, 1) := by decide +kernel
theorem dX3_countAhead_37 : decode cX3_countAhead 37 = .ok (.iload 4, 2) := by decide +kernel
theorem dX3_countAhead_39 : decode cX3_countAhead 39 = .ok (.invokevirtual 71, 3) := by decide +kernel
theorem dX3_countAhead_42 : decode cX3_countAhead 42 = .ok (.ifCond .eq 24, 3) := by decide +kernel
theorem dX3_countAhead_45 : decode cX3_countAhead 45 = .ok (.iload 6, 2) := by decide +kernel
theorem dX3_countAhead_47 : decode cX3_countAhead 47 = .ok (.iload_n 2, 1) := by decide +kernel
theorem dX3_countAhead_48 : decode cX3_countAhead 48 = .ok (.if_icmp .gt 15, 3) := by decide +kernel
theorem dX3_countAhead_51 : decode cX3_countAhead 51 = .ok (.iload 6, 2) := by decide +kernel
theorem dX3_countAhead_53 : decode cX3_countAhead 53 = .ok (.iload_n 2, 1) := by decide +kernel
theorem dX3_countAhead_54 : decode cX3_countAhead 54 = .ok (.if_icmp .ne 12, 3) := by decide +kernel
theorem dX3_countAhead_57 : decode cX3_countAhead 57 = .ok (.iload 5, 2) := by decide +kernel
theorem dX3_countAhead_59 : decode cX3_countAhead 59 = .ok (.iload_n 1, 1) := by decide +kernel
theorem dX3_countAhead_60 : decode cX3_countAhead 60 = .ok (.if_icmp .ge 6, 3) := by decide +kernel
theorem dX3_countAhead_63 : decode cX3_countAhead 63 = .ok (.iinc 3 1, 3) := by decide +kernel
theorem dX3_countAhead_66 : decode cX3_countAhead 66 = .ok (.iinc 4 1, 3) := by decide +kernel
theorem dX3_countAhead_69 : decode cX3_countAhead 69 = .ok (.goto (-58), 3) := by decide +kernel
theorem dX3_countAhead_72 : decode cX3_countAhead 72 = .ok (.iload_n 3, 1) := by decide +kernel
theorem dX3_countAhead_73 : decode cX3_countAhead 73 = .ok (.ireturn, 1) := by decide +kernel
theorem dX3_isFirstOfName_0 : decode cX3_isFirstOfName 0 = .ok (.iconst 0, 1) := by decide +kernel
theorem dX3_isFirstOfName_1 : decode cX3_isFirstOfName 1 = .ok (.istore_n 2, 1) := by decide +kernel
theorem dX3_isFirstOfName_2 : decode cX3_isFirstOfName 2 = .ok (.iload_n 2, 1) := by decide +kernel
theorem dX3_isFirstOfName_3 : decode cX3_isFirstOfName 3 = .ok (.iload_n 1, 1) := by decide +kernel
theorem dX3_isFirstOfName_4 : decode cX3_isFirstOfName 4 = .ok (.if_icmp .ge 24, 3) := by decide +kernel
theorem dX3_isFirstOfName_7 : decode cX3_isFirstOfName 7 = .ok (.aload_n 0, 1) := by decide +kernel
theorem dX3_isFirstOfName_8 : decode cX3_isFirstOfName 8 = .ok (.iload_n 2, 1) := by decide +kernel
theorem dX3_isFirstOfName_9 : decode cX3_isFirstOfName 9 = .ok (.invokevirtual 42, 3) := by decide +kernel
theorem dX3_isFirstOfName_12 : decode cX3_isFirstOfName 12 = .ok (.aload_n 0, 1) := by decide +kernel
theorem dX3_isFirstOfName_13 : decode cX3_isFirstOfName 13 = .ok (.iload_n 1, 1) := by decide +kernel
theorem dX3_isFirstOfName_14 : decode cX3_isFirstOfName 14 = .ok (.invokevirtual 42, 3) := by decide +kernel
theorem dX3_isFirstOfName_17 : decode cX3_isFirstOfName 17 = .ok (.if_icmp .ne 5, 3) := by decide +kernel
theorem dX3_isFirstOfName_20 : decode cX3_isFirstOfName 20 = .ok (.iconst 0, 1) := by decide +kernel
theorem dX3_isFirstOfName_21 : decode cX3_isFirstOfName 21 = .ok (.ireturn, 1) := by decide +kernel
theorem dX3_isFirstOfName_22 : decode cX3_isFirstOfName 22 = .ok (.iinc 2 1, 3) := by decide +kernel
theorem dX3_isFirstOfName_25 : decode cX3_isFirstOfName 25 = .ok (.goto (-23), 3) := by decide +kernel
theorem dX3_isFirstOfName_28 : decode cX3_isFirstOfName 28 = .ok (.iconst 1, 1) := by decide +kernel
theorem dX3_isFirstOfName_29 : decode cX3_isFirstOfName 29 = .ok (.ireturn, 1) := by decide +kernel
theorem dX3_isEachNeedMet_0 : decode cX3_isEachNeedMet 0 = .ok (.iconst 0, 1) := by decide +kernel
theorem dX3_isEachNeedMet_1 : decode cX3_isEachNeedMet 1 = .ok (.istore_n 1, 1) := by decide +kernel
theorem dX3_isEachNeedMet_2 : decode cX3_isEachNeedMet 2 = .ok (.iload_n 1, 1) := by decide +kernel
theorem dX3_isEachNeedMet_3 : decode cX3_isEachNeedMet 3 = .ok (.aload_n 0, 1) := by decide +kernel
theorem dX3_isEachNeedMet_4 : decode cX3_isEachNeedMet 4 = .ok (.getfield 24, 3) := by decide +kernel
theorem dX3_isEachNeedMet_7 : decode cX3_isEachNeedMet 7 = .ok (.if_icmp .ge 39, 3) := by decide +kernel
theorem dX3_isEachNeedMet_10 : decode cX3_isEachNeedMet 10 = .ok (.aload_n 0, 1) := by decide +kernel
theorem dX3_isEachNeedMet_11 : decode cX3_isEachNeedMet 11 = .ok (.iload_n 1, 1) := by decide +kernel
theorem dX3_isEachNeedMet_12 : decode cX3_isEachNeedMet 12 = .ok (.invokevirtual 49, 3) := by decide +kernel
theorem dX3_isEachNeedMet_15 : decode cX3_isEachNeedMet 15 = .ok (.aload_n 0, 1) := by decide +kernel
theorem dX3_isEachNeedMet_16 : decode cX3_isEachNeedMet 16 = .ok (.iload_n 1, 1) := by decide +kernel
theorem dX3_isEachNeedMet_17 : decode cX3_isEachNeedMet 17 = .ok (.invokevirtual 46, 3) := by decide +kernel
theorem dX3_isEachNeedMet_20 : decode cX3_isEachNeedMet 20 = .ok (.if_icmp .lt 18, 3) := by decide +kernel
theorem dX3_isEachNeedMet_23 : decode cX3_isEachNeedMet 23 = .ok (.aload_n 0, 1) := by decide +kernel
theorem dX3_isEachNeedMet_24 : decode cX3_isEachNeedMet 24 = .ok (.iload_n 1, 1) := by decide +kernel
theorem dX3_isEachNeedMet_25 : decode cX3_isEachNeedMet 25 = .ok (.invokevirtual 49, 3) := by decide +kernel
theorem dX3_isEachNeedMet_28 : decode cX3_isEachNeedMet 28 = .ok (.iconst 2, 1) := by decide +kernel
theorem dX3_isEachNeedMet_29 : decode cX3_isEachNeedMet 29 = .ok (.idiv, 1) := by decide +kernel
theorem dX3_isEachNeedMet_30 : decode cX3_isEachNeedMet 30 = .ok (.aload_n 0, 1) := by decide +kernel
theorem dX3_isEachNeedMet_31 : decode cX3_isEachNeedMet 31 = .ok (.iload_n 1, 1) := by decide +kernel
theorem dX3_isEachNeedMet_32 : decode cX3_isEachNeedMet 32 = .ok (.invokevirtual 46, 3) := by decide +kernel
theorem dX3_isEachNeedMet_35 : decode cX3_isEachNeedMet 35 = .ok (.if_icmp .lt 5, 3) := by decide +kernel
theorem dX3_isEachNeedMet_38 : decode cX3_isEachNeedMet 38 = .ok (.iconst 0, 1) := by decide +kernel
theorem dX3_isEachNeedMet_39 : decode cX3_isEachNeedMet 39 = .ok (.ireturn, 1) := by decide +kernel
theorem dX3_isEachNeedMet_40 : decode cX3_isEachNeedMet 40 = .ok (.iinc 1 1, 3) := by decide +kernel
theorem dX3_isEachNeedMet_43 : decode cX3_isEachNeedMet 43 = .ok (.goto (-41), 3) := by decide +kernel
theorem dX3_isEachNeedMet_46 : decode cX3_isEachNeedMet 46 = .ok (.iconst 1, 1) := by decide +kernel
theorem dX3_isEachNeedMet_47 : decode cX3_isEachNeedMet 47 = .ok (.ireturn, 1) := by decide +kernel
theorem dX4_init_0 : decode cX4_init 0 = .ok (.aload_n 0, 1) := by decide +kernel
theorem dX4_init_1 : decode cX4_init 1 = .ok (.invokespecial 3, 3) := by decide +kernel
theorem dX4_init_4 : decode cX4_init 4 = .ok (.aload_n 0, 1) := by decide +kernel
theorem dX4_init_5 : decode cX4_init 5 = .ok (.bipush 20, 2) := by decide +kernel
theorem dX4_init_7 : decode cX4_init 7 = .ok (.newarray .int, 2) := by decide +kernel
theorem dX4_init_9 : decode cX4_init 9 = .ok (.putfield 9, 3) := by decide +kernel
theorem dX4_init_12 : decode cX4_init 12 = .ok (.aload_n 0, 1) := by decide +kernel
theorem dX4_init_13 : decode cX4_init 13 = .ok (.bipush 20, 2) := by decide +kernel
theorem dX4_init_15 : decode cX4_init 15 = .ok (.newarray .int, 2) := by decide +kernel
theorem dX4_init_17 : decode cX4_init 17 = .ok (.putfield 15, 3) := by decide +kernel
theorem dX4_init_20 : decode cX4_init 20 = .ok (.aload_n 0, 1) := by decide +kernel
theorem dX4_init_21 : decode cX4_init 21 = .ok (.bipush 20, 2) := by decide +kernel
theorem dX4_init_23 : decode cX4_init 23 = .ok (.newarray .int, 2) := by decide +kernel
theorem dX4_init_25 : decode cX4_init 25 = .ok (.putfield 18, 3) := by decide +kernel
theorem dX4_init_28 : decode cX4_init 28 = .ok (.aload_n 0, 1) := by decide +kernel
theorem dX4_init_29 : decode cX4_init 29 = .ok (.iconst 0, 1) := by decide +kernel
theorem dX4_init_30 : decode cX4_init 30 = .ok (.putfield 21, 3) := by decide +kernel
theorem dX4_init_33 : decode cX4_init 33 = .ok (.aload_n 0, 1) := by decide +kernel
theorem dX4_init_34 : decode cX4_init 34 = .ok (.bipush 60, 2) := by decide +kernel
theorem dX4_init_36 : decode cX4_init 36 = .ok (.newarray .char, 2) := by decide +kernel
theorem dX4_init_38 : decode cX4_init 38 = .ok (.putfield 25, 3) := by decide +kernel
theorem dX4_init_41 : decode cX4_init 41 = .ok (.aload_n 0, 1) := by decide +kernel
theorem dX4_init_42 : decode cX4_init 42 = .ok (.iconst 0, 1) := by decide +kernel
theorem dX4_init_43 : decode cX4_init 43 = .ok (.putfield 29, 3) := by decide +kernel
theorem dX4_init_46 : decode cX4_init 46 = .ok (.aload_n 0, 1) := by decide +kernel
theorem dX4_init_47 : decode cX4_init 47 = .ok (.iconst 0, 1) := by decide +kernel
theorem dX4_init_48 : decode cX4_init 48 = .ok (.putfield 32, 3) := by decide +kernel
theorem dX4_init_51 : decode cX4_init 51 = .ok (.aload_n 0, 1) := by decide +kernel
theorem dX4_init_52 : decode cX4_init 52 = .ok (.iconst 0, 1) := by decide +kernel
theorem dX4_init_53 : decode cX4_init 53 = .ok (.putfield 35, 3) := by decide +kernel
theorem dX4_init_56 : decode cX4_init 56 = .ok (.return_, 1) := by decide +kernel
theorem dX4_kindAt_0 : decode cX4_kindAt 0 = .ok (.aload_n 0, 1) := by decide +kernel
theorem dX4_kindAt_1 : decode cX4_kindAt 1 = .ok (.iload_n 1, 1) := by decide +kernel
theorem dX4_kindAt_2 : decode cX4_kindAt 2 = .ok (.invokevirtual 38, 3) := by decide +kernel
theorem dX4_kindAt_5 : decode cX4_kindAt 5 = .ok (.ifCond .eq 12, 3) := by decide +kernel
theorem dX4_kindAt_8 : decode cX4_kindAt 8 = .ok (.aload_n 0, 1) := by decide +kernel
theorem dX4_kindAt_9 : decode cX4_kindAt 9 = .ok (.getfield 9, 3) := by decide +kernel
theorem dX4_kindAt_12 : decode cX4_kindAt 12 = .ok (.iload_n 1, 1) := by decide +kernel
theorem dX4_kindAt_13 : decode cX4_kindAt 13 = .ok (.iaload, 1) := by decide +kernel
theorem dX4_kindAt_14 : decode cX4_kindAt 14 = .ok (.goto 4, 3) := by decide +kernel
theorem dX4_kindAt_17 : decode cX4_kindAt 17 = .ok (.iconst 0, 1) := by decide +kernel
theorem dX4_kindAt_18 : decode cX4_kindAt 18 = .ok (.ireturn, 1) := by decide +kernel
theorem dX4_firstAt_0 : decode cX4_firstAt 0 = .ok (.aload_n 0, 1) := by decide +kernel
theorem dX4_firstAt_1 : decode cX4_firstAt 1 = .ok (.iload_n 1, 1) := by decide +kernel
theorem dX4_firstAt_2 : decode cX4_firstAt 2 = .ok (.invokevirtual 38, 3) := by decide +kernel
theorem dX4_firstAt_5 : decode cX4_firstAt 5 = .ok (.ifCond .eq 12, 3) := by decide +kernel
theorem dX4_firstAt_8 : decode cX4_firstAt 8 = .ok (.aload_n 0, 1) := by decide +kernel
theorem dX4_firstAt_9 : decode cX4_firstAt 9 = .ok (.getfield 15, 3) := by decide +kernel
theorem dX4_firstAt_12 : decode cX4_firstAt 12 = .ok (.iload_n 1, 1) := by decide +kernel
theorem dX4_firstAt_13 : decode cX4_firstAt 13 = .ok (.iaload, 1) := by decide +kernel
theorem dX4_firstAt_14 : decode cX4_firstAt 14 = .ok (.goto 4, 3) := by decide +kernel
theorem dX4_firstAt_17 : decode cX4_firstAt 17 = .ok (.iconst 0, 1) := by decide +kernel
theorem dX4_firstAt_18 : decode cX4_firstAt 18 = .ok (.ireturn, 1) := by decide +kernel
theorem dX4_secondAt_0 : decode cX4_secondAt 0 = .ok (.aload_n 0, 1) := by decide +kernel
theorem dX4_secondAt_1 : decode cX4_secondAt 1 = .ok (.iload_n 1, 1) := by decide +kernel
theorem dX4_secondAt_2 : decode cX4_secondAt 2 = .ok (.invokevirtual 38, 3) := by decide +kernel
theorem dX4_secondAt_5 : decode cX4_secondAt 5 = .ok (.ifCond .eq 12, 3) := by decide +kernel
theorem dX4_secondAt_8 : decode cX4_secondAt 8 = .ok (.aload_n 0, 1) := by decide +kernel
theorem dX4_secondAt_9 : decode cX4_secondAt 9 = .ok (.getfield 18, 3) := by decide +kernel
theorem dX4_secondAt_12 : decode cX4_secondAt 12 = .ok (.iload_n 1, 1) := by decide +kernel
theorem dX4_secondAt_13 : decode cX4_secondAt 13 = .ok (.iaload, 1) := by decide +kernel
theorem dX4_secondAt_14 : decode cX4_secondAt 14 = .ok (.goto 4, 3) := by decide +kernel
theorem dX4_secondAt_17 : decode cX4_secondAt 17 = .ok (.iconst 0, 1) := by decide +kernel
theorem dX4_secondAt_18 : decode cX4_secondAt 18 = .ok (.ireturn, 1) := by decide +kernel
theorem dX4_has_0 : decode cX4_has 0 = .ok (.iload_n 1, 1) := by decide +kernel
theorem dX4_has_1 : decode cX4_has 1 = .ok (.ifCond .lt 21, 3) := by decide +kernel
theorem dX4_has_4 : decode cX4_has 4 = .ok (.iload_n 1, 1) := by decide +kernel
theorem dX4_has_5 : decode cX4_has 5 = .ok (.aload_n 0, 1) := by decide +kernel
theorem dX4_has_6 : decode cX4_has 6 = .ok (.getfield 21, 3) := by decide +kernel
theorem dX4_has_9 : decode cX4_has 9 = .ok (.if_icmp .ge 13, 3) := by decide +kernel
theorem dX4_has_12 : decode cX4_has 12 = .ok (.iload_n 1, 1) := by decide +kernel
theorem dX4_has_13 : decode cX4_has 13 = .ok (.bipush 20, 2) := by decide +kernel
theorem dX4_has_15 : decode cX4_has 15 = .ok (.if_icmp .ge 7, 3) := by decide +kernel
theorem dX4_has_18 : decode cX4_has 18 = .ok (.iconst 1, 1) := by decide +kernel
theorem dX4_has_19 : decode cX4_has 19 = .ok (.goto 4, 3) := by decide +kernel
theorem dX4_has_22 : decode cX4_has 22 = .ok (.iconst 0, 1) := by decide +kernel
theorem dX4_has_23 : decode cX4_has 23 = .ok (.ireturn, 1) := by decide +kernel
theorem dX4_isFull_0 : decode cX4_isFull 0 = .ok (.aload_n 0, 1) := by decide +kernel
theorem dX4_isFull_1 : decode cX4_isFull 1 = .ok (.getfield 29, 3) := by decide +kernel
theorem dX4_isFull_4 : decode cX4_isFull 4 = .ok (.bipush 60, 2) := by decide +kernel
theorem dX4_isFull_6 : decode cX4_isFull 6 = .ok (.if_icmp .lt 7, 3) := by decide +kernel
theorem dX4_isFull_9 : decode cX4_isFull 9 = .ok (.iconst 1, 1) := by decide +kernel
theorem dX4_isFull_10 : decode cX4_isFull 10 = .ok (.goto 4, 3) := by decide +kernel
theorem dX4_isFull_13 : decode cX4_isFull 13 = .ok (.iconst 0, 1) := by decide +kernel
theorem dX4_isFull_14 : decode cX4_isFull 14 = .ok (.ireturn, 1) := by decide +kernel
theorem dX4_addSign_0 : decode cX4_addSign 0 = .ok (.aload_n 0, 1) := by decide +kernel
theorem dX4_addSign_1 : decode cX4_addSign 1 = .ok (.getfield 29, 3) := by decide +kernel
theorem dX4_addSign_4 : decode cX4_addSign 4 = .ok (.ifCond .lt 32, 3) := by decide +kernel
theorem dX4_addSign_7 : decode cX4_addSign 7 = .ok (.aload_n 0, 1) := by decide +kernel
theorem dX4_addSign_8 : decode cX4_addSign 8 = .ok (.getfield 29, 3) := by decide +kernel
theorem dX4_addSign_11 : decode cX4_addSign 11 = .ok (.bipush 60, 2) := by decide +kernel
theorem dX4_addSign_13 : decode cX4_addSign 13 = .ok (.if_icmp .ge 23, 3) := by decide +kernel
theorem dX4_addSign_16 : decode cX4_addSign 16 = .ok (.aload_n 0, 1) := by decide +kernel
theorem dX4_addSign_17 : decode cX4_addSign 17 = .ok (.getfield 25, 3) := by decide +kernel
theorem dX4_addSign_20 : decode cX4_addSign 20 = .ok (.aload_n 0, 1) := by decide +kernel
theorem dX4_addSign_21 : decode cX4_addSign 21 = .ok (.getfield 29, 3) := by decide +kernel
theorem dX4_addSign_24 : decode cX4_addSign 24 = .ok (.iload_n 1, 1) := by decide +kernel
theorem dX4_addSign_25 : decode cX4_addSign 25 = .ok (.castore, 1) := by decide +kernel
theorem dX4_addSign_26 : decode cX4_addSign 26 = .ok (.aload_n 0, 1) := by decide +kernel
theorem dX4_addSign_27 : decode cX4_addSign 27 = .ok (.dup, 1) := by decide +kernel
theorem dX4_addSign_28 : decode cX4_addSign 28 = .ok (.getfield 29, 3) := by decide +kernel
theorem dX4_addSign_31 : decode cX4_addSign 31 = .ok (.iconst 1, 1) := by decide +kernel
theorem dX4_addSign_32 : decode cX4_addSign 32 = .ok (.iadd, 1) := by decide +kernel
theorem dX4_addSign_33 : decode cX4_addSign 33 = .ok (.putfield 29, 3) := by decide +kernel
theorem dX4_addSign_36 : decode cX4_addSign 36 = .ok (.return_, 1) := by decide +kernel
theorem dX4_clearText_0 : decode cX4_clearText 0 = .ok (.aload_n 0, 1) := by decide +kernel
theorem dX4_clearText_1 : decode cX4_clearText 1 = .ok (.iconst 0, 1) := by decide +kernel
theorem dX4_clearText_2 : decode cX4_clearText 2 = .ok (.putfield 29, 3) := by decide +kernel
theorem dX4_clearText_5 : decode cX4_clearText 5 = .ok (.return_, 1) := by decide +kernel
theorem dX4_read_0 : decode cX4_read 0 = .ok (.aload_n 0, 1) := by decide +kernel
theorem dX4_read_1 : decode cX4_read 1 = .ok (.iconst 0, 1) := by decide +kernel
theorem dX4_read_2 : decode cX4_read 2 = .ok (.putfield 32, 3) := by decide +kernel
theorem dX4_read_5 : decode cX4_read 5 = .ok (.aload_n 0, 1) := by decide +kernel
theorem dX4_read_6 : decode cX4_read 6 = .ok (.iconst 0, 1) := by decide +kernel
theorem dX4_read_7 : decode cX4_read 7 = .ok (.putfield 21, 3) := by decide +kernel
theorem dX4_read_10 : decode cX4_read 10 = .ok (.iconst 0, 1) := by decide +kernel
theorem dX4_read_11 : decode cX4_read 11 = .ok (.istore_n 1, 1) := by decide +kernel
theorem dX4_read_12 : decode cX4_read 12 = .ok (.iload_n 1, 1) := by decide +kernel
theorem dX4_read_13 : decode cX4_read 13 = .ok (.bipush 20, 2) := by decide +kernel
theorem dX4_read_15 : decode cX4_read 15 = .ok (.if_icmp .ge 56, 3) := by decide +kernel
theorem dX4_read_18 : decode cX4_read 18 = .ok (.aload_n 0, 1) := by decide +kernel
theorem dX4_read_19 : decode cX4_read 19 = .ok (.iload_n 1, 1) := by decide +kernel
theorem dX4_read_20 : decode cX4_read 20 = .ok (.invokevirtual 42, 3) := by decide +kernel
theorem dX4_read_23 : decode cX4_read 23 = .ok (.ifCond .ne 8, 3) := by decide +kernel
theorem dX4_read_26 : decode cX4_read 26 = .ok (.aload_n 0, 1) := by decide +kernel
theorem dX4_read_27 : decode cX4_read 27 = .ok (.getfield 32, 3) := by decide +kernel
theorem dX4_read_30 : decode cX4_read 30 = .ok (.ireturn, 1) := by decide +kernel
theorem dX4_read_31 : decode cX4_read 31 = .ok (.aload_n 0, 1) := by decide +kernel
theorem dX4_read_32 : decode cX4_read 32 = .ok (.iload_n 1, 1) := by decide +kernel
theorem dX4_read_33 : decode cX4_read 33 = .ok (.iconst 1, 1) := by decide +kernel
theorem dX4_read_34 : decode cX4_read 34 = .ok (.iadd, 1) := by decide +kernel
theorem dX4_read_35 : decode cX4_read 35 = .ok (.putfield 21, 3) := by decide +kernel
theorem dX4_read_38 : decode cX4_read 38 = .ok (.aload_n 0, 1) := by decide +kernel
theorem dX4_read_39 : decode cX4_read 39 = .ok (.getfield 32, 3) := by decide +kernel
theorem dX4_read_42 : decode cX4_read 42 = .ok (.aload_n 0, 1) := by decide +kernel
theorem dX4_read_43 : decode cX4_read 43 = .ok (.getfield 29, 3) := by decide +kernel
theorem dX4_read_46 : decode cX4_read 46 = .ok (.if_icmp .ne 5, 3) := by decide +kernel
theorem dX4_read_49 : decode cX4_read 49 = .ok (.iconst (-1), 1) := by decide +kernel
theorem dX4_read_50 : decode cX4_read 50 = .ok (.ireturn, 1) := by decide +kernel
theorem dX4_read_51 : decode cX4_read 51 = .ok (.aload_n 0, 1) := by decide +kernel
theorem dX4_read_52 : decode cX4_read 52 = .ok (.bipush 59, 2) := by decide +kernel
theorem dX4_read_54 : decode cX4_read 54 = .ok (.invokevirtual 45, 3) := by decide +kernel
theorem dX4_read_57 : decode cX4_read 57 = .ok (.ifCond .ne 8, 3) := by decide +kernel
theorem dX4_read_60 : decode cX4_read 60 = .ok (.aload_n 0, 1) := by decide +kernel
theorem dX4_read_61 : decode cX4_read 61 = .ok (.getfield 32, 3) := by decide +kernel
theorem dX4_read_64 : decode cX4_read 64 = .ok (.ireturn, 1) := by decide +kernel
theorem dX4_read_65 : decode cX4_read 65 = .ok (.iinc 1 1, 3) := by decide +kernel
theorem dX4_read_68 : decode cX4_read 68 = .ok (.goto (-56), 3) := by decide +kernel
theorem dX4_read_71 : decode cX4_read 71 = .ok (.aload_n 0, 1) := by decide +kernel
theorem dX4_read_72 : decode cX4_read 72 = .ok (.getfield 32, 3) := by decide +kernel
theorem dX4_read_75 : decode cX4_read 75 = .ok (.ireturn, 1) := by decide +kernel
theorem dX4_readOrder_0 : decode cX4_readOrder 0 = .ok (.aload_n 0, 1) := by decide +kernel
theorem dX4_readOrder_1 : decode cX4_readOrder 1 = .ok (.invokevirtual 48, 3) := by decide +kernel
theorem dX4_readOrder_4 : decode cX4_readOrder 4 = .ok (.istore_n 2, 1) := by decide +kernel
theorem dX4_readOrder_5 : decode cX4_readOrder 5 = .ok (.iload_n 2, 1) := by decide +kernel
theorem dX4_readOrder_6 : decode cX4_readOrder 6 = .ok (.invokestatic 52, 3) := by decide +kernel
theorem dX4_readOrder_9 : decode cX4_readOrder 9 = .ok (.ifCond .ne 5, 3) := by decide +kernel
theorem dX4_readOrder_12 : decode cX4_readOrder 12 = .ok (.iconst 0, 1) := by decide +kernel
theorem dX4_readOrder_13 : decode cX4_readOrder 13 = .ok (.ireturn, 1) := by decide +kernel
theorem dX4_readOrder_14 : decode cX4_readOrder 14 = .ok (.aload_n 0, 1) := by decide +kernel
theorem dX4_readOrder_15 : decode cX4_readOrder 15 = .ok (.dup, 1) := by decide +kernel
theorem dX4_readOrder_16 : decode cX4_readOrder 16 = .ok (.getfield 32, 3) := by decide +kernel
theorem dX4_readOrder_19 : decode cX4_readOrder 19 = .ok (.iconst 1, 1) := by decide +kernel
theorem dX4_readOrder_20 : decode cX4_readOrder 20 = .ok (.iadd, 1) := by decide +kernel
theorem dX4_readOrder_21 : decode cX4_readOrder 21 = .ok (.putfield 32, 3) := by decide +kernel
theorem dX4_readOrder_24 : decode cX4_readOrder 24 = .ok (.iload_n 2, 1) := by decide +kernel
theorem dX4_readOrder_25 : decode cX4_readOrder 25 = .ok (.bipush 119, 2) := by decide +kernel
theorem dX4_readOrder_27 : decode cX4_readOrder 27 = .ok (.if_icmp .ne 13, 3) := by decide +kernel
theorem dX4_readOrder_30 : decode cX4_readOrder 30 = .ok (.aload_n 0, 1) := by decide +kernel
theorem dX4_readOrder_31 : decode cX4_readOrder 31 = .ok (.invokevirtual 55, 3) := by decide +kernel
theorem dX4_readOrder_34 : decode cX4_readOrder 34 = .ok (.ifCond .ne 15, 3) := by decide +kernel
theorem dX4_readOrder_37 : decode cX4_readOrder 37 = .ok (.goto 10, 3) := by decide +kernel
theorem dX4_readOrder_40 : decode cX4_readOrder 40 = .ok (.aload_n 0, 1) := by decide +kernel
theorem dX4_readOrder_41 : decode cX4_readOrder 41 = .ok (.invokevirtual 59, 3) := by decide +kernel
theorem dX4_readOrder_44 : decode cX4_readOrder 44 = .ok (.ifCond .ne 5, 3) := by decide +kernel
theorem dX4_readOrder_47 : decode cX4_readOrder 47 = .ok (.iconst 0, 1) := by decide +kernel
theorem dX4_readOrder_48 : decode cX4_readOrder 48 = .ok (.ireturn, 1) := by decide +kernel
theorem dX4_readOrder_49 : decode cX4_readOrder 49 = .ok (.aload_n 0, 1) := by decide +kernel
theorem dX4_readOrder_50 : decode cX4_readOrder 50 = .ok (.getfield 35, 3) := by decide +kernel
theorem dX4_readOrder_53 : decode cX4_readOrder 53 = .ok (.istore_n 3, 1) := by decide +kernel
theorem dX4_readOrder_54 : decode cX4_readOrder 54 = .ok (.iconst 0, 1) := by decide +kernel
theorem dX4_readOrder_55 : decode cX4_readOrder 55 = .ok (.istore 4, 2) := by decide +kernel
theorem dX4_readOrder_57 : decode cX4_readOrder 57 = .ok (.iload_n 2, 1) := by decide +kernel
theorem dX4_readOrder_58 : decode cX4_readOrder 58 = .ok (.invokestatic 62, 3) := by decide +kernel
theorem dX4_readOrder_61 : decode cX4_readOrder 61 = .ok (.ifCond .eq 27, 3) := by decide +kernel
theorem dX4_readOrder_64 : decode cX4_readOrder 64 = .ok (.aload_n 0, 1) := by decide +kernel
theorem dX4_readOrder_65 : decode cX4_readOrder 65 = .ok (.bipush 58, 2) := by decide +kernel
theorem dX4_readOrder_67 : decode cX4_readOrder 67 = .ok (.invokevirtual 45, 3) := by decide +kernel
theorem dX4_readOrder_70 : decode cX4_readOrder 70 = .ok (.ifCond .eq 10, 3) := by decide +kernel
theorem dX4_readOrder_73 : decode cX4_readOrder 73 = .ok (.aload_n 0, 1) := by decide +kernel
theorem dX4_readOrder_74 : decode cX4_readOrder 74 = .ok (.invokevirtual 59, 3) := by decide +kernel
theorem dX4_readOrder_77 : decode cX4_readOrder 77 = .ok (.ifCond .ne 5, 3) := by decide +kernel
theorem dX4_readOrder_80 : decode cX4_readOrder 80 = .ok (.iconst 0, 1) := by decide +kernel
theorem dX4_readOrder_81 : decode cX4_readOrder 81 = .ok (.ireturn, 1) := by decide +kernel
theorem dX4_readOrder_82 : decode cX4_readOrder 82 = .ok (.aload_n 0, 1) := by decide +kernel
theorem dX4_readOrder_83 : decode cX4_readOrder 83 = .ok (.getfield 35, 3) := by decide +kernel
theorem dX4_readOrder_86 : decode cX4_readOrder 86 = .ok (.istore 4, 2) := by decide +kernel
theorem dX4_readOrder_88 : decode cX4_readOrder 88 = .ok (.aload_n 0, 1) := by decide +kernel
theorem dX4_readOrder_89 : decode cX4_readOrder 89 = .ok (.iload_n 1, 1) := by decide +kernel
theorem dX4_readOrder_90 : decode cX4_readOrder 90 = .ok (.iload_n 2, 1) := by decide +kernel
theorem dX4_readOrder_91 : decode cX4_readOrder 91 = .ok (.iload_n 3, 1) := by decide +kernel
theorem dX4_readOrder_92 : decode cX4_readOrder 92 = .ok (.iload 4, 2) := by decide +kernel
theorem dX4_readOrder_94 : decode cX4_readOrder 94 = .ok (.invokevirtual 65, 3) := by decide +kernel
theorem dX4_readOrder_97 : decode cX4_readOrder 97 = .ok (.iconst 1, 1) := by decide +kernel
theorem dX4_readOrder_98 : decode cX4_readOrder 98 = .ok (.ireturn, 1) := by decide +kernel
theorem dX4_isKind_0 : decode cX4_isKind 0 = .ok (.iload_n 0, 1) := by decide +kernel
theorem dX4_isKind_1 : decode cX4_isKind 1 = .ok (.invokestatic 62, 3) := by decide +kernel
theorem dX4_isKind_4 : decode cX4_isKind 4 = .ok (.ifCond .ne 21, 3) := by decide +kernel
theorem dX4_isKind_7 : decode cX4_isKind 7 = .ok (.iload_n 0, 1) := by decide +kernel
theorem dX4_isKind_8 : decode cX4_isKind 8 = .ok (.bipush 103, 2) := by decide +kernel
theorem dX4_isKind_10 : decode cX4_isKind 10 = .ok (.if_icmp .eq 15, 3) := by decide +kernel
theorem dX4_isKind_13 : decode cX4_isKind 13 = .ok (.iload_n 0, 1) := by decide +kernel
theorem dX4_isKind_14 : decode cX4_isKind 14 = .ok (.bipush 110, 2) := by decide +kernel
theorem dX4_isKind_16 : decode cX4_isKind 16 = .ok (.if_icmp .eq 9, 3) := by decide +kernel
theorem dX4_isKind_19 : decode cX4_isKind 19 = .ok (.iload_n 0, 1) := by decide +kernel
theorem dX4_isKind_20 : decode cX4_isKind 20 = .ok (.bipush 119, 2) := by decide +kernel
theorem dX4_isKind_22 : decode cX4_isKind 22 = .ok (.if_icmp .ne 7, 3) := by decide +kernel
theorem dX4_isKind_25 : decode cX4_isKind 25 = .ok (.iconst 1, 1) := by decide +kernel
theorem dX4_isKind_26 : decode cX4_isKind 26 = .ok (.goto 4, 3) := by decide +kernel
theorem dX4_isKind_29 : decode cX4_isKind 29 = .ok (.iconst 0, 1) := by decide +kernel
theorem dX4_isKind_30 : decode cX4_isKind 30 = .ok (.ireturn, 1) := by decide +kernel
theorem dX4_hasAmount_0 : decode cX4_hasAmount 0 = .ok (.iload_n 0, 1) := by decide +kernel
theorem dX4_hasAmount_1 : decode cX4_hasAmount 1 = .ok (.bipush 108, 2) := by decide +kernel
theorem dX4_hasAmount_3 : decode cX4_hasAmount 3 = .ok (.if_icmp .eq 15, 3) := by decide +kernel
theorem dX4_hasAmount_6 : decode cX4_hasAmount 6 = .ok (.iload_n 0, 1) := by decide +kernel
theorem dX4_hasAmount_7 : decode cX4_hasAmount 7 = .ok (.bipush 113, 2) := by decide +kernel
theorem dX4_hasAmount_9 : decode cX4_hasAmount 9 = .ok (.if_icmp .eq 9, 3) := by decide +kernel
theorem dX4_hasAmount_12 : decode cX4_hasAmount 12 = .ok (.iload_n 0, 1) := by decide +kernel
theorem dX4_hasAmount_13 : decode cX4_hasAmount 13 = .ok (.bipush 114, 2) := by decide +kernel
theorem dX4_hasAmount_15 : decode cX4_hasAmount 15 = .ok (.if_icmp .ne 7, 3) := by decide +kernel
theorem dX4_hasAmount_18 : decode cX4_hasAmount 18 = .ok (.iconst 1, 1) := by decide +kernel
theorem dX4_hasAmount_19 : decode cX4_hasAmount 19 = .ok (.goto 4, 3) := by decide +kernel
theorem dX4_hasAmount_22 : decode cX4_hasAmount 22 = .ok (.iconst 0, 1) := by decide +kernel
theorem dX4_hasAmount_23 : decode cX4_hasAmount 23 = .ok (.ireturn, 1) := by decide +kernel
theorem dX4_put_0 : decode cX4_put 0 = .ok (.iload_n 1, 1) := by decide +kernel
theorem dX4_put_1 : decode cX4_put 1 = .ok (.ifCond .lt 31, 3) := by decide +kernel
theorem dX4_put_4 : decode cX4_put 4 = .ok (.iload_n 1, 1) := by decide +kernel
theorem dX4_put_5 : decode cX4_put 5 = .ok (.bipush 20, 2) := by decide +kernel
theorem dX4_put_7 : decode cX4_put 7 = .ok (.if_icmp .ge 25, 3) := by decide +kernel
theorem dX4_put_10 : decode cX4_put 10 = .ok (.aload_n 0, 1) := by decide +kernel
theorem dX4_put_11 : decode cX4_put 11 = .ok (.getfield 9, 3) := by decide +kernel
theorem dX4_put_14 : decode cX4_put 14 = .ok (.iload_n 1, 1) := by decide +kernel
theorem dX4_put_15 : decode cX4_put 15 = .ok (.iload_n 2, 1) := by decide +kernel
theorem dX4_put_16 : decode cX4_put 16 = .ok (.iastore, 1) := by decide +kernel
theorem dX4_put_17 : decode cX4_put 17 = .ok (.aload_n 0, 1) := by decide +kernel
theorem dX4_put_18 : decode cX4_put 18 = .ok (.getfield 15, 3) := by decide +kernel
theorem dX4_put_21 : decode cX4_put 21 = .ok (.iload_n 1, 1) := by decide +kernel
theorem dX4_put_22 : decode cX4_put 22 = .ok (.iload_n 3, 1) := by decide +kernel
theorem dX4_put_23 : decode cX4_put 23 = .ok (.iastore, 1) := by decide +kernel
theorem dX4_put_24 : decode cX4_put 24 = .ok (.aload_n 0, 1) := by decide +kernel
theorem dX4_put_25 : decode cX4_put 25 = .ok (.getfield 18, 3) := by decide +kernel
theorem dX4_put_28 : decode cX4_put 28 = .ok (.iload_n 1, 1) := by decide +kernel
theorem dX4_put_29 : decode cX4_put 29 = .ok (.iload 4, 2) := by decide +kernel
theorem dX4_put_31 : decode cX4_put 31 = .ok (.iastore, 1) := by decide +kernel
theorem dX4_put_32 : decode cX4_put 32 = .ok (.return_, 1) := by decide +kernel
theorem dX4_readNumber_0 : decode cX4_readNumber 0 = .ok (.aload_n 0, 1) := by decide +kernel
theorem dX4_readNumber_1 : decode cX4_readNumber 1 = .ok (.invokevirtual 55, 3) := by decide +kernel
theorem dX4_readNumber_4 : decode cX4_readNumber 4 = .ok (.ifCond .ne 5, 3) := by decide +kernel
theorem dX4_readNumber_7 : decode cX4_readNumber 7 = .ok (.iconst 0, 1) := by decide +kernel
theorem dX4_readNumber_8 : decode cX4_readNumber 8 = .ok (.ireturn, 1) := by decide +kernel
theorem dX4_readNumber_9 : decode cX4_readNumber 9 = .ok (.aload_n 0, 1) := by decide +kernel
theorem dX4_readNumber_10 : decode cX4_readNumber 10 = .ok (.getfield 35, 3) := by decide +kernel
theorem dX4_readNumber_13 : decode cX4_readNumber 13 = .ok (.istore_n 1, 1) := by decide +kernel
theorem dX4_readNumber_14 : decode cX4_readNumber 14 = .ok (.aload_n 0, 1) := by decide +kernel
theorem dX4_readNumber_15 : decode cX4_readNumber 15 = .ok (.invokevirtual 55, 3) := by decide +kernel
theorem dX4_readNumber_18 : decode cX4_readNumber 18 = .ok (.ifCond .eq 16, 3) := by decide +kernel
theorem dX4_readNumber_21 : decode cX4_readNumber 21 = .ok (.aload_n 0, 1) := by decide +kernel
theorem dX4_readNumber_22 : decode cX4_readNumber 22 = .ok (.bipush 10, 2) := by decide +kernel
theorem dX4_readNumber_24 : decode cX4_readNumber 24 = .ok (.iload_n 1, 1) := by decide +kernel
theorem dX4_readNumber_25 : decode cX4_readNumber 25 = .ok (.imul, 1) := by decide +kernel
theorem dX4_readNumber_26 : decode cX4_readNumber 26 = .ok (.aload_n 0, 1) := by decide +kernel
theorem dX4_readNumber_27 : decode cX4_readNumber 27 = .ok (.getfield 35, 3) := by decide +kernel
theorem dX4_readNumber_30 : decode cX4_readNumber 30 = .ok (.iadd, 1) := by decide +kernel
theorem dX4_readNumber_31 : decode cX4_readNumber 31 = .ok (.putfield 35, 3) := by decide +kernel
theorem dX4_readNumber_34 : decode cX4_readNumber 34 = .ok (.iconst 1, 1) := by decide +kernel
theorem dX4_readNumber_35 : decode cX4_readNumber 35 = .ok (.ireturn, 1) := by decide +kernel
theorem dX4_readDigit_0 : decode cX4_readDigit 0 = .ok (.aload_n 0, 1) := by decide +kernel
theorem dX4_readDigit_1 : decode cX4_readDigit 1 = .ok (.invokevirtual 48, 3) := by decide +kernel
theorem dX4_readDigit_4 : decode cX4_readDigit 4 = .ok (.bipush 48, 2) := by decide +kernel
theorem dX4_readDigit_6 : decode cX4_readDigit 6 = .ok (.isub, 1) := by decide +kernel
theorem dX4_readDigit_7 : decode cX4_readDigit 7 = .ok (.istore_n 1, 1) := by decide +kernel
theorem dX4_readDigit_8 : decode cX4_readDigit 8 = .ok (.iload_n 1, 1) := by decide +kernel
theorem dX4_readDigit_9 : decode cX4_readDigit 9 = .ok (.ifCond .lt 9, 3) := by decide +kernel
theorem dX4_readDigit_12 : decode cX4_readDigit 12 = .ok (.iload_n 1, 1) := by decide +kernel
theorem dX4_readDigit_13 : decode cX4_readDigit 13 = .ok (.bipush 9, 2) := by decide +kernel
theorem dX4_readDigit_15 : decode cX4_readDigit 15 = .ok (.if_icmp .le 5, 3) := by decide +kernel
theorem dX4_readDigit_18 : decode cX4_readDigit 18 = .ok (.iconst 0, 1) := by decide +kernel
theorem dX4_readDigit_19 : decode cX4_readDigit 19 = .ok (.ireturn, 1) := by decide +kernel
theorem dX4_readDigit_20 : decode cX4_readDigit 20 = .ok (.aload_n 0, 1) := by decide +kernel
theorem dX4_readDigit_21 : decode cX4_readDigit 21 = .ok (.iload_n 1, 1) := by decide +kernel
theorem dX4_readDigit_22 : decode cX4_readDigit 22 = .ok (.putfield 35, 3) := by decide +kernel
theorem dX4_readDigit_25 : decode cX4_readDigit 25 = .ok (.aload_n 0, 1) := by decide +kernel
theorem dX4_readDigit_26 : decode cX4_readDigit 26 = .ok (.dup, 1) := by decide +kernel
theorem dX4_readDigit_27 : decode cX4_readDigit 27 = .ok (.getfield 32, 3) := by decide +kernel
theorem dX4_readDigit_30 : decode cX4_readDigit 30 = .ok (.iconst 1, 1) := by decide +kernel
theorem dX4_readDigit_31 : decode cX4_readDigit 31 = .ok (.iadd, 1) := by decide +kernel
theorem dX4_readDigit_32 : decode cX4_readDigit 32 = .ok (.putfield 32, 3) := by decide +kernel
theorem dX4_readDigit_35 : decode cX4_readDigit 35 = .ok (.iconst 1, 1) := by decide +kernel
theorem dX4_readDigit_36 : decode cX4_readDigit 36 = .ok (.ireturn, 1) := by decide +kernel
theorem dX4_readSign_0 : decode cX4_readSign 0 = .ok (.aload_n 0, 1) := by decide +kernel
theorem dX4_readSign_1 : decode cX4_readSign 1 = .ok (.invokevirtual 48, 3) := by decide +kernel
theorem dX4_readSign_4 : decode cX4_readSign 4 = .ok (.iload_n 1, 1) := by decide +kernel
theorem dX4_readSign_5 : decode cX4_readSign 5 = .ok (.if_icmp .eq 5, 3) := by decide +kernel
theorem dX4_readSign_8 : decode cX4_readSign 8 = .ok (.iconst 0, 1) := by decide +kernel
theorem dX4_readSign_9 : decode cX4_readSign 9 = .ok (.ireturn, 1) := by decide +kernel
theorem dX4_readSign_10 : decode cX4_readSign 10 = .ok (.aload_n 0, 1) := by decide +kernel
theorem dX4_readSign_11 : decode cX4_readSign 11 = .ok (.dup, 1) := by decide +kernel
theorem dX4_readSign_12 : decode cX4_readSign 12 = .ok (.getfield 32, 3) := by decide +kernel
theorem dX4_readSign_15 : decode cX4_readSign 15 = .ok (.iconst 1, 1) := by decide +kernel
theorem dX4_readSign_16 : decode cX4_readSign 16 = .ok (.iadd, 1) := by decide +kernel
theorem dX4_readSign_17 : decode cX4_readSign 17 = .ok (.putfield 32, 3) := by decide +kernel
theorem dX4_readSign_20 : decode cX4_readSign 20 = .ok (.iconst 1, 1) := by decide +kernel
theorem dX4_readSign_21 : decode cX4_readSign 21 = .ok (.ireturn, 1) := by decide +kernel
theorem dX4_sign_0 : decode cX4_sign 0 = .ok (.aload_n 0, 1) := by decide +kernel
theorem dX4_sign_1 : decode cX4_sign 1 = .ok (.getfield 32, 3) := by decide +kernel
theorem dX4_sign_4 : decode cX4_sign 4 = .ok (.ifCond .lt 35, 3) := by decide +kernel
theorem dX4_sign_7 : decode cX4_sign 7 = .ok (.aload_n 0, 1) := by decide +kernel
theorem dX4_sign_8 : decode cX4_sign 8 = .ok (.getfield 32, 3) := by decide +kernel
theorem dX4_sign_11 : decode cX4_sign 11 = .ok (.aload_n 0, 1) := by decide +kernel
theorem dX4_sign_12 : decode cX4_sign 12 = .ok (.getfield 29, 3) := by decide +kernel
theorem dX4_sign_15 : decode cX4_sign 15 = .ok (.if_icmp .ge 24, 3) := by decide +kernel
theorem dX4_sign_18 : decode cX4_sign 18 = .ok (.aload_n 0, 1) := by decide +kernel
theorem dX4_sign_19 : decode cX4_sign 19 = .ok (.getfield 32, 3) := by decide +kernel
theorem dX4_sign_22 : decode cX4_sign 22 = .ok (.bipush 60, 2) := by decide +kernel
theorem dX4_sign_24 : decode cX4_sign 24 = .ok (.if_icmp .ge 15, 3) := by decide +kernel
theorem dX4_sign_27 : decode cX4_sign 27 = .ok (.aload_n 0, 1) := by decide +kernel
theorem dX4_sign_28 : decode cX4_sign 28 = .ok (.getfield 25, 3) := by decide +kernel
theorem dX4_sign_31 : decode cX4_sign 31 = .ok (.aload_n 0, 1) := by decide +kernel
theorem dX4_sign_32 : decode cX4_sign 32 = .ok (.getfield 32, 3) := by decide +kernel
theorem dX4_sign_35 : decode cX4_sign 35 = .ok (.caload, 1) := by decide +kernel
theorem dX4_sign_36 : decode cX4_sign 36 = .ok (.goto 4, 3) := by decide +kernel
theorem dX4_sign_39 : decode cX4_sign 39 = .ok (.iconst (-1), 1) := by decide +kernel
theorem dX4_sign_40 : decode cX4_sign 40 = .ok (.ireturn, 1) := by decide +kernel
theorem dX5_init_0 : decode cX5_init 0 = .ok (.aload_n 0, 1) := by decide +kernel
theorem dX5_init_1 : decode cX5_init 1 = .ok (.invokespecial 3, 3) := by decide +kernel
theorem dX5_init_4 : decode cX5_init 4 = .ok (.aload_n 0, 1) := by decide +kernel
theorem dX5_init_5 : decode cX5_init 5 = .ok (.bipush 64, 2) := by decide +kernel
theorem dX5_init_7 : decode cX5_init 7 = .ok (.newarray .int, 2) := by decide +kernel
theorem dX5_init_9 : decode cX5_init 9 = .ok (.putfield 9, 3) := by decide +kernel
theorem dX5_init_12 : decode cX5_init 12 = .ok (.aload_n 0, 1) := by decide +kernel
theorem dX5_init_13 : decode cX5_init 13 = .ok (.iconst 0, 1) := by decide +kernel
theorem dX5_init_14 : decode cX5_init 14 = .ok (.putfield 15, 3) := by decide +kernel
theorem dX5_init_17 : decode cX5_init 17 = .ok (.aload_n 0, 1) := by decide +kernel
theorem dX5_init_18 : decode cX5_init 18 = .ok (.iconst 0, 1) := by decide +kernel
theorem dX5_init_19 : decode cX5_init 19 = .ok (.putfield 19, 3) := by decide +kernel
theorem dX5_init_22 : decode cX5_init 22 = .ok (.aload_n 0, 1) := by decide +kernel
theorem dX5_init_23 : decode cX5_init 23 = .ok (.iconst 0, 1) := by decide +kernel
theorem dX5_init_24 : decode cX5_init 24 = .ok (.putfield 22, 3) := by decide +kernel
theorem dX5_init_27 : decode cX5_init 27 = .ok (.aload_n 0, 1) := by decide +kernel
theorem dX5_init_28 : decode cX5_init 28 = .ok (.getfield 9, 3) := by decide +kernel
theorem dX5_init_31 : decode cX5_init 31 = .ok (.iconst 0, 1) := by decide +kernel
theorem dX5_init_32 : decode cX5_init 32 = .ok (.bipush 64, 2) := by decide +kernel
theorem dX5_init_34 : decode cX5_init 34 = .ok (.iastore, 1) := by decide +kernel
theorem dX5_init_35 : decode cX5_init 35 = .ok (.return_, 1) := by decide +kernel
theorem dX5_copyFrom_0 : decode cX5_copyFrom 0 = .ok (.aload_n 1, 1) := by decide +kernel
theorem dX5_copyFrom_1 : decode cX5_copyFrom 1 = .ok (.getfield 9, 3) := by decide +kernel
theorem dX5_copyFrom_4 : decode cX5_copyFrom 4 = .ok (.iconst 0, 1) := by decide +kernel
theorem dX5_copyFrom_5 : decode cX5_copyFrom 5 = .ok (.aload_n 0, 1) := by decide +kernel
theorem dX5_copyFrom_6 : decode cX5_copyFrom 6 = .ok (.getfield 9, 3) := by decide +kernel
theorem dX5_copyFrom_9 : decode cX5_copyFrom 9 = .ok (.iconst 0, 1) := by decide +kernel
theorem dX5_copyFrom_10 : decode cX5_copyFrom 10 = .ok (.bipush 64, 2) := by decide +kernel
theorem dX5_copyFrom_12 : decode cX5_copyFrom 12 = .ok (.invokestatic 25, 3) := by decide +kernel
theorem dX5_copyFrom_15 : decode cX5_copyFrom 15 = .ok (.aload_n 0, 1) := by decide +kernel
theorem dX5_copyFrom_16 : decode cX5_copyFrom 16 = .ok (.aload_n 1, 1) := by decide +kernel
theorem dX5_copyFrom_17 : decode cX5_copyFrom 17 = .ok (.getfield 15, 3) := by decide +kernel
theorem dX5_copyFrom_20 : decode cX5_copyFrom 20 = .ok (.putfield 15, 3) := by decide +kernel
theorem dX5_copyFrom_23 : decode cX5_copyFrom 23 = .ok (.aload_n 0, 1) := by decide +kernel
theorem dX5_copyFrom_24 : decode cX5_copyFrom 24 = .ok (.aload_n 1, 1) := by decide +kernel
theorem dX5_copyFrom_25 : decode cX5_copyFrom 25 = .ok (.getfield 19, 3) := by decide +kernel
theorem dX5_copyFrom_28 : decode cX5_copyFrom 28 = .ok (.putfield 19, 3) := by decide +kernel
theorem dX5_copyFrom_31 : decode cX5_copyFrom 31 = .ok (.aload_n 0, 1) := by decide +kernel
theorem dX5_copyFrom_32 : decode cX5_copyFrom 32 = .ok (.aload_n 1, 1) := by decide +kernel
theorem dX5_copyFrom_33 : decode cX5_copyFrom 33 = .ok (.getfield 22, 3) := by decide +kernel
theorem dX5_copyFrom_36 : decode cX5_copyFrom 36 = .ok (.putfield 22, 3) := by decide +kernel
theorem dX5_copyFrom_39 : decode cX5_copyFrom 39 = .ok (.return_, 1) := by decide +kernel
theorem dX5_sizeAt_0 : decode cX5_sizeAt 0 = .ok (.iload_n 1, 1) := by decide +kernel
theorem dX5_sizeAt_1 : decode cX5_sizeAt 1 = .ok (.ifCond .lt 18, 3) := by decide +kernel
theorem dX5_sizeAt_4 : decode cX5_sizeAt 4 = .ok (.iload_n 1, 1) := by decide +kernel
theorem dX5_sizeAt_5 : decode cX5_sizeAt 5 = .ok (.bipush 64, 2) := by decide +kernel
theorem dX5_sizeAt_7 : decode cX5_sizeAt 7 = .ok (.if_icmp .ge 12, 3) := by decide +kernel
theorem dX5_sizeAt_10 : decode cX5_sizeAt 10 = .ok (.aload_n 0, 1) := by decide +kernel
theorem dX5_sizeAt_11 : decode cX5_sizeAt 11 = .ok (.getfield 9, 3) := by decide +kernel
theorem dX5_sizeAt_14 : decode cX5_sizeAt 14 = .ok (.iload_n 1, 1) := by decide +kernel
theorem dX5_sizeAt_15 : decode cX5_sizeAt 15 = .ok (.iaload, 1) := by decide +kernel
theorem dX5_sizeAt_16 : decode cX5_sizeAt 16 = .ok (.goto 4, 3) := by decide +kernel
theorem dX5_sizeAt_19 : decode cX5_sizeAt 19 = .ok (.iconst 0, 1) := by decide +kernel
theorem dX5_sizeAt_20 : decode cX5_sizeAt 20 = .ok (.ireturn, 1) := by decide +kernel
theorem dX5_setSize_0 : decode cX5_setSize 0 = .ok (.iload_n 1, 1) := by decide +kernel
theorem dX5_setSize_1 : decode cX5_setSize 1 = .ok (.ifCond .lt 16, 3) := by decide +kernel
theorem dX5_setSize_4 : decode cX5_setSize 4 = .ok (.iload_n 1, 1) := by decide +kernel
theorem dX5_setSize_5 : decode cX5_setSize 5 = .ok (.bipush 64, 2) := by decide +kernel
theorem dX5_setSize_7 : decode cX5_setSize 7 = .ok (.if_icmp .ge 10, 3) := by decide +kernel
theorem dX5_setSize_10 : decode cX5_setSize 10 = .ok (.aload_n 0, 1) := by decide +kernel
theorem dX5_setSize_11 : decode cX5_setSize 11 = .ok (.getfield 9, 3) := by decide +kernel
theorem dX5_setSize_14 : decode cX5_setSize 14 = .ok (.iload_n 1, 1) := by decide +kernel
theorem dX5_setSize_15 : decode cX5_setSize 15 = .ok (.iload_n 2, 1) := by decide +kernel
theorem dX5_setSize_16 : decode cX5_setSize 16 = .ok (.iastore, 1) := by decide +kernel
theorem dX5_setSize_17 : decode cX5_setSize 17 = .ok (.return_, 1) := by decide +kernel
theorem dX5_isUpperTaken_0 : decode cX5_isUpperTaken 0 = .ok (.aload_n 0, 1) := by decide +kernel
theorem dX5_isUpperTaken_1 : decode cX5_isUpperTaken 1 = .ok (.getfield 15, 3) := by decide +kernel
theorem dX5_isUpperTaken_4 : decode cX5_isUpperTaken 4 = .ok (.iconst 1, 1) := by decide +kernel
theorem dX5_isUpperTaken_5 : decode cX5_isUpperTaken 5 = .ok (.if_icmp .ne 7, 3) := by decide +kernel
theorem dX5_isUpperTaken_8 : decode cX5_isUpperTaken 8 = .ok (.iconst 1, 1) := by decide +kernel
theorem dX5_isUpperTaken_9 : decode cX5_isUpperTaken 9 = .ok (.goto 4, 3) := by decide +kernel
theorem dX5_isUpperTaken_12 : decode cX5_isUpperTaken 12 = .ok (.iconst 0, 1) := by decide +kernel
theorem dX5_isUpperTaken_13 : decode cX5_isUpperTaken 13 = .ok (.ireturn, 1) := by decide +kernel
theorem dX5_find_0 : decode cX5_find 0 = .ok (.iconst (-1), 1) := by decide +kernel
theorem dX5_find_1 : decode cX5_find 1 = .ok (.istore_n 2, 1) := by decide +kernel
theorem dX5_find_2 : decode cX5_find 2 = .ok (.iconst 0, 1) := by decide +kernel
theorem dX5_find_3 : decode cX5_find 3 = .ok (.istore_n 3, 1) := by decide +kernel
theorem dX5_find_4 : decode cX5_find 4 = .ok (.iconst 0, 1) := by decide +kernel
theorem dX5_find_5 : decode cX5_find 5 = .ok (.istore 4, 2) := by decide +kernel
theorem dX5_find_7 : decode cX5_find 7 = .ok (.iload 4, 2) := by decide +kernel
theorem dX5_find_9 : decode cX5_find 9 = .ok (.bipush 64, 2) := by decide +kernel
theorem dX5_find_11 : decode cX5_find 11 = .ok (.if_icmp .ge 49, 3) := by decide +kernel
theorem dX5_find_14 : decode cX5_find 14 = .ok (.aload_n 0, 1) := by decide +kernel
theorem dX5_find_15 : decode cX5_find 15 = .ok (.getfield 9, 3) := by decide +kernel
theorem dX5_find_18 : decode cX5_find 18 = .ok (.iload 4, 2) := by decide +kernel
theorem dX5_find_20 : decode cX5_find 20 = .ok (.iaload, 1) := by decide +kernel
theorem dX5_find_21 : decode cX5_find 21 = .ok (.istore 5, 2) := by decide +kernel
theorem dX5_find_23 : decode cX5_find 23 = .ok (.iload 5, 2) := by decide +kernel
theorem dX5_find_25 : decode cX5_find 25 = .ok (.iload_n 1, 1) := by decide +kernel
theorem dX5_find_26 : decode cX5_find 26 = .ok (.if_icmp .lt 28, 3) := by decide +kernel
theorem dX5_find_29 : decode cX5_find 29 = .ok (.iload 5, 2) := by decide +kernel
theorem dX5_find_31 : decode cX5_find 31 = .ok (.ifCond .le 23, 3) := by decide +kernel
theorem dX5_find_34 : decode cX5_find 34 = .ok (.iload_n 2, 1) := by decide +kernel
theorem dX5_find_35 : decode cX5_find 35 = .ok (.ifCond .lt 13, 3) := by decide +kernel
theorem dX5_find_38 : decode cX5_find 38 = .ok (.aload_n 0, 1) := by decide +kernel
theorem dX5_find_39 : decode cX5_find 39 = .ok (.iload 5, 2) := by decide +kernel
theorem dX5_find_41 : decode cX5_find 41 = .ok (.iload_n 3, 1) := by decide +kernel
theorem dX5_find_42 : decode cX5_find 42 = .ok (.invokevirtual 31, 3) := by decide +kernel
theorem dX5_find_45 : decode cX5_find 45 = .ok (.ifCond .eq 9, 3) := by decide +kernel
theorem dX5_find_48 : decode cX5_find 48 = .ok (.iload 4, 2) := by decide +kernel
theorem dX5_find_50 : decode cX5_find 50 = .ok (.istore_n 2, 1) := by decide +kernel
theorem dX5_find_51 : decode cX5_find 51 = .ok (.iload 5, 2) := by decide +kernel
theorem dX5_find_53 : decode cX5_find 53 = .ok (.istore_n 3, 1) := by decide +kernel
theorem dX5_find_54 : decode cX5_find 54 = .ok (.iinc 4 1, 3) := by decide +kernel
theorem dX5_find_57 : decode cX5_find 57 = .ok (.goto (-50), 3) := by decide +kernel
theorem dX5_find_60 : decode cX5_find 60 = .ok (.iload_n 2, 1) := by decide +kernel
theorem dX5_find_61 : decode cX5_find 61 = .ok (.ireturn, 1) := by decide +kernel
theorem dX5_isPreferred_0 : decode cX5_isPreferred 0 = .ok (.aload_n 0, 1) := by decide +kernel
theorem dX5_isPreferred_1 : decode cX5_isPreferred 1 = .ok (.getfield 15, 3) := by decide +kernel
theorem dX5_isPreferred_4 : decode cX5_isPreferred 4 = .ok (.lookupswitch 50 #[(0, 28), (1, 39)], 28) := by decide +kernel
theorem dX5_isPreferred_32 : decode cX5_isPreferred 32 = .ok (.iload_n 1, 1) := by decide +kernel
theorem dX5_isPreferred_33 : decode cX5_isPreferred 33 = .ok (.iload_n 2, 1) := by decide +kernel
theorem dX5_isPreferred_34 : decode cX5_isPreferred 34 = .ok (.if_icmp .ge 7, 3) := by decide +kernel
theorem dX5_isPreferred_37 : decode cX5_isPreferred 37 = .ok (.iconst 1, 1) := by decide +kernel
theorem dX5_isPreferred_38 : decode cX5_isPreferred 38 = .ok (.goto 4, 3) := by decide +kernel
theorem dX5_isPreferred_41 : decode cX5_isPreferred 41 = .ok (.iconst 0, 1) := by decide +kernel
theorem dX5_isPreferred_42 : decode cX5_isPreferred 42 = .ok (.ireturn, 1) := by decide +kernel
theorem dX5_isPreferred_43 : decode cX5_isPreferred 43 = .ok (.iload_n 1, 1) := by decide +kernel
theorem dX5_isPreferred_44 : decode cX5_isPreferred 44 = .ok (.iload_n 2, 1) := by decide +kernel
theorem dX5_isPreferred_45 : decode cX5_isPreferred 45 = .ok (.if_icmp .gt 7, 3) := by decide +kernel
theorem dX5_isPreferred_48 : decode cX5_isPreferred 48 = .ok (.iconst 1, 1) := by decide +kernel
theorem dX5_isPreferred_49 : decode cX5_isPreferred 49 = .ok (.goto 4, 3) := by decide +kernel
theorem dX5_isPreferred_52 : decode cX5_isPreferred 52 = .ok (.iconst 0, 1) := by decide +kernel
theorem dX5_isPreferred_53 : decode cX5_isPreferred 53 = .ok (.ireturn, 1) := by decide +kernel
theorem dX5_isPreferred_54 : decode cX5_isPreferred 54 = .ok (.iload_n 1, 1) := by decide +kernel
theorem dX5_isPreferred_55 : decode cX5_isPreferred 55 = .ok (.iload_n 2, 1) := by decide +kernel
theorem dX5_isPreferred_56 : decode cX5_isPreferred 56 = .ok (.if_icmp .le 7, 3) := by decide +kernel
theorem dX5_isPreferred_59 : decode cX5_isPreferred 59 = .ok (.iconst 1, 1) := by decide +kernel
theorem dX5_isPreferred_60 : decode cX5_isPreferred 60 = .ok (.goto 4, 3) := by decide +kernel
theorem dX5_isPreferred_63 : decode cX5_isPreferred 63 = .ok (.iconst 0, 1) := by decide +kernel
theorem dX5_isPreferred_64 : decode cX5_isPreferred 64 = .ok (.ireturn, 1) := by decide +kernel
theorem dX5_take_0 : decode cX5_take 0 = .ok (.aload_n 0, 1) := by decide +kernel
theorem dX5_take_1 : decode cX5_take 1 = .ok (.iload_n 1, 1) := by decide +kernel
theorem dX5_take_2 : decode cX5_take 2 = .ok (.invokevirtual 35, 3) := by decide +kernel
theorem dX5_take_5 : decode cX5_take 5 = .ok (.istore_n 2, 1) := by decide +kernel
theorem dX5_take_6 : decode cX5_take 6 = .ok (.iload_n 2, 1) := by decide +kernel
theorem dX5_take_7 : decode cX5_take 7 = .ok (.ifCond .ge 5, 3) := by decide +kernel
theorem dX5_take_10 : decode cX5_take 10 = .ok (.iconst (-1), 1) := by decide +kernel
theorem dX5_take_11 : decode cX5_take 11 = .ok (.ireturn, 1) := by decide +kernel
theorem dX5_take_12 : decode cX5_take 12 = .ok (.aload_n 0, 1) := by decide +kernel
theorem dX5_take_13 : decode cX5_take 13 = .ok (.iload_n 2, 1) := by decide +kernel
theorem dX5_take_14 : decode cX5_take 14 = .ok (.invokevirtual 39, 3) := by decide +kernel
theorem dX5_take_17 : decode cX5_take 17 = .ok (.istore_n 3, 1) := by decide +kernel
theorem dX5_take_18 : decode cX5_take 18 = .ok (.aload_n 0, 1) := by decide +kernel
theorem dX5_take_19 : decode cX5_take 19 = .ok (.iload_n 2, 1) := by decide +kernel
theorem dX5_take_20 : decode cX5_take 20 = .ok (.iconst 0, 1) := by decide +kernel
theorem dX5_take_21 : decode cX5_take 21 = .ok (.invokevirtual 42, 3) := by decide +kernel
theorem dX5_take_24 : decode cX5_take 24 = .ok (.aload_n 0, 1) := by decide +kernel
theorem dX5_take_25 : decode cX5_take 25 = .ok (.iload_n 2, 1) := by decide +kernel
theorem dX5_take_26 : decode cX5_take 26 = .ok (.iload_n 3, 1) := by decide +kernel
theorem dX5_take_27 : decode cX5_take 27 = .ok (.iload_n 1, 1) := by decide +kernel
theorem dX5_take_28 : decode cX5_take 28 = .ok (.invokevirtual 46, 3) := by decide +kernel
theorem dX5_take_31 : decode cX5_take 31 = .ok (.ireturn, 1) := by decide +kernel
theorem dX5_cutDown_0 : decode cX5_cutDown 0 = .ok (.iload_n 1, 1) := by decide +kernel
theorem dX5_cutDown_1 : decode cX5_cutDown 1 = .ok (.istore 4, 2) := by decide +kernel
theorem dX5_cutDown_3 : decode cX5_cutDown 3 = .ok (.iload_n 2, 1) := by decide +kernel
theorem dX5_cutDown_4 : decode cX5_cutDown 4 = .ok (.iconst 2, 1) := by decide +kernel
theorem dX5_cutDown_5 : decode cX5_cutDown 5 = .ok (.idiv, 1) := by decide +kernel
theorem dX5_cutDown_6 : decode cX5_cutDown 6 = .ok (.istore 5, 2) := by decide +kernel
theorem dX5_cutDown_8 : decode cX5_cutDown 8 = .ok (.iload 5, 2) := by decide +kernel
theorem dX5_cutDown_10 : decode cX5_cutDown 10 = .ok (.iload_n 3, 1) := by decide +kernel
theorem dX5_cutDown_11 : decode cX5_cutDown 11 = .ok (.if_icmp .lt 64, 3) := by decide +kernel
theorem dX5_cutDown_14 : decode cX5_cutDown 14 = .ok (.iload 5, 2) := by decide +kernel
theorem dX5_cutDown_16 : decode cX5_cutDown 16 = .ok (.iconst 1, 1) := by decide +kernel
theorem dX5_cutDown_17 : decode cX5_cutDown 17 = .ok (.if_icmp .lt 58, 3) := by decide +kernel
theorem dX5_cutDown_20 : decode cX5_cutDown 20 = .ok (.aload_n 0, 1) := by decide +kernel
theorem dX5_cutDown_21 : decode cX5_cutDown 21 = .ok (.dup, 1) := by decide +kernel
theorem dX5_cutDown_22 : decode cX5_cutDown 22 = .ok (.getfield 19, 3) := by decide +kernel
theorem dX5_cutDown_25 : decode cX5_cutDown 25 = .ok (.iconst 1, 1) := by decide +kernel
theorem dX5_cutDown_26 : decode cX5_cutDown 26 = .ok (.iadd, 1) := by decide +kernel
theorem dX5_cutDown_27 : decode cX5_cutDown 27 = .ok (.putfield 19, 3) := by decide +kernel
theorem dX5_cutDown_30 : decode cX5_cutDown 30 = .ok (.aload_n 0, 1) := by decide +kernel
theorem dX5_cutDown_31 : decode cX5_cutDown 31 = .ok (.invokevirtual 50, 3) := by decide +kernel
theorem dX5_cutDown_34 : decode cX5_cutDown 34 = .ok (.ifCond .eq 21, 3) := by decide +kernel
theorem dX5_cutDown_37 : decode cX5_cutDown 37 = .ok (.aload_n 0, 1) := by decide +kernel
theorem dX5_cutDown_38 : decode cX5_cutDown 38 = .ok (.iload 4, 2) := by decide +kernel
theorem dX5_cutDown_40 : decode cX5_cutDown 40 = .ok (.iload 5, 2) := by decide +kernel
theorem dX5_cutDown_42 : decode cX5_cutDown 42 = .ok (.invokevirtual 42, 3) := by decide +kernel
theorem dX5_cutDown_45 : decode cX5_cutDown 45 = .ok (.iload 4, 2) := by decide +kernel
theorem dX5_cutDown_47 : decode cX5_cutDown 47 = .ok (.iload 5, 2) := by decide +kernel
theorem dX5_cutDown_49 : decode cX5_cutDown 49 = .ok (.iadd, 1) := by decide +kernel
theorem dX5_cutDown_50 : decode cX5_cutDown 50 = .ok (.istore 4, 2) := by decide +kernel
theorem dX5_cutDown_52 : decode cX5_cutDown 52 = .ok (.goto 14, 3) := by decide +kernel
theorem dX5_cutDown_55 : decode cX5_cutDown 55 = .ok (.aload_n 0, 1) := by decide +kernel
theorem dX5_cutDown_56 : decode cX5_cutDown 56 = .ok (.iload 4, 2) := by decide +kernel
theorem dX5_cutDown_58 : decode cX5_cutDown 58 = .ok (.iload 5, 2) := by decide +kernel
theorem dX5_cutDown_60 : decode cX5_cutDown 60 = .ok (.iadd, 1) := by decide +kernel
theorem dX5_cutDown_61 : decode cX5_cutDown 61 = .ok (.iload 5, 2) := by decide +kernel
theorem dX5_cutDown_63 : decode cX5_cutDown 63 = .ok (.invokevirtual 42, 3) := by decide +kernel
theorem dX5_cutDown_66 : decode cX5_cutDown 66 = .ok (.iload 5, 2) := by decide +kernel
theorem dX5_cutDown_68 : decode cX5_cutDown 68 = .ok (.iconst 2, 1) := by decide +kernel
theorem dX5_cutDown_69 : decode cX5_cutDown 69 = .ok (.idiv, 1) := by decide +kernel
theorem dX5_cutDown_70 : decode cX5_cutDown 70 = .ok (.istore 5, 2) := by decide +kernel
theorem dX5_cutDown_72 : decode cX5_cutDown 72 = .ok (.goto (-64), 3) := by decide +kernel
theorem dX5_cutDown_75 : decode cX5_cutDown 75 = .ok (.iload 4, 2) := by decide +kernel
theorem dX5_cutDown_77 : decode cX5_cutDown 77 = .ok (.ireturn, 1) := by decide +kernel
theorem dX5_release_0 : decode cX5_release 0 = .ok (.aload_n 0, 1) := by decide +kernel
theorem dX5_release_1 : decode cX5_release 1 = .ok (.iload_n 1, 1) := by decide +kernel
theorem dX5_release_2 : decode cX5_release 2 = .ok (.iload_n 2, 1) := by decide +kernel
theorem dX5_release_3 : decode cX5_release 3 = .ok (.invokevirtual 54, 3) := by decide +kernel
theorem dX5_release_6 : decode cX5_release 6 = .ok (.istore_n 3, 1) := by decide +kernel
theorem dX5_release_7 : decode cX5_release 7 = .ok (.iload_n 2, 1) := by decide +kernel
theorem dX5_release_8 : decode cX5_release 8 = .ok (.istore 4, 2) := by decide +kernel
theorem dX5_release_10 : decode cX5_release 10 = .ok (.iload 4, 2) := by decide +kernel
theorem dX5_release_12 : decode cX5_release 12 = .ok (.iconst 1, 1) := by decide +kernel
theorem dX5_release_13 : decode cX5_release 13 = .ok (.if_icmp .lt 39, 3) := by decide +kernel
theorem dX5_release_16 : decode cX5_release 16 = .ok (.iload 4, 2) := by decide +kernel
theorem dX5_release_18 : decode cX5_release 18 = .ok (.iload_n 3, 1) := by decide +kernel
theorem dX5_release_19 : decode cX5_release 19 = .ok (.if_icmp .ge 33, 3) := by decide +kernel
theorem dX5_release_22 : decode cX5_release 22 = .ok (.aload_n 0, 1) := by decide +kernel
theorem dX5_release_23 : decode cX5_release 23 = .ok (.iload_n 1, 1) := by decide +kernel
theorem dX5_release_24 : decode cX5_release 24 = .ok (.iload 4, 2) := by decide +kernel
theorem dX5_release_26 : decode cX5_release 26 = .ok (.invokestatic 58, 3) := by decide +kernel
theorem dX5_release_29 : decode cX5_release 29 = .ok (.iconst 0, 1) := by decide +kernel
theorem dX5_release_30 : decode cX5_release 30 = .ok (.invokevirtual 42, 3) := by decide +kernel
theorem dX5_release_33 : decode cX5_release 33 = .ok (.aload_n 0, 1) := by decide +kernel
theorem dX5_release_34 : decode cX5_release 34 = .ok (.dup, 1) := by decide +kernel
theorem dX5_release_35 : decode cX5_release 35 = .ok (.getfield 22, 3) := by decide +kernel
theorem dX5_release_38 : decode cX5_release 38 = .ok (.iconst 1, 1) := by decide +kernel
theorem dX5_release_39 : decode cX5_release 39 = .ok (.iadd, 1) := by decide +kernel
theorem dX5_release_40 : decode cX5_release 40 = .ok (.putfield 22, 3) := by decide +kernel
theorem dX5_release_43 : decode cX5_release 43 = .ok (.iload 4, 2) := by decide +kernel
theorem dX5_release_45 : decode cX5_release 45 = .ok (.iconst 2, 1) := by decide +kernel
theorem dX5_release_46 : decode cX5_release 46 = .ok (.imul, 1) := by decide +kernel
theorem dX5_release_47 : decode cX5_release 47 = .ok (.istore 4, 2) := by decide +kernel
theorem dX5_release_49 : decode cX5_release 49 = .ok (.goto (-39), 3) := by decide +kernel
theorem dX5_release_52 : decode cX5_release 52 = .ok (.aload_n 0, 1) := by decide +kernel
theorem dX5_release_53 : decode cX5_release 53 = .ok (.iload_n 1, 1) := by decide +kernel
theorem dX5_release_54 : decode cX5_release 54 = .ok (.iload_n 3, 1) := by decide +kernel
theorem dX5_release_55 : decode cX5_release 55 = .ok (.invokestatic 61, 3) := by decide +kernel
theorem dX5_release_58 : decode cX5_release 58 = .ok (.iload_n 3, 1) := by decide +kernel
theorem dX5_release_59 : decode cX5_release 59 = .ok (.invokevirtual 42, 3) := by decide +kernel
theorem dX5_release_62 : decode cX5_release 62 = .ok (.return_, 1) := by decide +kernel
theorem dX5_joinedSize_0 : decode cX5_joinedSize 0 = .ok (.iload_n 2, 1) := by decide +kernel
theorem dX5_joinedSize_1 : decode cX5_joinedSize 1 = .ok (.istore_n 3, 1) := by decide +kernel
theorem dX5_joinedSize_2 : decode cX5_joinedSize 2 = .ok (.iload_n 3, 1) := by decide +kernel
theorem dX5_joinedSize_3 : decode cX5_joinedSize 3 = .ok (.iconst 1, 1) := by decide +kernel
theorem dX5_joinedSize_4 : decode cX5_joinedSize 4 = .ok (.if_icmp .lt 29, 3) := by decide +kernel
theorem dX5_joinedSize_7 : decode cX5_joinedSize 7 = .ok (.iload_n 3, 1) := by decide +kernel
theorem dX5_joinedSize_8 : decode cX5_joinedSize 8 = .ok (.bipush 64, 2) := by decide +kernel
theorem dX5_joinedSize_10 : decode cX5_joinedSize 10 = .ok (.if_icmp .ge 23, 3) := by decide +kernel
theorem dX5_joinedSize_13 : decode cX5_joinedSize 13 = .ok (.aload_n 0, 1) := by decide +kernel
theorem dX5_joinedSize_14 : decode cX5_joinedSize 14 = .ok (.iload_n 1, 1) := by decide +kernel
theorem dX5_joinedSize_15 : decode cX5_joinedSize 15 = .ok (.iload_n 3, 1) := by decide +kernel
theorem dX5_joinedSize_16 : decode cX5_joinedSize 16 = .ok (.invokestatic 58, 3) := by decide +kernel
theorem dX5_joinedSize_19 : decode cX5_joinedSize 19 = .ok (.invokevirtual 39, 3) := by decide +kernel
theorem dX5_joinedSize_22 : decode cX5_joinedSize 22 = .ok (.iload_n 3, 1) := by decide +kernel
theorem dX5_joinedSize_23 : decode cX5_joinedSize 23 = .ok (.if_icmp .ne 10, 3) := by decide +kernel
theorem dX5_joinedSize_26 : decode cX5_joinedSize 26 = .ok (.iload_n 3, 1) := by decide +kernel
theorem dX5_joinedSize_27 : decode cX5_joinedSize 27 = .ok (.iconst 2, 1) := by decide +kernel
theorem dX5_joinedSize_28 : decode cX5_joinedSize 28 = .ok (.imul, 1) := by decide +kernel
theorem dX5_joinedSize_29 : decode cX5_joinedSize 29 = .ok (.istore_n 3, 1) := by decide +kernel
theorem dX5_joinedSize_30 : decode cX5_joinedSize 30 = .ok (.goto (-28), 3) := by decide +kernel
theorem dX5_joinedSize_33 : decode cX5_joinedSize 33 = .ok (.iload_n 3, 1) := by decide +kernel
theorem dX5_joinedSize_34 : decode cX5_joinedSize 34 = .ok (.ireturn, 1) := by decide +kernel
theorem dX5_greatestSize_0 : decode cX5_greatestSize 0 = .ok (.iconst 0, 1) := by decide +kernel
theorem dX5_greatestSize_1 : decode cX5_greatestSize 1 = .ok (.istore_n 1, 1) := by decide +kernel
theorem dX5_greatestSize_2 : decode cX5_greatestSize 2 = .ok (.iconst 0, 1) := by decide +kernel
theorem dX5_greatestSize_3 : decode cX5_greatestSize 3 = .ok (.istore_n 2, 1) := by decide +kernel
theorem dX5_greatestSize_4 : decode cX5_greatestSize 4 = .ok (.iload_n 2, 1) := by decide +kernel
theorem dX5_greatestSize_5 : decode cX5_greatestSize 5 = .ok (.bipush 64, 2) := by decide +kernel
theorem dX5_greatestSize_7 : decode cX5_greatestSize 7 = .ok (.if_icmp .ge 20, 3) := by decide +kernel
theorem dX5_greatestSize_10 : decode cX5_greatestSize 10 = .ok (.iload_n 1, 1) := by decide +kernel
theorem dX5_greatestSize_11 : decode cX5_greatestSize 11 = .ok (.aload_n 0, 1) := by decide +kernel
theorem dX5_greatestSize_12 : decode cX5_greatestSize 12 = .ok (.getfield 9, 3) := by decide +kernel
theorem dX5_greatestSize_15 : decode cX5_greatestSize 15 = .ok (.iload_n 2, 1) := by decide +kernel
theorem dX5_greatestSize_16 : decode cX5_greatestSize 16 = .ok (.iaload, 1) := by decide +kernel
theorem dX5_greatestSize_17 : decode cX5_greatestSize 17 = .ok (.invokestatic 64, 3) := by decide +kernel
theorem dX5_greatestSize_20 : decode cX5_greatestSize 20 = .ok (.istore_n 1, 1) := by decide +kernel
theorem dX5_greatestSize_21 : decode cX5_greatestSize 21 = .ok (.iinc 2 1, 3) := by decide +kernel
theorem dX5_greatestSize_24 : decode cX5_greatestSize 24 = .ok (.goto (-20), 3) := by decide +kernel
theorem dX5_greatestSize_27 : decode cX5_greatestSize 27 = .ok (.iload_n 1, 1) := by decide +kernel
theorem dX5_greatestSize_28 : decode cX5_greatestSize 28 = .ok (.ireturn, 1) := by decide +kernel
theorem dX5_countOfSize_0 : decode cX5_countOfSize 0 = .ok (.iconst 0, 1) := by decide +kernel
theorem dX5_countOfSize_1 : decode cX5_countOfSize 1 = .ok (.istore_n 2, 1) := by decide +kernel
theorem dX5_countOfSize_2 : decode cX5_countOfSize 2 = .ok (.iconst 0, 1) := by decide +kernel
theorem dX5_countOfSize_3 : decode cX5_countOfSize 3 = .ok (.istore_n 3, 1) := by decide +kernel
theorem dX5_countOfSize_4 : decode cX5_countOfSize 4 = .ok (.iload_n 3, 1) := by decide +kernel
theorem dX5_countOfSize_5 : decode cX5_countOfSize 5 = .ok (.bipush 64, 2) := by decide +kernel
theorem dX5_countOfSize_7 : decode cX5_countOfSize 7 = .ok (.if_icmp .ge 22, 3) := by decide +kernel
theorem dX5_countOfSize_10 : decode cX5_countOfSize 10 = .ok (.aload_n 0, 1) := by decide +kernel
theorem dX5_countOfSize_11 : decode cX5_countOfSize 11 = .ok (.getfield 9, 3) := by decide +kernel
theorem dX5_countOfSize_14 : decode cX5_countOfSize 14 = .ok (.iload_n 3, 1) := by decide +kernel
theorem dX5_countOfSize_15 : decode cX5_countOfSize 15 = .ok (.iaload, 1) := by decide +kernel
theorem dX5_countOfSize_16 : decode cX5_countOfSize 16 = .ok (.iload_n 1, 1) := by decide +kernel
theorem dX5_countOfSize_17 : decode cX5_countOfSize 17 = .ok (.if_icmp .ne 6, 3) := by decide +kernel
theorem dX5_countOfSize_20 : decode cX5_countOfSize 20 = .ok (.iinc 2 1, 3) := by decide +kernel
theorem dX5_countOfSize_23 : decode cX5_countOfSize 23 = .ok (.iinc 3 1, 3) := by decide +kernel
theorem dX5_countOfSize_26 : decode cX5_countOfSize 26 = .ok (.goto (-22), 3) := by decide +kernel
theorem dX5_countOfSize_29 : decode cX5_countOfSize 29 = .ok (.iload_n 2, 1) := by decide +kernel
theorem dX5_countOfSize_30 : decode cX5_countOfSize 30 = .ok (.ireturn, 1) := by decide +kernel
theorem dX5_countAll_0 : decode cX5_countAll 0 = .ok (.bipush 64, 2) := by decide +kernel
theorem dX5_countAll_2 : decode cX5_countAll 2 = .ok (.aload_n 0, 1) := by decide +kernel
theorem dX5_countAll_3 : decode cX5_countAll 3 = .ok (.iconst 0, 1) := by decide +kernel
theorem dX5_countAll_4 : decode cX5_countAll 4 = .ok (.invokevirtual 69, 3) := by decide +kernel
theorem dX5_countAll_7 : decode cX5_countAll 7 = .ok (.isub, 1) := by decide +kernel
theorem dX5_countAll_8 : decode cX5_countAll 8 = .ok (.ireturn, 1) := by decide +kernel
theorem dX5_countRoomFor_0 : decode cX5_countRoomFor 0 = .ok (.iconst 0, 1) := by decide +kernel
theorem dX5_countRoomFor_1 : decode cX5_countRoomFor 1 = .ok (.istore_n 2, 1) := by decide +kernel
theorem dX5_countRoomFor_2 : decode cX5_countRoomFor 2 = .ok (.iconst 0, 1) := by decide +kernel
theorem dX5_countRoomFor_3 : decode cX5_countRoomFor 3 = .ok (.istore_n 3, 1) := by decide +kernel
theorem dX5_countRoomFor_4 : decode cX5_countRoomFor 4 = .ok (.iload_n 1, 1) := by decide +kernel
theorem dX5_countRoomFor_5 : decode cX5_countRoomFor 5 = .ok (.iconst 1, 1) := by decide +kernel
theorem dX5_countRoomFor_6 : decode cX5_countRoomFor 6 = .ok (.if_icmp .lt 26, 3) := by decide +kernel
theorem dX5_countRoomFor_9 : decode cX5_countRoomFor 9 = .ok (.iload_n 3, 1) := by decide +kernel
theorem dX5_countRoomFor_10 : decode cX5_countRoomFor 10 = .ok (.bipush 64, 2) := by decide +kernel
theorem dX5_countRoomFor_12 : decode cX5_countRoomFor 12 = .ok (.if_icmp .ge 20, 3) := by decide +kernel
theorem dX5_countRoomFor_15 : decode cX5_countRoomFor 15 = .ok (.iload_n 2, 1) := by decide +kernel
theorem dX5_countRoomFor_16 : decode cX5_countRoomFor 16 = .ok (.aload_n 0, 1) := by decide +kernel
theorem dX5_countRoomFor_17 : decode cX5_countRoomFor 17 = .ok (.getfield 9, 3) := by decide +kernel
theorem dX5_countRoomFor_20 : decode cX5_countRoomFor 20 = .ok (.iload_n 3, 1) := by decide +kernel
theorem dX5_countRoomFor_21 : decode cX5_countRoomFor 21 = .ok (.iaload, 1) := by decide +kernel
theorem dX5_countRoomFor_22 : decode cX5_countRoomFor 22 = .ok (.iload_n 1, 1) := by decide +kernel
theorem dX5_countRoomFor_23 : decode cX5_countRoomFor 23 = .ok (.idiv, 1) := by decide +kernel
theorem dX5_countRoomFor_24 : decode cX5_countRoomFor 24 = .ok (.iadd, 1) := by decide +kernel
theorem dX5_countRoomFor_25 : decode cX5_countRoomFor 25 = .ok (.istore_n 2, 1) := by decide +kernel
theorem dX5_countRoomFor_26 : decode cX5_countRoomFor 26 = .ok (.iinc 3 1, 3) := by decide +kernel
theorem dX5_countRoomFor_29 : decode cX5_countRoomFor 29 = .ok (.goto (-25), 3) := by decide +kernel
theorem dX5_countRoomFor_32 : decode cX5_countRoomFor 32 = .ok (.iload_n 2, 1) := by decide +kernel
theorem dX5_countRoomFor_33 : decode cX5_countRoomFor 33 = .ok (.ireturn, 1) := by decide +kernel
theorem dX5_startOf_0 : decode cX5_startOf 0 = .ok (.iconst 0, 1) := by decide +kernel
theorem dX5_startOf_1 : decode cX5_startOf 1 = .ok (.istore_n 2, 1) := by decide +kernel
theorem dX5_startOf_2 : decode cX5_startOf 2 = .ok (.iload_n 2, 1) := by decide +kernel
theorem dX5_startOf_3 : decode cX5_startOf 3 = .ok (.bipush 64, 2) := by decide +kernel
theorem dX5_startOf_5 : decode cX5_startOf 5 = .ok (.if_icmp .ge 25, 3) := by decide +kernel
theorem dX5_startOf_8 : decode cX5_startOf 8 = .ok (.iload_n 1, 1) := by decide +kernel
theorem dX5_startOf_9 : decode cX5_startOf 9 = .ok (.iload_n 2, 1) := by decide +kernel
theorem dX5_startOf_10 : decode cX5_startOf 10 = .ok (.aload_n 0, 1) := by decide +kernel
theorem dX5_startOf_11 : decode cX5_startOf 11 = .ok (.getfield 9, 3) := by decide +kernel
theorem dX5_startOf_14 : decode cX5_startOf 14 = .ok (.iload_n 2, 1) := by decide +kernel
theorem dX5_startOf_15 : decode cX5_startOf 15 = .ok (.iaload, 1) := by decide +kernel
theorem dX5_startOf_16 : decode cX5_startOf 16 = .ok (.invokestatic 72, 3) := by decide +kernel
theorem dX5_startOf_19 : decode cX5_startOf 19 = .ok (.ifCond .eq 5, 3) := by decide +kernel
theorem dX5_startOf_22 : decode cX5_startOf 22 = .ok (.iload_n 2, 1) := by decide +kernel
theorem dX5_startOf_23 : decode cX5_startOf 23 = .ok (.ireturn, 1) := by decide +kernel
theorem dX5_startOf_24 : decode cX5_startOf 24 = .ok (.iinc 2 1, 3) := by decide +kernel
theorem dX5_startOf_27 : decode cX5_startOf 27 = .ok (.goto (-25), 3) := by decide +kernel
theorem dX5_startOf_30 : decode cX5_startOf 30 = .ok (.iconst (-1), 1) := by decide +kernel
theorem dX5_startOf_31 : decode cX5_startOf 31 = .ok (.ireturn, 1) := by decide +kernel
theorem dX5_countWith_0 : decode cX5_countWith 0 = .ok (.iconst 0, 1) := by decide +kernel
theorem dX5_countWith_1 : decode cX5_countWith 1 = .ok (.istore_n 2, 1) := by decide +kernel
theorem dX5_countWith_2 : decode cX5_countWith 2 = .ok (.iconst 0, 1) := by decide +kernel
theorem dX5_countWith_3 : decode cX5_countWith 3 = .ok (.istore_n 3, 1) := by decide +kernel
theorem dX5_countWith_4 : decode cX5_countWith 4 = .ok (.iload_n 3, 1) := by decide +kernel
theorem dX5_countWith_5 : decode cX5_countWith 5 = .ok (.bipush 64, 2) := by decide +kernel
theorem dX5_countWith_7 : decode cX5_countWith 7 = .ok (.if_icmp .ge 26, 3) := by decide +kernel
theorem dX5_countWith_10 : decode cX5_countWith 10 = .ok (.iload_n 1, 1) := by decide +kernel
theorem dX5_countWith_11 : decode cX5_countWith 11 = .ok (.iload_n 3, 1) := by decide +kernel
theorem dX5_countWith_12 : decode cX5_countWith 12 = .ok (.aload_n 0, 1) := by decide +kernel
theorem dX5_countWith_13 : decode cX5_countWith 13 = .ok (.getfield 9, 3) := by decide +kernel
theorem dX5_countWith_16 : decode cX5_countWith 16 = .ok (.iload_n 3, 1) := by decide +kernel
theorem dX5_countWith_17 : decode cX5_countWith 17 = .ok (.iaload, 1) := by decide +kernel
theorem dX5_countWith_18 : decode cX5_countWith 18 = .ok (.invokestatic 72, 3) := by decide +kernel
theorem dX5_countWith_21 : decode cX5_countWith 21 = .ok (.ifCond .eq 6, 3) := by decide +kernel
theorem dX5_countWith_24 : decode cX5_countWith 24 = .ok (.iinc 2 1, 3) := by decide +kernel
theorem dX5_countWith_27 : decode cX5_countWith 27 = .ok (.iinc 3 1, 3) := by decide +kernel
theorem dX5_countWith_30 : decode cX5_countWith 30 = .ok (.goto (-26), 3) := by decide +kernel
theorem dX5_countWith_33 : decode cX5_countWith 33 = .ok (.iload_n 2, 1) := by decide +kernel
theorem dX5_countWith_34 : decode cX5_countWith 34 = .ok (.ireturn, 1) := by decide +kernel
theorem dX5_isWithin_0 : decode cX5_isWithin 0 = .ok (.iload_n 1, 1) := by decide +kernel
theorem dX5_isWithin_1 : decode cX5_isWithin 1 = .ok (.iload_n 0, 1) := by decide +kernel
theorem dX5_isWithin_2 : decode cX5_isWithin 2 = .ok (.if_icmp .gt 14, 3) := by decide +kernel
theorem dX5_isWithin_5 : decode cX5_isWithin 5 = .ok (.iload_n 0, 1) := by decide +kernel
theorem dX5_isWithin_6 : decode cX5_isWithin 6 = .ok (.iload_n 1, 1) := by decide +kernel
theorem dX5_isWithin_7 : decode cX5_isWithin 7 = .ok (.iload_n 2, 1) := by decide +kernel
theorem dX5_isWithin_8 : decode cX5_isWithin 8 = .ok (.iadd, 1) := by decide +kernel
theorem dX5_isWithin_9 : decode cX5_isWithin 9 = .ok (.if_icmp .ge 7, 3) := by decide +kernel
theorem dX5_isWithin_12 : decode cX5_isWithin 12 = .ok (.iconst 1, 1) := by decide +kernel
theorem dX5_isWithin_13 : decode cX5_isWithin 13 = .ok (.goto 4, 3) := by decide +kernel
theorem dX5_isWithin_16 : decode cX5_isWithin 16 = .ok (.iconst 0, 1) := by decide +kernel
theorem dX5_isWithin_17 : decode cX5_isWithin 17 = .ok (.ireturn, 1) := by decide +kernel
theorem dX6_init_0 : decode cX6_init 0 = .ok (.aload_n 0, 1) := by decide +kernel
theorem dX6_init_1 : decode cX6_init 1 = .ok (.invokespecial 3, 3) := by decide +kernel
theorem dX6_init_4 : decode cX6_init 4 = .ok (.aload_n 0, 1) := by decide +kernel
theorem dX6_init_5 : decode cX6_init 5 = .ok (.bipush 6, 2) := by decide +kernel
theorem dX6_init_7 : decode cX6_init 7 = .ok (.newarray .int, 2) := by decide +kernel
theorem dX6_init_9 : decode cX6_init 9 = .ok (.putfield 9, 3) := by decide +kernel
theorem dX6_init_12 : decode cX6_init 12 = .ok (.aload_n 0, 1) := by decide +kernel
theorem dX6_init_13 : decode cX6_init 13 = .ok (.bipush 6, 2) := by decide +kernel
theorem dX6_init_15 : decode cX6_init 15 = .ok (.newarray .int, 2) := by decide +kernel
theorem dX6_init_17 : decode cX6_init 17 = .ok (.putfield 15, 3) := by decide +kernel
theorem dX6_init_20 : decode cX6_init 20 = .ok (.aload_n 0, 1) := by decide +kernel
theorem dX6_init_21 : decode cX6_init 21 = .ok (.iconst 0, 1) := by decide +kernel
theorem dX6_init_22 : decode cX6_init 22 = .ok (.putfield 18, 3) := by decide +kernel
theorem dX6_init_25 : decode cX6_init 25 = .ok (.return_, 1) := by decide +kernel
theorem dX6_copyFrom_0 : decode cX6_copyFrom 0 = .ok (.aload_n 1, 1) := by decide +kernel
theorem dX6_copyFrom_1 : decode cX6_copyFrom 1 = .ok (.getfield 9, 3) := by decide +kernel
theorem dX6_copyFrom_4 : decode cX6_copyFrom 4 = .ok (.iconst 0, 1) := by decide +kernel
theorem dX6_copyFrom_5 : decode cX6_copyFrom 5 = .ok (.aload_n 0, 1) := by decide +kernel
theorem dX6_copyFrom_6 : decode cX6_copyFrom 6 = .ok (.getfield 9, 3) := by decide +kernel
theorem dX6_copyFrom_9 : decode cX6_copyFrom 9 = .ok (.iconst 0, 1) := by decide +kernel
theorem dX6_copyFrom_10 : decode cX6_copyFrom 10 = .ok (.bipush 6, 2) := by decide +kernel
theorem dX6_copyFrom_12 : decode cX6_copyFrom 12 = .ok (.invokestatic 22, 3) := by decide +kernel
theorem dX6_copyFrom_15 : decode cX6_copyFrom 15 = .ok (.aload_n 1, 1) := by decide +kernel
theorem dX6_copyFrom_16 : decode cX6_copyFrom 16 = .ok (.getfield 15, 3) := by decide +kernel
theorem dX6_copyFrom_19 : decode cX6_copyFrom 19 = .ok (.iconst 0, 1) := by decide +kernel
theorem dX6_copyFrom_20 : decode cX6_copyFrom 20 = .ok (.aload_n 0, 1) := by decide +kernel
theorem dX6_copyFrom_21 : decode cX6_copyFrom 21 = .ok (.getfield 15, 3) := by decide +kernel
theorem dX6_copyFrom_24 : decode cX6_copyFrom 24 = .ok (.iconst 0, 1) := by decide +kernel
theorem dX6_copyFrom_25 : decode cX6_copyFrom 25 = .ok (.bipush 6, 2) := by decide +kernel
theorem dX6_copyFrom_27 : decode cX6_copyFrom 27 = .ok (.invokestatic 22, 3) := by decide +kernel
theorem dX6_copyFrom_30 : decode cX6_copyFrom 30 = .ok (.aload_n 0, 1) := by decide +kernel
theorem dX6_copyFrom_31 : decode cX6_copyFrom 31 = .ok (.aload_n 1, 1) := by decide +kernel
theorem dX6_copyFrom_32 : decode cX6_copyFrom 32 = .ok (.getfield 18, 3) := by decide +kernel
theorem dX6_copyFrom_35 : decode cX6_copyFrom 35 = .ok (.putfield 18, 3) := by decide +kernel
theorem dX6_copyFrom_38 : decode cX6_copyFrom 38 = .ok (.return_, 1) := by decide +kernel
theorem dX6_has_0 : decode cX6_has 0 = .ok (.iload_n 1, 1) := by decide +kernel
theorem dX6_has_1 : decode cX6_has 1 = .ok (.ifCond .lt 21, 3) := by decide +kernel
theorem dX6_has_4 : decode cX6_has 4 = .ok (.iload_n 1, 1) := by decide +kernel
theorem dX6_has_5 : decode cX6_has 5 = .ok (.aload_n 0, 1) := by decide +kernel
theorem dX6_has_6 : decode cX6_has 6 = .ok (.getfield 18, 3) := by decide +kernel
theorem dX6_has_9 : decode cX6_has 9 = .ok (.if_icmp .ge 13, 3) := by decide +kernel
theorem dX6_has_12 : decode cX6_has 12 = .ok (.iload_n 1, 1) := by decide +kernel
theorem dX6_has_13 : decode cX6_has 13 = .ok (.bipush 6, 2) := by decide +kernel
theorem dX6_has_15 : decode cX6_has 15 = .ok (.if_icmp .ge 7, 3) := by decide +kernel
theorem dX6_has_18 : decode cX6_has 18 = .ok (.iconst 1, 1) := by decide +kernel
theorem dX6_has_19 : decode cX6_has 19 = .ok (.goto 4, 3) := by decide +kernel
theorem dX6_has_22 : decode cX6_has 22 = .ok (.iconst 0, 1) := by decide +kernel
theorem dX6_has_23 : decode cX6_has 23 = .ok (.ireturn, 1) := by decide +kernel
theorem dX6_nameAt_0 : decode cX6_nameAt 0 = .ok (.aload_n 0, 1) := by decide +kernel
theorem dX6_nameAt_1 : decode cX6_nameAt 1 = .ok (.iload_n 1, 1) := by decide +kernel
theorem dX6_nameAt_2 : decode cX6_nameAt 2 = .ok (.invokevirtual 28, 3) := by decide +kernel
theorem dX6_nameAt_5 : decode cX6_nameAt 5 = .ok (.ifCond .eq 12, 3) := by decide +kernel
theorem dX6_nameAt_8 : decode cX6_nameAt 8 = .ok (.aload_n 0, 1) := by decide +kernel
theorem dX6_nameAt_9 : decode cX6_nameAt 9 = .ok (.getfield 9, 3) := by decide +kernel
theorem dX6_nameAt_12 : decode cX6_nameAt 12 = .ok (.iload_n 1, 1) := by decide +kernel
theorem dX6_nameAt_13 : decode cX6_nameAt 13 = .ok (.iaload, 1) := by decide +kernel
theorem dX6_nameAt_14 : decode cX6_nameAt 14 = .ok (.goto 4, 3) := by decide +kernel
theorem dX6_nameAt_17 : decode cX6_nameAt 17 = .ok (.iconst (-1), 1) := by decide +kernel
theorem dX6_nameAt_18 : decode cX6_nameAt 18 = .ok (.ireturn, 1) := by decide +kernel
theorem dX6_amountAt_0 : decode cX6_amountAt 0 = .ok (.aload_n 0, 1) := by decide +kernel
theorem dX6_amountAt_1 : decode cX6_amountAt 1 = .ok (.iload_n 1, 1) := by decide +kernel
theorem dX6_amountAt_2 : decode cX6_amountAt 2 = .ok (.invokevirtual 28, 3) := by decide +kernel
theorem dX6_amountAt_5 : decode cX6_amountAt 5 = .ok (.ifCond .eq 12, 3) := by decide +kernel
theorem dX6_amountAt_8 : decode cX6_amountAt 8 = .ok (.aload_n 0, 1) := by decide +kernel
theorem dX6_amountAt_9 : decode cX6_amountAt 9 = .ok (.getfield 15, 3) := by decide +kernel
theorem dX6_amountAt_12 : decode cX6_amountAt 12 = .ok (.iload_n 1, 1) := by decide +kernel
theorem dX6_amountAt_13 : decode cX6_amountAt 13 = .ok (.iaload, 1) := by decide +kernel
theorem dX6_amountAt_14 : decode cX6_amountAt 14 = .ok (.goto 4, 3) := by decide +kernel
theorem dX6_amountAt_17 : decode cX6_amountAt 17 = .ok (.iconst 0, 1) := by decide +kernel
theorem dX6_amountAt_18 : decode cX6_amountAt 18 = .ok (.ireturn, 1) := by decide +kernel
theorem dX6_add_0 : decode cX6_add 0 = .ok (.aload_n 0, 1) := by decide +kernel
theorem dX6_add_1 : decode cX6_add 1 = .ok (.getfield 18, 3) := by decide +kernel
theorem dX6_add_4 : decode cX6_add 4 = .ok (.ifCond .lt 42, 3) := by decide +kernel
theorem dX6_add_7 : decode cX6_add 7 = .ok (.aload_n 0, 1) := by decide +kernel
theorem dX6_add_8 : decode cX6_add 8 = .ok (.getfield 18, 3) := by decide +kernel
theorem dX6_add_11 : decode cX6_add 11 = .ok (.bipush 6, 2) := by decide +kernel
theorem dX6_add_13 : decode cX6_add 13 = .ok (.if_icmp .ge 33, 3) := by decide +kernel
theorem dX6_add_16 : decode cX6_add 16 = .ok (.aload_n 0, 1) := by decide +kernel
theorem dX6_add_17 : decode cX6_add 17 = .ok (.getfield 9, 3) := by decide +kernel
theorem dX6_add_20 : decode cX6_add 20 = .ok (.aload_n 0, 1) := by decide +kernel
theorem dX6_add_21 : decode cX6_add 21 = .ok (.getfield 18, 3) := by decide +kernel
theorem dX6_add_24 : decode cX6_add 24 = .ok (.iload_n 1, 1) := by decide +kernel
theorem dX6_add_25 : decode cX6_add 25 = .ok (.iastore, 1) := by decide +kernel
theorem dX6_add_26 : decode cX6_add 26 = .ok (.aload_n 0, 1) := by decide +kernel
theorem dX6_add_27 : decode cX6_add 27 = .ok (.getfield 15, 3) := by decide +kernel
theorem dX6_add_30 : decode cX6_add 30 = .ok (.aload_n 0, 1) := by decide +kernel
theorem dX6_add_31 : decode cX6_add 31 = .ok (.getfield 18, 3) := by decide +kernel
theorem dX6_add_34 : decode cX6_add 34 = .ok (.iload_n 2, 1) := by decide +kernel
theorem dX6_add_35 : decode cX6_add 35 = .ok (.iastore, 1) := by decide +kernel
theorem dX6_add_36 : decode cX6_add 36 = .ok (.aload_n 0, 1) := by decide +kernel
theorem dX6_add_37 : decode cX6_add 37 = .ok (.dup, 1) := by decide +kernel
theorem dX6_add_38 : decode cX6_add 38 = .ok (.getfield 18, 3) := by decide +kernel
theorem dX6_add_41 : decode cX6_add 41 = .ok (.iconst 1, 1) := by decide +kernel
theorem dX6_add_42 : decode cX6_add 42 = .ok (.iadd, 1) := by decide +kernel
theorem dX6_add_43 : decode cX6_add 43 = .ok (.putfield 18, 3) := by decide +kernel
theorem dX6_add_46 : decode cX6_add 46 = .ok (.return_, 1) := by decide +kernel
theorem dX6_remove_0 : decode cX6_remove 0 = .ok (.aload_n 0, 1) := by decide +kernel
theorem dX6_remove_1 : decode cX6_remove 1 = .ok (.iload_n 1, 1) := by decide +kernel
theorem dX6_remove_2 : decode cX6_remove 2 = .ok (.invokevirtual 28, 3) := by decide +kernel
theorem dX6_remove_5 : decode cX6_remove 5 = .ok (.ifCond .ne 4, 3) := by decide +kernel
theorem dX6_remove_8 : decode cX6_remove 8 = .ok (.return_, 1) := by decide +kernel
theorem dX6_remove_9 : decode cX6_remove 9 = .ok (.iload_n 1, 1) := by decide +kernel
theorem dX6_remove_10 : decode cX6_remove 10 = .ok (.istore_n 2, 1) := by decide +kernel
theorem dX6_remove_11 : decode cX6_remove 11 = .ok (.iload_n 2, 1) := by decide +kernel
theorem dX6_remove_12 : decode cX6_remove 12 = .ok (.aload_n 0, 1) := by decide +kernel
theorem dX6_remove_13 : decode cX6_remove 13 = .ok (.getfield 18, 3) := by decide +kernel
theorem dX6_remove_16 : decode cX6_remove 16 = .ok (.iconst 1, 1) := by decide +kernel
theorem dX6_remove_17 : decode cX6_remove 17 = .ok (.isub, 1) := by decide +kernel
theorem dX6_remove_18 : decode cX6_remove 18 = .ok (.if_icmp .ge 42, 3) := by decide +kernel
theorem dX6_remove_21 : decode cX6_remove 21 = .ok (.iload_n 2, 1) := by decide +kernel
theorem dX6_remove_22 : decode cX6_remove 22 = .ok (.iconst 5, 1) := by decide +kernel
theorem dX6_remove_23 : decode cX6_remove 23 = .ok (.if_icmp .ge 37, 3) := by decide +kernel
theorem dX6_remove_26 : decode cX6_remove 26 = .ok (.aload_n 0, 1) := by decide +kernel
theorem dX6_remove_27 : decode cX6_remove 27 = .ok (.getfield 9, 3) := by decide +kernel
theorem dX6_remove_30 : decode cX6_remove 30 = .ok (.iload_n 2, 1) := by decide +kernel
theorem dX6_remove_31 : decode cX6_remove 31 = .ok (.aload_n 0, 1) := by decide +kernel
theorem dX6_remove_32 : decode cX6_remove 32 = .ok (.getfield 9, 3) := by decide +kernel
theorem dX6_remove_35 : decode cX6_remove 35 = .ok (.iload_n 2, 1) := by decide +kernel
theorem dX6_remove_36 : decode cX6_remove 36 = .ok (.iconst 1, 1) := by decide +kernel
theorem dX6_remove_37 : decode cX6_remove 37 = .ok (.iadd, 1) := by decide +kernel
theorem dX6_remove_38 : decode cX6_remove 38 = .ok (.iaload, 1) := by decide +kernel
theorem dX6_remove_39 : decode cX6_remove 39 = .ok (.iastore, 1) := by decide +kernel
theorem dX6_remove_40 : decode cX6_remove 40 = .ok (.aload_n 0, 1) := by decide +kernel
theorem dX6_remove_41 : decode cX6_remove 41 = .ok (.getfield 15, 3) := by decide +kernel
theorem dX6_remove_44 : decode cX6_remove 44 = .ok (.iload_n 2, 1) := by decide +kernel
theorem dX6_remove_45 : decode cX6_remove 45 = .ok (.aload_n 0, 1) := by decide +kernel
theorem dX6_remove_46 : decode cX6_remove 46 = .ok (.getfield 15, 3) := by decide +kernel
theorem dX6_remove_49 : decode cX6_remove 49 = .ok (.iload_n 2, 1) := by decide +kernel
theorem dX6_remove_50 : decode cX6_remove 50 = .ok (.iconst 1, 1) := by decide +kernel
theorem dX6_remove_51 : decode cX6_remove 51 = .ok (.iadd, 1) := by decide +kernel
theorem dX6_remove_52 : decode cX6_remove 52 = .ok (.iaload, 1) := by decide +kernel
theorem dX6_remove_53 : decode cX6_remove 53 = .ok (.iastore, 1) := by decide +kernel
theorem dX6_remove_54 : decode cX6_remove 54 = .ok (.iinc 2 1, 3) := by decide +kernel
theorem dX6_remove_57 : decode cX6_remove 57 = .ok (.goto (-46), 3) := by decide +kernel
theorem dX6_remove_60 : decode cX6_remove 60 = .ok (.aload_n 0, 1) := by decide +kernel
theorem dX6_remove_61 : decode cX6_remove 61 = .ok (.dup, 1) := by decide +kernel
theorem dX6_remove_62 : decode cX6_remove 62 = .ok (.getfield 18, 3) := by decide +kernel
theorem dX6_remove_65 : decode cX6_remove 65 = .ok (.iconst 1, 1) := by decide +kernel
theorem dX6_remove_66 : decode cX6_remove 66 = .ok (.isub, 1) := by decide +kernel
theorem dX6_remove_67 : decode cX6_remove 67 = .ok (.putfield 18, 3) := by decide +kernel
theorem dX6_remove_70 : decode cX6_remove 70 = .ok (.return_, 1) := by decide +kernel
theorem dX6_countOf_0 : decode cX6_countOf 0 = .ok (.iconst 0, 1) := by decide +kernel
theorem dX6_countOf_1 : decode cX6_countOf 1 = .ok (.istore_n 2, 1) := by decide +kernel
theorem dX6_countOf_2 : decode cX6_countOf 2 = .ok (.iconst 0, 1) := by decide +kernel
theorem dX6_countOf_3 : decode cX6_countOf 3 = .ok (.istore_n 3, 1) := by decide +kernel
theorem dX6_countOf_4 : decode cX6_countOf 4 = .ok (.iload_n 3, 1) := by decide +kernel
theorem dX6_countOf_5 : decode cX6_countOf 5 = .ok (.aload_n 0, 1) := by decide +kernel
theorem dX6_countOf_6 : decode cX6_countOf 6 = .ok (.getfield 18, 3) := by decide +kernel
theorem dX6_countOf_9 : decode cX6_countOf 9 = .ok (.if_icmp .ge 21, 3) := by decide +kernel
theorem dX6_countOf_12 : decode cX6_countOf 12 = .ok (.aload_n 0, 1) := by decide +kernel
theorem dX6_countOf_13 : decode cX6_countOf 13 = .ok (.iload_n 3, 1) := by decide +kernel
theorem dX6_countOf_14 : decode cX6_countOf 14 = .ok (.invokevirtual 32, 3) := by decide +kernel
theorem dX6_countOf_17 : decode cX6_countOf 17 = .ok (.iload_n 1, 1) := by decide +kernel
theorem dX6_countOf_18 : decode cX6_countOf 18 = .ok (.if_icmp .ne 6, 3) := by decide +kernel
theorem dX6_countOf_21 : decode cX6_countOf 21 = .ok (.iinc 2 1, 3) := by decide +kernel
theorem dX6_countOf_24 : decode cX6_countOf 24 = .ok (.iinc 3 1, 3) := by decide +kernel
theorem dX6_countOf_27 : decode cX6_countOf 27 = .ok (.goto (-23), 3) := by decide +kernel
theorem dX6_countOf_30 : decode cX6_countOf 30 = .ok (.iload_n 2, 1) := by decide +kernel
theorem dX6_countOf_31 : decode cX6_countOf 31 = .ok (.ireturn, 1) := by decide +kernel
theorem dX7_init_0 : decode cX7_init 0 = .ok (.aload_n 0, 1) := by decide +kernel
theorem dX7_init_1 : decode cX7_init 1 = .ok (.invokespecial 3, 3) := by decide +kernel
theorem dX7_init_4 : decode cX7_init 4 = .ok (.aload_n 0, 1) := by decide +kernel
theorem dX7_init_5 : decode cX7_init 5 = .ok (.new 9, 3) := by decide +kernel
theorem dX7_init_8 : decode cX7_init 8 = .ok (.dup, 1) := by decide +kernel
theorem dX7_init_9 : decode cX7_init 9 = .ok (.invokespecial 11, 3) := by decide +kernel
theorem dX7_init_12 : decode cX7_init 12 = .ok (.putfield 12, 3) := by decide +kernel
theorem dX7_init_15 : decode cX7_init 15 = .ok (.aload_n 0, 1) := by decide +kernel
theorem dX7_init_16 : decode cX7_init 16 = .ok (.new 9, 3) := by decide +kernel
theorem dX7_init_19 : decode cX7_init 19 = .ok (.dup, 1) := by decide +kernel
theorem dX7_init_20 : decode cX7_init 20 = .ok (.invokespecial 11, 3) := by decide +kernel
theorem dX7_init_23 : decode cX7_init 23 = .ok (.putfield 16, 3) := by decide +kernel
theorem dX7_init_26 : decode cX7_init 26 = .ok (.aload_n 0, 1) := by decide +kernel
theorem dX7_init_27 : decode cX7_init 27 = .ok (.new 9, 3) := by decide +kernel
theorem dX7_init_30 : decode cX7_init 30 = .ok (.dup, 1) := by decide +kernel
theorem dX7_init_31 : decode cX7_init 31 = .ok (.invokespecial 11, 3) := by decide +kernel
theorem dX7_init_34 : decode cX7_init 34 = .ok (.putfield 19, 3) := by decide +kernel
theorem dX7_init_37 : decode cX7_init 37 = .ok (.aload_n 0, 1) := by decide +kernel
theorem dX7_init_38 : decode cX7_init 38 = .ok (.new 22, 3) := by decide +kernel
theorem dX7_init_41 : decode cX7_init 41 = .ok (.dup, 1) := by decide +kernel
theorem dX7_init_42 : decode cX7_init 42 = .ok (.invokespecial 24, 3) := by decide +kernel
theorem dX7_init_45 : decode cX7_init 45 = .ok (.putfield 25, 3) := by decide +kernel
theorem dX7_init_48 : decode cX7_init 48 = .ok (.aload_n 0, 1) := by decide +kernel
theorem dX7_init_49 : decode cX7_init 49 = .ok (.new 29, 3) := by decide +kernel
theorem dX7_init_52 : decode cX7_init 52 = .ok (.dup, 1) := by decide +kernel
theorem dX7_init_53 : decode cX7_init 53 = .ok (.invokespecial 31, 3) := by decide +kernel
theorem dX7_init_56 : decode cX7_init 56 = .ok (.putfield 32, 3) := by decide +kernel
theorem dX7_init_59 : decode cX7_init 59 = .ok (.aload_n 0, 1) := by decide +kernel
theorem dX7_init_60 : decode cX7_init 60 = .ok (.new 36, 3) := by decide +kernel
theorem dX7_init_63 : decode cX7_init 63 = .ok (.dup, 1) := by decide +kernel
theorem dX7_init_64 : decode cX7_init 64 = .ok (.invokespecial 38, 3) := by decide +kernel
theorem dX7_init_67 : decode cX7_init 67 = .ok (.putfield 39, 3) := by decide +kernel
theorem dX7_init_70 : decode cX7_init 70 = .ok (.aload_n 0, 1) := by decide +kernel
theorem dX7_init_71 : decode cX7_init 71 = .ok (.iconst (-1), 1) := by decide +kernel
theorem dX7_init_72 : decode cX7_init 72 = .ok (.putfield 43, 3) := by decide +kernel
theorem dX7_init_75 : decode cX7_init 75 = .ok (.aload_n 0, 1) := by decide +kernel
theorem dX7_init_76 : decode cX7_init 76 = .ok (.iconst 0, 1) := by decide +kernel
theorem dX7_init_77 : decode cX7_init 77 = .ok (.putfield 47, 3) := by decide +kernel
theorem dX7_init_80 : decode cX7_init 80 = .ok (.aload_n 0, 1) := by decide +kernel
theorem dX7_init_81 : decode cX7_init 81 = .ok (.iconst 0, 1) := by decide +kernel
theorem dX7_init_82 : decode cX7_init 82 = .ok (.putfield 51, 3) := by decide +kernel
theorem dX7_init_85 : decode cX7_init 85 = .ok (.aload_n 0, 1) := by decide +kernel
theorem dX7_init_86 : decode cX7_init 86 = .ok (.iconst 0, 1) := by decide +kernel
theorem dX7_init_87 : decode cX7_init 87 = .ok (.putfield 54, 3) := by decide +kernel
theorem dX7_init_90 : decode cX7_init 90 = .ok (.return_, 1) := by decide +kernel
theorem dX7_lend_0 : decode cX7_lend 0 = .ok (.aload_n 0, 1) := by decide +kernel
theorem dX7_lend_1 : decode cX7_lend 1 = .ok (.iload_n 1, 1) := by decide +kernel
theorem dX7_lend_2 : decode cX7_lend 2 = .ok (.iload_n 2, 1) := by decide +kernel
theorem dX7_lend_3 : decode cX7_lend 3 = .ok (.invokevirtual 57, 3) := by decide +kernel
theorem dX7_lend_6 : decode cX7_lend 6 = .ok (.invokestatic 61, 3) := by decide +kernel
theorem dX7_lend_9 : decode cX7_lend 9 = .ok (.aload_n 0, 1) := by decide +kernel
theorem dX7_lend_10 : decode cX7_lend 10 = .ok (.getfield 25, 3) := by decide +kernel
theorem dX7_lend_13 : decode cX7_lend 13 = .ok (.aload_n 0, 1) := by decide +kernel
theorem dX7_lend_14 : decode cX7_lend 14 = .ok (.getfield 12, 3) := by decide +kernel
theorem dX7_lend_17 : decode cX7_lend 17 = .ok (.invokevirtual 65, 3) := by decide +kernel
theorem dX7_lend_20 : decode cX7_lend 20 = .ok (.aload_n 0, 1) := by decide +kernel
theorem dX7_lend_21 : decode cX7_lend 21 = .ok (.getfield 12, 3) := by decide +kernel
theorem dX7_lend_24 : decode cX7_lend 24 = .ok (.iload_n 1, 1) := by decide +kernel
theorem dX7_lend_25 : decode cX7_lend 25 = .ok (.iload_n 2, 1) := by decide +kernel
theorem dX7_lend_26 : decode cX7_lend 26 = .ok (.invokevirtual 69, 3) := by decide +kernel
theorem dX7_lend_29 : decode cX7_lend 29 = .ok (.ireturn, 1) := by decide +kernel
theorem dX7_ask_0 : decode cX7_ask 0 = .ok (.aload_n 0, 1) := by decide +kernel
theorem dX7_ask_1 : decode cX7_ask 1 = .ok (.iload_n 1, 1) := by decide +kernel
theorem dX7_ask_2 : decode cX7_ask 2 = .ok (.iload_n 2, 1) := by decide +kernel
theorem dX7_ask_3 : decode cX7_ask 3 = .ok (.invokevirtual 72, 3) := by decide +kernel
theorem dX7_ask_6 : decode cX7_ask 6 = .ok (.invokestatic 61, 3) := by decide +kernel
theorem dX7_ask_9 : decode cX7_ask 9 = .ok (.aload_n 0, 1) := by decide +kernel
theorem dX7_ask_10 : decode cX7_ask 10 = .ok (.getfield 25, 3) := by decide +kernel
theorem dX7_ask_13 : decode cX7_ask 13 = .ok (.aload_n 0, 1) := by decide +kernel
theorem dX7_ask_14 : decode cX7_ask 14 = .ok (.getfield 12, 3) := by decide +kernel
theorem dX7_ask_17 : decode cX7_ask 17 = .ok (.invokevirtual 65, 3) := by decide +kernel
theorem dX7_ask_20 : decode cX7_ask 20 = .ok (.aload_n 0, 1) := by decide +kernel
theorem dX7_ask_21 : decode cX7_ask 21 = .ok (.getfield 12, 3) := by decide +kernel
theorem dX7_ask_24 : decode cX7_ask 24 = .ok (.iload_n 1, 1) := by decide +kernel
theorem dX7_ask_25 : decode cX7_ask 25 = .ok (.iload_n 2, 1) := by decide +kernel
theorem dX7_ask_26 : decode cX7_ask 26 = .ok (.invokevirtual 75, 3) := by decide +kernel
theorem dX7_ask_29 : decode cX7_ask 29 = .ok (.ireturn, 1) := by decide +kernel
theorem dX7_give_0 : decode cX7_give 0 = .ok (.aload_n 0, 1) := by decide +kernel
theorem dX7_give_1 : decode cX7_give 1 = .ok (.iload_n 1, 1) := by decide +kernel
theorem dX7_give_2 : decode cX7_give 2 = .ok (.invokevirtual 78, 3) := by decide +kernel
theorem dX7_give_5 : decode cX7_give 5 = .ok (.invokestatic 61, 3) := by decide +kernel
theorem dX7_give_8 : decode cX7_give 8 = .ok (.aload_n 0, 1) := by decide +kernel
theorem dX7_give_9 : decode cX7_give 9 = .ok (.getfield 25, 3) := by decide +kernel
theorem dX7_give_12 : decode cX7_give 12 = .ok (.aload_n 0, 1) := by decide +kernel
theorem dX7_give_13 : decode cX7_give 13 = .ok (.getfield 12, 3) := by decide +kernel
theorem dX7_give_16 : decode cX7_give 16 = .ok (.invokevirtual 65, 3) := by decide +kernel
theorem dX7_give_19 : decode cX7_give 19 = .ok (.aload_n 0, 1) := by decide +kernel
theorem dX7_give_20 : decode cX7_give 20 = .ok (.getfield 12, 3) := by decide +kernel
theorem dX7_give_23 : decode cX7_give 23 = .ok (.iload_n 1, 1) := by decide +kernel
theorem dX7_give_24 : decode cX7_give 24 = .ok (.invokevirtual 82, 3) := by decide +kernel
theorem dX7_give_27 : decode cX7_give 27 = .ok (.ireturn, 1) := by decide +kernel
theorem dX7_giveAll_0 : decode cX7_giveAll 0 = .ok (.aload_n 0, 1) := by decide +kernel
theorem dX7_giveAll_1 : decode cX7_giveAll 1 = .ok (.iload_n 1, 1) := by decide +kernel
theorem dX7_giveAll_2 : decode cX7_giveAll 2 = .ok (.invokevirtual 85, 3) := by decide +kernel
theorem dX7_giveAll_5 : decode cX7_giveAll 5 = .ok (.invokestatic 61, 3) := by decide +kernel
theorem dX7_giveAll_8 : decode cX7_giveAll 8 = .ok (.aload_n 0, 1) := by decide +kernel
theorem dX7_giveAll_9 : decode cX7_giveAll 9 = .ok (.getfield 25, 3) := by decide +kernel
theorem dX7_giveAll_12 : decode cX7_giveAll 12 = .ok (.aload_n 0, 1) := by decide +kernel
theorem dX7_giveAll_13 : decode cX7_giveAll 13 = .ok (.getfield 12, 3) := by decide +kernel
theorem dX7_giveAll_16 : decode cX7_giveAll 16 = .ok (.invokevirtual 65, 3) := by decide +kernel
theorem dX7_giveAll_19 : decode cX7_giveAll 19 = .ok (.aload_n 0, 1) := by decide +kernel
theorem dX7_giveAll_20 : decode cX7_giveAll 20 = .ok (.getfield 12, 3) := by decide +kernel
theorem dX7_giveAll_23 : decode cX7_giveAll 23 = .ok (.iload_n 1, 1) := by decide +kernel
theorem dX7_giveAll_24 : decode cX7_giveAll 24 = .ok (.invokevirtual 88, 3) := by decide +kernel
theorem dX7_giveAll_27 : decode cX7_giveAll 27 = .ok (.ireturn, 1) := by decide +kernel
theorem dX7_resize_0 : decode cX7_resize 0 = .ok (.aload_n 0, 1) := by decide +kernel
theorem dX7_resize_1 : decode cX7_resize 1 = .ok (.iload_n 1, 1) := by decide +kernel
theorem dX7_resize_2 : decode cX7_resize 2 = .ok (.iload_n 2, 1) := by decide +kernel
theorem dX7_resize_3 : decode cX7_resize 3 = .ok (.invokevirtual 91, 3) := by decide +kernel
theorem dX7_resize_6 : decode cX7_resize 6 = .ok (.invokestatic 61, 3) := by decide +kernel
theorem dX7_resize_9 : decode cX7_resize 9 = .ok (.aload_n 0, 1) := by decide +kernel
theorem dX7_resize_10 : decode cX7_resize 10 = .ok (.getfield 25, 3) := by decide +kernel
theorem dX7_resize_13 : decode cX7_resize 13 = .ok (.aload_n 0, 1) := by decide +kernel
theorem dX7_resize_14 : decode cX7_resize 14 = .ok (.getfield 12, 3) := by decide +kernel
theorem dX7_resize_17 : decode cX7_resize 17 = .ok (.invokevirtual 65, 3) := by decide +kernel
theorem dX7_resize_20 : decode cX7_resize 20 = .ok (.aload_n 0, 1) := by decide +kernel
theorem dX7_resize_21 : decode cX7_resize 21 = .ok (.getfield 12, 3) := by decide +kernel
theorem dX7_resize_24 : decode cX7_resize 24 = .ok (.iload_n 1, 1) := by decide +kernel
theorem dX7_resize_25 : decode cX7_resize 25 = .ok (.iload_n 2, 1) := by decide +kernel
theorem dX7_resize_26 : decode cX7_resize 26 = .ok (.invokevirtual 94, 3) := by decide +kernel
theorem dX7_resize_29 : decode cX7_resize 29 = .ok (.ireturn, 1) := by decide +kernel
theorem dX7_way_0 : decode cX7_way 0 = .ok (.aload_n 0, 1) := by decide +kernel
theorem dX7_way_1 : decode cX7_way 1 = .ok (.iload_n 1, 1) := by decide +kernel
theorem dX7_way_2 : decode cX7_way 2 = .ok (.invokevirtual 97, 3) := by decide +kernel
theorem dX7_way_5 : decode cX7_way 5 = .ok (.invokestatic 61, 3) := by decide +kernel
theorem dX7_way_8 : decode cX7_way 8 = .ok (.aload_n 0, 1) := by decide +kernel
theorem dX7_way_9 : decode cX7_way 9 = .ok (.getfield 25, 3) := by decide +kernel
theorem dX7_way_12 : decode cX7_way 12 = .ok (.aload_n 0, 1) := by decide +kernel
theorem dX7_way_13 : decode cX7_way 13 = .ok (.getfield 12, 3) := by decide +kernel
theorem dX7_way_16 : decode cX7_way 16 = .ok (.invokevirtual 65, 3) := by decide +kernel
theorem dX7_way_19 : decode cX7_way 19 = .ok (.aload_n 0, 1) := by decide +kernel
theorem dX7_way_20 : decode cX7_way 20 = .ok (.getfield 12, 3) := by decide +kernel
theorem dX7_way_23 : decode cX7_way 23 = .ok (.iload_n 1, 1) := by decide +kernel
theorem dX7_way_24 : decode cX7_way 24 = .ok (.invokevirtual 100, 3) := by decide +kernel
theorem dX7_way_27 : decode cX7_way 27 = .ok (.ireturn, 1) := by decide +kernel
theorem dX7_forget_0 : decode cX7_forget 0 = .ok (.aload_n 0, 1) := by decide +kernel
theorem dX7_forget_1 : decode cX7_forget 1 = .ok (.getfield 12, 3) := by decide +kernel
theorem dX7_forget_4 : decode cX7_forget 4 = .ok (.getfield 103, 3) := by decide +kernel
theorem dX7_forget_7 : decode cX7_forget 7 = .ok (.iload_n 1, 1) := by decide +kernel
theorem dX7_forget_8 : decode cX7_forget 8 = .ok (.invokevirtual 107, 3) := by decide +kernel
theorem dX7_forget_11 : decode cX7_forget 11 = .ok (.ifCond .ne 13, 3) := by decide +kernel
theorem dX7_forget_14 : decode cX7_forget 14 = .ok (.new 113, 3) := by decide +kernel
theorem dX7_forget_17 : decode cX7_forget 17 = .ok (.dup, 1) := by decide +kernel
theorem dX7_forget_18 : decode cX7_forget 18 = .ok (.ldc 115, 2) := by decide +kernel
theorem dX7_forget_20 : decode cX7_forget 20 = .ok (.invokespecial 117, 3) := by decide +kernel
theorem dX7_forget_23 : decode cX7_forget 23 = .ok (.athrow, 1) := by decide +kernel
theorem dX7_forget_24 : decode cX7_forget 24 = .ok (.aload_n 0, 1) := by decide +kernel
theorem dX7_forget_25 : decode cX7_forget 25 = .ok (.getfield 25, 3) := by decide +kernel
theorem dX7_forget_28 : decode cX7_forget 28 = .ok (.aload_n 0, 1) := by decide +kernel
theorem dX7_forget_29 : decode cX7_forget 29 = .ok (.getfield 12, 3) := by decide +kernel
theorem dX7_forget_32 : decode cX7_forget 32 = .ok (.invokevirtual 65, 3) := by decide +kernel
theorem dX7_forget_35 : decode cX7_forget 35 = .ok (.aload_n 0, 1) := by decide +kernel
theorem dX7_forget_36 : decode cX7_forget 36 = .ok (.getfield 12, 3) := by decide +kernel
theorem dX7_forget_39 : decode cX7_forget 39 = .ok (.getfield 103, 3) := by decide +kernel
theorem dX7_forget_42 : decode cX7_forget 42 = .ok (.iload_n 1, 1) := by decide +kernel
theorem dX7_forget_43 : decode cX7_forget 43 = .ok (.invokevirtual 120, 3) := by decide +kernel
theorem dX7_forget_46 : decode cX7_forget 46 = .ok (.aload_n 0, 1) := by decide +kernel
theorem dX7_forget_47 : decode cX7_forget 47 = .ok (.getfield 12, 3) := by decide +kernel
theorem dX7_forget_50 : decode cX7_forget 50 = .ok (.getfield 103, 3) := by decide +kernel
theorem dX7_forget_53 : decode cX7_forget 53 = .ok (.getfield 123, 3) := by decide +kernel
theorem dX7_forget_56 : decode cX7_forget 56 = .ok (.ireturn, 1) := by decide +kernel
theorem dX7_loanOf_0 : decode cX7_loanOf 0 = .ok (.aload_n 0, 1) := by decide +kernel
theorem dX7_loanOf_1 : decode cX7_loanOf 1 = .ok (.getfield 12, 3) := by decide +kernel
theorem dX7_loanOf_4 : decode cX7_loanOf 4 = .ok (.getfield 126, 3) := by decide +kernel
theorem dX7_loanOf_7 : decode cX7_loanOf 7 = .ok (.astore_n 3, 1) := by decide +kernel
theorem dX7_loanOf_8 : decode cX7_loanOf 8 = .ok (.aload_n 3, 1) := by decide +kernel
theorem dX7_loanOf_9 : decode cX7_loanOf 9 = .ok (.iload_n 1, 1) := by decide +kernel
theorem dX7_loanOf_10 : decode cX7_loanOf 10 = .ok (.invokevirtual 130, 3) := by decide +kernel
theorem dX7_loanOf_13 : decode cX7_loanOf 13 = .ok (.ifCond .ne 13, 3) := by decide +kernel
theorem dX7_loanOf_16 : decode cX7_loanOf 16 = .ok (.new 113, 3) := by decide +kernel
theorem dX7_loanOf_19 : decode cX7_loanOf 19 = .ok (.dup, 1) := by decide +kernel
theorem dX7_loanOf_20 : decode cX7_loanOf 20 = .ok (.ldc 133, 2) := by decide +kernel
theorem dX7_loanOf_22 : decode cX7_loanOf 22 = .ok (.invokespecial 117, 3) := by decide +kernel
theorem dX7_loanOf_25 : decode cX7_loanOf 25 = .ok (.athrow, 1) := by decide +kernel
theorem dX7_loanOf_26 : decode cX7_loanOf 26 = .ok (.iload_n 2, 1) := by decide +kernel
theorem dX7_loanOf_27 : decode cX7_loanOf 27 = .ok (.tableswitch 69 0 4 #[33, 39, 45, 51, 57], 33) := by decide +kernel
theorem dX7_loanOf_60 : decode cX7_loanOf 60 = .ok (.aload_n 3, 1) := by decide +kernel
theorem dX7_loanOf_61 : decode cX7_loanOf 61 = .ok (.iload_n 1, 1) := by decide +kernel
theorem dX7_loanOf_62 : decode cX7_loanOf 62 = .ok (.invokevirtual 135, 3) := by decide +kernel
theorem dX7_loanOf_65 : decode cX7_loanOf 65 = .ok (.ireturn, 1) := by decide +kernel
theorem dX7_loanOf_66 : decode cX7_loanOf 66 = .ok (.aload_n 3, 1) := by decide +kernel
theorem dX7_loanOf_67 : decode cX7_loanOf 67 = .ok (.iload_n 1, 1) := by decide +kernel
theorem dX7_loanOf_68 : decode cX7_loanOf 68 = .ok (.invokevirtual 138, 3) := by decide +kernel
theorem dX7_loanOf_71 : decode cX7_loanOf 71 = .ok (.ireturn, 1) := by decide +kernel
theorem dX7_loanOf_72 : decode cX7_loanOf 72 = .ok (.aload_n 3, 1) := by decide +kernel
theorem dX7_loanOf_73 : decode cX7_loanOf 73 = .ok (.iload_n 1, 1) := by decide +kernel
theorem dX7_loanOf_74 : decode cX7_loanOf 74 = .ok (.invokevirtual 141, 3) := by decide +kernel
theorem dX7_loanOf_77 : decode cX7_loanOf 77 = .ok (.ireturn, 1) := by decide +kernel
theorem dX7_loanOf_78 : decode cX7_loanOf 78 = .ok (.aload_n 3, 1) := by decide +kernel
theorem dX7_loanOf_79 : decode cX7_loanOf 79 = .ok (.iload_n 1, 1) := by decide +kernel
theorem dX7_loanOf_80 : decode cX7_loanOf 80 = .ok (.invokevirtual 144, 3) := by decide +kernel
theorem dX7_loanOf_83 : decode cX7_loanOf 83 = .ok (.ireturn, 1) := by decide +kernel
theorem dX7_loanOf_84 : decode cX7_loanOf 84 = .ok (.aload_n 3, 1) := by decide +kernel
theorem dX7_loanOf_85 : decode cX7_loanOf 85 = .ok (.iload_n 1, 1) := by decide +kernel
theorem dX7_loanOf_86 : decode cX7_loanOf 86 = .ok (.invokevirtual 144, 3) := by decide +kernel
theorem dX7_loanOf_89 : decode cX7_loanOf 89 = .ok (.aload_n 3, 1) := by decide +kernel
theorem dX7_loanOf_90 : decode cX7_loanOf 90 = .ok (.iload_n 1, 1) := by decide +kernel
theorem dX7_loanOf_91 : decode cX7_loanOf 91 = .ok (.invokevirtual 138, 3) := by decide +kernel
theorem dX7_loanOf_94 : decode cX7_loanOf 94 = .ok (.isub, 1) := by decide +kernel
theorem dX7_loanOf_95 : decode cX7_loanOf 95 = .ok (.ireturn, 1) := by decide +kernel
theorem dX7_loanOf_96 : decode cX7_loanOf 96 = .ok (.new 147, 3) := by decide +kernel
theorem dX7_loanOf_99 : decode cX7_loanOf 99 = .ok (.dup, 1) := by decide +kernel
theorem dX7_loanOf_100 : decode cX7_loanOf 100 = .ok (.ldc 149, 2) := by decide +kernel
theorem dX7_loanOf_102 : decode cX7_loanOf 102 = .ok (.invokespecial 151, 3) := by decide +kernel
theorem dX7_loanOf_105 : decode cX7_loanOf 105 = .ok (.athrow, 1) := by decide +kernel
theorem dX7_waitingOf_0 : decode cX7_waitingOf 0 = .ok (.aload_n 0, 1) := by decide +kernel
theorem dX7_waitingOf_1 : decode cX7_waitingOf 1 = .ok (.getfield 12, 3) := by decide +kernel
theorem dX7_waitingOf_4 : decode cX7_waitingOf 4 = .ok (.getfield 103, 3) := by decide +kernel
theorem dX7_waitingOf_7 : decode cX7_waitingOf 7 = .ok (.iload_n 1, 1) := by decide +kernel
theorem dX7_waitingOf_8 : decode cX7_waitingOf 8 = .ok (.invokevirtual 107, 3) := by decide +kernel
theorem dX7_waitingOf_11 : decode cX7_waitingOf 11 = .ok (.ifCond .ne 13, 3) := by decide +kernel
theorem dX7_waitingOf_14 : decode cX7_waitingOf 14 = .ok (.new 169, 3) := by decide +kernel
theorem dX7_waitingOf_17 : decode cX7_waitingOf 17 = .ok (.dup, 1) := by decide +kernel
theorem dX7_waitingOf_18 : decode cX7_waitingOf 18 = .ok (.ldc 115, 2) := by decide +kernel
theorem dX7_waitingOf_20 : decode cX7_waitingOf 20 = .ok (.invokespecial 171, 3) := by decide +kernel
theorem dX7_waitingOf_23 : decode cX7_waitingOf 23 = .ok (.athrow, 1) := by decide +kernel
theorem dX7_waitingOf_24 : decode cX7_waitingOf 24 = .ok (.iload_n 2, 1) := by decide +kernel
theorem dX7_waitingOf_25 : decode cX7_waitingOf 25 = .ok (.lookupswitch 51 #[(0, 27), (1, 39)], 27) := by decide +kernel
theorem dX7_waitingOf_52 : decode cX7_waitingOf 52 = .ok (.aload_n 0, 1) := by decide +kernel
theorem dX7_waitingOf_53 : decode cX7_waitingOf 53 = .ok (.getfield 12, 3) := by decide +kernel
theorem dX7_waitingOf_56 : decode cX7_waitingOf 56 = .ok (.getfield 103, 3) := by decide +kernel
theorem dX7_waitingOf_59 : decode cX7_waitingOf 59 = .ok (.iload_n 1, 1) := by decide +kernel
theorem dX7_waitingOf_60 : decode cX7_waitingOf 60 = .ok (.invokevirtual 172, 3) := by decide +kernel
theorem dX7_waitingOf_63 : decode cX7_waitingOf 63 = .ok (.ireturn, 1) := by decide +kernel
theorem dX7_waitingOf_64 : decode cX7_waitingOf 64 = .ok (.aload_n 0, 1) := by decide +kernel
theorem dX7_waitingOf_65 : decode cX7_waitingOf 65 = .ok (.getfield 12, 3) := by decide +kernel
theorem dX7_waitingOf_68 : decode cX7_waitingOf 68 = .ok (.getfield 103, 3) := by decide +kernel
theorem dX7_waitingOf_71 : decode cX7_waitingOf 71 = .ok (.iload_n 1, 1) := by decide +kernel
theorem dX7_waitingOf_72 : decode cX7_waitingOf 72 = .ok (.invokevirtual 173, 3) := by decide +kernel
theorem dX7_waitingOf_75 : decode cX7_waitingOf 75 = .ok (.ireturn, 1) := by decide +kernel
theorem dX7_waitingOf_76 : decode cX7_waitingOf 76 = .ok (.new 147, 3) := by decide +kernel
theorem dX7_waitingOf_79 : decode cX7_waitingOf 79 = .ok (.dup, 1) := by decide +kernel
theorem dX7_waitingOf_80 : decode cX7_waitingOf 80 = .ok (.ldc 174, 2) := by decide +kernel
theorem dX7_waitingOf_82 : decode cX7_waitingOf 82 = .ok (.invokespecial 151, 3) := by decide +kernel
theorem dX7_waitingOf_85 : decode cX7_waitingOf 85 = .ok (.athrow, 1) := by decide +kernel
theorem dX7_pieceOf_0 : decode cX7_pieceOf 0 = .ok (.iload_n 1, 1) := by decide +kernel
theorem dX7_pieceOf_1 : decode cX7_pieceOf 1 = .ok (.invokestatic 176, 3) := by decide +kernel
theorem dX7_pieceOf_4 : decode cX7_pieceOf 4 = .ok (.ifCond .ne 13, 3) := by decide +kernel
theorem dX7_pieceOf_7 : decode cX7_pieceOf 7 = .ok (.new 113, 3) := by decide +kernel
theorem dX7_pieceOf_10 : decode cX7_pieceOf 10 = .ok (.dup, 1) := by decide +kernel
theorem dX7_pieceOf_11 : decode cX7_pieceOf 11 = .ok (.ldc 179, 2) := by decide +kernel
theorem dX7_pieceOf_13 : decode cX7_pieceOf 13 = .ok (.invokespecial 117, 3) := by decide +kernel
theorem dX7_pieceOf_16 : decode cX7_pieceOf 16 = .ok (.athrow, 1) := by decide +kernel
theorem dX7_pieceOf_17 : decode cX7_pieceOf 17 = .ok (.aload_n 0, 1) := by decide +kernel
theorem dX7_pieceOf_18 : decode cX7_pieceOf 18 = .ok (.getfield 12, 3) := by decide +kernel
theorem dX7_pieceOf_21 : decode cX7_pieceOf 21 = .ok (.getfield 126, 3) := by decide +kernel
theorem dX7_pieceOf_24 : decode cX7_pieceOf 24 = .ok (.iload_n 1, 1) := by decide +kernel
theorem dX7_pieceOf_25 : decode cX7_pieceOf 25 = .ok (.invokevirtual 181, 3) := by decide +kernel
theorem dX7_pieceOf_28 : decode cX7_pieceOf 28 = .ok (.istore_n 3, 1) := by decide +kernel
theorem dX7_pieceOf_29 : decode cX7_pieceOf 29 = .ok (.aload_n 0, 1) := by decide +kernel
theorem dX7_pieceOf_30 : decode cX7_pieceOf 30 = .ok (.getfield 12, 3) := by decide +kernel
theorem dX7_pieceOf_33 : decode cX7_pieceOf 33 = .ok (.iload_n 1, 1) := by decide +kernel
theorem dX7_pieceOf_34 : decode cX7_pieceOf 34 = .ok (.invokevirtual 184, 3) := by decide +kernel
theorem dX7_pieceOf_37 : decode cX7_pieceOf 37 = .ok (.istore 4, 2) := by decide +kernel
theorem dX7_pieceOf_39 : decode cX7_pieceOf 39 = .ok (.aload_n 0, 1) := by decide +kernel
theorem dX7_pieceOf_40 : decode cX7_pieceOf 40 = .ok (.getfield 12, 3) := by decide +kernel
theorem dX7_pieceOf_43 : decode cX7_pieceOf 43 = .ok (.iload_n 1, 1) := by decide +kernel
theorem dX7_pieceOf_44 : decode cX7_pieceOf 44 = .ok (.invokevirtual 187, 3) := by decide +kernel
theorem dX7_pieceOf_47 : decode cX7_pieceOf 47 = .ok (.istore 5, 2) := by decide +kernel
theorem dX7_pieceOf_49 : decode cX7_pieceOf 49 = .ok (.iload_n 2, 1) := by decide +kernel
theorem dX7_pieceOf_50 : decode cX7_pieceOf 50 = .ok (.tableswitch 57 0 3 #[30, 33, 36, 38], 30) := by decide +kernel
theorem dX7_pieceOf_80 : decode cX7_pieceOf 80 = .ok (.iload 5, 2) := by decide +kernel
theorem dX7_pieceOf_82 : decode cX7_pieceOf 82 = .ok (.ireturn, 1) := by decide +kernel
theorem dX7_pieceOf_83 : decode cX7_pieceOf 83 = .ok (.iload 4, 2) := by decide +kernel
theorem dX7_pieceOf_85 : decode cX7_pieceOf 85 = .ok (.ireturn, 1) := by decide +kernel
theorem dX7_pieceOf_86 : decode cX7_pieceOf 86 = .ok (.iload_n 3, 1) := by decide +kernel
theorem dX7_pieceOf_87 : decode cX7_pieceOf 87 = .ok (.ireturn, 1) := by decide +kernel
theorem dX7_pieceOf_88 : decode cX7_pieceOf 88 = .ok (.iload 5, 2) := by decide +kernel
theorem dX7_pieceOf_90 : decode cX7_pieceOf 90 = .ok (.bipush 64, 2) := by decide +kernel
theorem dX7_pieceOf_92 : decode cX7_pieceOf 92 = .ok (.if_icmp .ne 7, 3) := by decide +kernel
theorem dX7_pieceOf_95 : decode cX7_pieceOf 95 = .ok (.iconst (-1), 1) := by decide +kernel
theorem dX7_pieceOf_96 : decode cX7_pieceOf 96 = .ok (.goto 10, 3) := by decide +kernel
theorem dX7_pieceOf_99 : decode cX7_pieceOf 99 = .ok (.iload 4, 2) := by decide +kernel
theorem dX7_pieceOf_101 : decode cX7_pieceOf 101 = .ok (.iload 5, 2) := by decide +kernel
theorem dX7_pieceOf_103 : decode cX7_pieceOf 103 = .ok (.invokestatic 190, 3) := by decide +kernel
theorem dX7_pieceOf_106 : decode cX7_pieceOf 106 = .ok (.ireturn, 1) := by decide +kernel
theorem dX7_pieceOf_107 : decode cX7_pieceOf 107 = .ok (.new 147, 3) := by decide +kernel
theorem dX7_pieceOf_110 : decode cX7_pieceOf 110 = .ok (.dup, 1) := by decide +kernel
theorem dX7_pieceOf_111 : decode cX7_pieceOf 111 = .ok (.ldc 193, 2) := by decide +kernel
theorem dX7_pieceOf_113 : decode cX7_pieceOf 113 = .ok (.invokespecial 151, 3) := by decide +kernel
theorem dX7_pieceOf_116 : decode cX7_pieceOf 116 = .ok (.athrow, 1) := by decide +kernel
theorem dX7_greatest_0 : decode cX7_greatest 0 = .ok (.aload_n 0, 1) := by decide +kernel
theorem dX7_greatest_1 : decode cX7_greatest 1 = .ok (.getfield 12, 3) := by decide +kernel
theorem dX7_greatest_4 : decode cX7_greatest 4 = .ok (.getfield 203, 3) := by decide +kernel
theorem dX7_greatest_7 : decode cX7_greatest 7 = .ok (.invokevirtual 212, 3) := by decide +kernel
theorem dX7_greatest_10 : decode cX7_greatest 10 = .ok (.istore_n 1, 1) := by decide +kernel
theorem dX7_greatest_11 : decode cX7_greatest 11 = .ok (.iload_n 1, 1) := by decide +kernel
theorem dX7_greatest_12 : decode cX7_greatest 12 = .ok (.ifCond .ne 13, 3) := by decide +kernel
theorem dX7_greatest_15 : decode cX7_greatest 15 = .ok (.new 169, 3) := by decide +kernel
theorem dX7_greatest_18 : decode cX7_greatest 18 = .ok (.dup, 1) := by decide +kernel
theorem dX7_greatest_19 : decode cX7_greatest 19 = .ok (.ldc 216, 2) := by decide +kernel
theorem dX7_greatest_21 : decode cX7_greatest 21 = .ok (.invokespecial 171, 3) := by decide +kernel
theorem dX7_greatest_24 : decode cX7_greatest 24 = .ok (.athrow, 1) := by decide +kernel
theorem dX7_greatest_25 : decode cX7_greatest 25 = .ok (.iload_n 1, 1) := by decide +kernel
theorem dX7_greatest_26 : decode cX7_greatest 26 = .ok (.ireturn, 1) := by decide +kernel
theorem dX7_would_0 : decode cX7_would 0 = .ok (.iload_n 1, 1) := by decide +kernel
theorem dX7_would_1 : decode cX7_would 1 = .ok (.invokestatic 218, 3) := by decide +kernel
theorem dX7_would_4 : decode cX7_would 4 = .ok (.istore_n 2, 1) := by decide +kernel
theorem dX7_would_5 : decode cX7_would 5 = .ok (.aload_n 0, 1) := by decide +kernel
theorem dX7_would_6 : decode cX7_would 6 = .ok (.iload_n 2, 1) := by decide +kernel
theorem dX7_would_7 : decode cX7_would 7 = .ok (.invokevirtual 221, 3) := by decide +kernel
theorem dX7_would_10 : decode cX7_would 10 = .ok (.istore_n 3, 1) := by decide +kernel
theorem dX7_would_11 : decode cX7_would 11 = .ok (.aload_n 0, 1) := by decide +kernel
theorem dX7_would_12 : decode cX7_would 12 = .ok (.getfield 12, 3) := by decide +kernel
theorem dX7_would_15 : decode cX7_would 15 = .ok (.getfield 203, 3) := by decide +kernel
theorem dX7_would_18 : decode cX7_would 18 = .ok (.invokevirtual 224, 3) := by decide +kernel
theorem dX7_would_21 : decode cX7_would 21 = .ok (.ifCond .eq 19, 3) := by decide +kernel
theorem dX7_would_24 : decode cX7_would 24 = .ok (.iload_n 3, 1) := by decide +kernel
theorem dX7_would_25 : decode cX7_would 25 = .ok (.aload_n 0, 1) := by decide +kernel
theorem dX7_would_26 : decode cX7_would 26 = .ok (.getfield 12, 3) := by decide +kernel
theorem dX7_would_29 : decode cX7_would 29 = .ok (.getfield 203, 3) := by decide +kernel
theorem dX7_would_32 : decode cX7_would 32 = .ok (.iload_n 3, 1) := by decide +kernel
theorem dX7_would_33 : decode cX7_would 33 = .ok (.invokevirtual 228, 3) := by decide +kernel
theorem dX7_would_36 : decode cX7_would 36 = .ok (.iadd, 1) := by decide +kernel
theorem dX7_would_37 : decode cX7_would 37 = .ok (.iload_n 2, 1) := by decide +kernel
theorem dX7_would_38 : decode cX7_would 38 = .ok (.isub, 1) := by decide +kernel
theorem dX7_would_39 : decode cX7_would 39 = .ok (.ireturn, 1) := by decide +kernel
theorem dX7_would_40 : decode cX7_would 40 = .ok (.iload_n 3, 1) := by decide +kernel
theorem dX7_would_41 : decode cX7_would 41 = .ok (.ireturn, 1) := by decide +kernel
theorem dX7_cuts_0 : decode cX7_cuts 0 = .ok (.iload_n 1, 1) := by decide +kernel
theorem dX7_cuts_1 : decode cX7_cuts 1 = .ok (.invokestatic 218, 3) := by decide +kernel
theorem dX7_cuts_4 : decode cX7_cuts 4 = .ok (.istore_n 2, 1) := by decide +kernel
theorem dX7_cuts_5 : decode cX7_cuts 5 = .ok (.aload_n 0, 1) := by decide +kernel
theorem dX7_cuts_6 : decode cX7_cuts 6 = .ok (.iload_n 2, 1) := by decide +kernel
theorem dX7_cuts_7 : decode cX7_cuts 7 = .ok (.invokevirtual 221, 3) := by decide +kernel
theorem dX7_cuts_10 : decode cX7_cuts 10 = .ok (.istore_n 3, 1) := by decide +kernel
theorem dX7_cuts_11 : decode cX7_cuts 11 = .ok (.iconst 0, 1) := by decide +kernel
theorem dX7_cuts_12 : decode cX7_cuts 12 = .ok (.istore 4, 2) := by decide +kernel
theorem dX7_cuts_14 : decode cX7_cuts 14 = .ok (.aload_n 0, 1) := by decide +kernel
theorem dX7_cuts_15 : decode cX7_cuts 15 = .ok (.getfield 12, 3) := by decide +kernel
theorem dX7_cuts_18 : decode cX7_cuts 18 = .ok (.getfield 203, 3) := by decide +kernel
theorem dX7_cuts_21 : decode cX7_cuts 21 = .ok (.iload_n 3, 1) := by decide +kernel
theorem dX7_cuts_22 : decode cX7_cuts 22 = .ok (.invokevirtual 228, 3) := by decide +kernel
theorem dX7_cuts_25 : decode cX7_cuts 25 = .ok (.iconst 2, 1) := by decide +kernel
theorem dX7_cuts_26 : decode cX7_cuts 26 = .ok (.idiv, 1) := by decide +kernel
theorem dX7_cuts_27 : decode cX7_cuts 27 = .ok (.istore 5, 2) := by decide +kernel
theorem dX7_cuts_29 : decode cX7_cuts 29 = .ok (.iload 5, 2) := by decide +kernel
theorem dX7_cuts_31 : decode cX7_cuts 31 = .ok (.iload_n 2, 1) := by decide +kernel
theorem dX7_cuts_32 : decode cX7_cuts 32 = .ok (.if_icmp .lt 21, 3) := by decide +kernel
theorem dX7_cuts_35 : decode cX7_cuts 35 = .ok (.iload 5, 2) := by decide +kernel
theorem dX7_cuts_37 : decode cX7_cuts 37 = .ok (.iconst 1, 1) := by decide +kernel
theorem dX7_cuts_38 : decode cX7_cuts 38 = .ok (.if_icmp .lt 15, 3) := by decide +kernel
theorem dX7_cuts_41 : decode cX7_cuts 41 = .ok (.iinc 4 1, 3) := by decide +kernel
theorem dX7_cuts_44 : decode cX7_cuts 44 = .ok (.iload 5, 2) := by decide +kernel
theorem dX7_cuts_46 : decode cX7_cuts 46 = .ok (.iconst 2, 1) := by decide +kernel
theorem dX7_cuts_47 : decode cX7_cuts 47 = .ok (.idiv, 1) := by decide +kernel
theorem dX7_cuts_48 : decode cX7_cuts 48 = .ok (.istore 5, 2) := by decide +kernel
theorem dX7_cuts_50 : decode cX7_cuts 50 = .ok (.goto (-21), 3) := by decide +kernel
theorem dX7_cuts_53 : decode cX7_cuts 53 = .ok (.iload 4, 2) := by decide +kernel
theorem dX7_cuts_55 : decode cX7_cuts 55 = .ok (.ireturn, 1) := by decide +kernel
theorem dX7_fits_0 : decode cX7_fits 0 = .ok (.aload_n 0, 1) := by decide +kernel
theorem dX7_fits_1 : decode cX7_fits 1 = .ok (.getfield 12, 3) := by decide +kernel
theorem dX7_fits_4 : decode cX7_fits 4 = .ok (.getfield 203, 3) := by decide +kernel
theorem dX7_fits_7 : decode cX7_fits 7 = .ok (.iload_n 1, 1) := by decide +kernel
theorem dX7_fits_8 : decode cX7_fits 8 = .ok (.invokestatic 218, 3) := by decide +kernel
theorem dX7_fits_11 : decode cX7_fits 11 = .ok (.invokevirtual 229, 3) := by decide +kernel
theorem dX7_fits_14 : decode cX7_fits 14 = .ok (.ireturn, 1) := by decide +kernel
theorem dX7_inTheWay_0 : decode cX7_inTheWay 0 = .ok (.aload_n 0, 1) := by decide +kernel
theorem dX7_inTheWay_1 : decode cX7_inTheWay 1 = .ok (.getfield 12, 3) := by decide +kernel
theorem dX7_inTheWay_4 : decode cX7_inTheWay 4 = .ok (.getfield 126, 3) := by decide +kernel
theorem dX7_inTheWay_7 : decode cX7_inTheWay 7 = .ok (.iload_n 1, 1) := by decide +kernel
theorem dX7_inTheWay_8 : decode cX7_inTheWay 8 = .ok (.invokestatic 218, 3) := by decide +kernel
theorem dX7_inTheWay_11 : decode cX7_inTheWay 11 = .ok (.invokevirtual 237, 3) := by decide +kernel
theorem dX7_inTheWay_14 : decode cX7_inTheWay 14 = .ok (.ireturn, 1) := by decide +kernel
theorem dX7_ranked_0 : decode cX7_ranked 0 = .ok (.aload_n 0, 1) := by decide +kernel
theorem dX7_ranked_1 : decode cX7_ranked 1 = .ok (.getfield 12, 3) := by decide +kernel
theorem dX7_ranked_4 : decode cX7_ranked 4 = .ok (.getfield 126, 3) := by decide +kernel
theorem dX7_ranked_7 : decode cX7_ranked 7 = .ok (.iload_n 1, 1) := by decide +kernel
theorem dX7_ranked_8 : decode cX7_ranked 8 = .ok (.invokevirtual 240, 3) := by decide +kernel
theorem dX7_ranked_11 : decode cX7_ranked 11 = .ok (.istore_n 2, 1) := by decide +kernel
theorem dX7_ranked_12 : decode cX7_ranked 12 = .ok (.iload_n 2, 1) := by decide +kernel
theorem dX7_ranked_13 : decode cX7_ranked 13 = .ok (.ifCond .ge 13, 3) := by decide +kernel
theorem dX7_ranked_16 : decode cX7_ranked 16 = .ok (.new 169, 3) := by decide +kernel
theorem dX7_ranked_19 : decode cX7_ranked 19 = .ok (.dup, 1) := by decide +kernel
theorem dX7_ranked_20 : decode cX7_ranked 20 = .ok (.ldc 155, 2) := by decide +kernel
theorem dX7_ranked_22 : decode cX7_ranked 22 = .ok (.invokespecial 171, 3) := by decide +kernel
theorem dX7_ranked_25 : decode cX7_ranked 25 = .ok (.athrow, 1) := by decide +kernel
theorem dX7_ranked_26 : decode cX7_ranked 26 = .ok (.iload_n 2, 1) := by decide +kernel
theorem dX7_ranked_27 : decode cX7_ranked 27 = .ok (.ireturn, 1) := by decide +kernel
theorem dX7_line_0 : decode cX7_line 0 = .ok (.aload_n 0, 1) := by decide +kernel
theorem dX7_line_1 : decode cX7_line 1 = .ok (.getfield 12, 3) := by decide +kernel
theorem dX7_line_4 : decode cX7_line 4 = .ok (.aload_n 0, 1) := by decide +kernel
theorem dX7_line_5 : decode cX7_line 5 = .ok (.getfield 32, 3) := by decide +kernel
theorem dX7_line_8 : decode cX7_line 8 = .ok (.invokevirtual 243, 3) := by decide +kernel
theorem dX7_line_11 : decode cX7_line 11 = .ok (.aload_n 0, 1) := by decide +kernel
theorem dX7_line_12 : decode cX7_line 12 = .ok (.getfield 32, 3) := by decide +kernel
theorem dX7_line_15 : decode cX7_line 15 = .ok (.getfield 247, 3) := by decide +kernel
theorem dX7_line_18 : decode cX7_line 18 = .ok (.ireturn, 1) := by decide +kernel
theorem dX7_character_0 : decode cX7_character 0 = .ok (.aload_n 0, 1) := by decide +kernel
theorem dX7_character_1 : decode cX7_character 1 = .ok (.getfield 32, 3) := by decide +kernel
theorem dX7_character_4 : decode cX7_character 4 = .ok (.iload_n 1, 1) := by decide +kernel
theorem dX7_character_5 : decode cX7_character 5 = .ok (.invokevirtual 253, 3) := by decide +kernel
theorem dX7_character_8 : decode cX7_character 8 = .ok (.ifCond .ne 13, 3) := by decide +kernel
theorem dX7_character_11 : decode cX7_character 11 = .ok (.new 113, 3) := by decide +kernel
theorem dX7_character_14 : decode cX7_character 14 = .ok (.dup, 1) := by decide +kernel
theorem dX7_character_15 : decode cX7_character 15 = .ok (.ldc 254, 2) := by decide +kernel
theorem dX7_character_17 : decode cX7_character 17 = .ok (.invokespecial 117, 3) := by decide +kernel
theorem dX7_character_20 : decode cX7_character 20 = .ok (.athrow, 1) := by decide +kernel
theorem dX7_character_21 : decode cX7_character 21 = .ok (.aload_n 0, 1) := by decide +kernel
theorem dX7_character_22 : decode cX7_character 22 = .ok (.getfield 32, 3) := by decide +kernel
theorem dX7_character_25 : decode cX7_character 25 = .ok (.iload_n 1, 1) := by decide +kernel
theorem dX7_character_26 : decode cX7_character 26 = .ok (.invokevirtual 256, 3) := by decide +kernel
theorem dX7_character_29 : decode cX7_character 29 = .ok (.ireturn, 1) := by decide +kernel
theorem dX7_append_0 : decode cX7_append 0 = .ok (.aload_n 0, 1) := by decide +kernel
theorem dX7_append_1 : decode cX7_append 1 = .ok (.getfield 39, 3) := by decide +kernel
theorem dX7_append_4 : decode cX7_append 4 = .ok (.invokevirtual 260, 3) := by decide +kernel
theorem dX7_append_7 : decode cX7_append 7 = .ok (.ifCond .eq 14, 3) := by decide +kernel
theorem dX7_append_10 : decode cX7_append 10 = .ok (.new 263, 3) := by decide +kernel
theorem dX7_append_13 : decode cX7_append 13 = .ok (.dup, 1) := by decide +kernel
theorem dX7_append_14 : decode cX7_append 14 = .ok (.ldc_w 265, 3) := by decide +kernel
theorem dX7_append_17 : decode cX7_append 17 = .ok (.invokespecial 267, 3) := by decide +kernel
theorem dX7_append_20 : decode cX7_append 20 = .ok (.athrow, 1) := by decide +kernel
theorem dX7_append_21 : decode cX7_append 21 = .ok (.aload_n 0, 1) := by decide +kernel
theorem dX7_append_22 : decode cX7_append 22 = .ok (.getfield 39, 3) := by decide +kernel
theorem dX7_append_25 : decode cX7_append 25 = .ok (.iload_n 1, 1) := by decide +kernel
theorem dX7_append_26 : decode cX7_append 26 = .ok (.invokevirtual 268, 3) := by decide +kernel
theorem dX7_append_29 : decode cX7_append 29 = .ok (.aload_n 0, 1) := by decide +kernel
theorem dX7_append_30 : decode cX7_append 30 = .ok (.getfield 39, 3) := by decide +kernel
theorem dX7_append_33 : decode cX7_append 33 = .ok (.getfield 272, 3) := by decide +kernel
theorem dX7_append_36 : decode cX7_append 36 = .ok (.ireturn, 1) := by decide +kernel
theorem dX7_run_0 : decode cX7_run 0 = .ok (.aload_n 0, 1) := by decide +kernel
theorem dX7_run_1 : decode cX7_run 1 = .ok (.aload_n 0, 1) := by decide +kernel
theorem dX7_run_2 : decode cX7_run 2 = .ok (.getfield 39, 3) := by decide +kernel
theorem dX7_run_5 : decode cX7_run 5 = .ok (.invokevirtual 273, 3) := by decide +kernel
theorem dX7_run_8 : decode cX7_run 8 = .ok (.putfield 43, 3) := by decide +kernel
theorem dX7_run_11 : decode cX7_run 11 = .ok (.aload_n 0, 1) := by decide +kernel
theorem dX7_run_12 : decode cX7_run 12 = .ok (.getfield 39, 3) := by decide +kernel
theorem dX7_run_15 : decode cX7_run 15 = .ok (.invokevirtual 276, 3) := by decide +kernel
theorem dX7_run_18 : decode cX7_run 18 = .ok (.aload_n 0, 1) := by decide +kernel
theorem dX7_run_19 : decode cX7_run 19 = .ok (.getfield 43, 3) := by decide +kernel
theorem dX7_run_22 : decode cX7_run 22 = .ok (.ifCond .lt 14, 3) := by decide +kernel
theorem dX7_run_25 : decode cX7_run 25 = .ok (.new 147, 3) := by decide +kernel
theorem dX7_run_28 : decode cX7_run 28 = .ok (.dup, 1) := by decide +kernel
theorem dX7_run_29 : decode cX7_run 29 = .ok (.ldc_w 279, 3) := by decide +kernel
theorem dX7_run_32 : decode cX7_run 32 = .ok (.invokespecial 151, 3) := by decide +kernel
theorem dX7_run_35 : decode cX7_run 35 = .ok (.athrow, 1) := by decide +kernel
theorem dX7_run_36 : decode cX7_run 36 = .ok (.aload_n 0, 1) := by decide +kernel
theorem dX7_run_37 : decode cX7_run 37 = .ok (.getfield 16, 3) := by decide +kernel
theorem dX7_run_40 : decode cX7_run 40 = .ok (.aload_n 0, 1) := by decide +kernel
theorem dX7_run_41 : decode cX7_run 41 = .ok (.getfield 12, 3) := by decide +kernel
theorem dX7_run_44 : decode cX7_run 44 = .ok (.invokevirtual 281, 3) := by decide +kernel
theorem dX7_run_47 : decode cX7_run 47 = .ok (.iconst 0, 1) := by decide +kernel
theorem dX7_run_48 : decode cX7_run 48 = .ok (.istore_n 1, 1) := by decide +kernel
theorem dX7_run_49 : decode cX7_run 49 = .ok (.iconst 0, 1) := by decide +kernel
theorem dX7_run_50 : decode cX7_run 50 = .ok (.istore_n 2, 1) := by decide +kernel
theorem dX7_run_51 : decode cX7_run 51 = .ok (.iload_n 2, 1) := by decide +kernel
theorem dX7_run_52 : decode cX7_run 52 = .ok (.aload_n 0, 1) := by decide +kernel
theorem dX7_run_53 : decode cX7_run 53 = .ok (.getfield 39, 3) := by decide +kernel
theorem dX7_run_56 : decode cX7_run 56 = .ok (.getfield 284, 3) := by decide +kernel
theorem dX7_run_59 : decode cX7_run 59 = .ok (.if_icmp .ge 74, 3) := by decide +kernel
theorem dX7_run_62 : decode cX7_run 62 = .ok (.iload_n 1, 1) := by decide +kernel
theorem dX7_run_63 : decode cX7_run 63 = .ok (.ifCond .ne 70, 3) := by decide +kernel
theorem dX7_run_66 : decode cX7_run 66 = .ok (.aload_n 0, 1) := by decide +kernel
theorem dX7_run_67 : decode cX7_run 67 = .ok (.aload_n 0, 1) := by decide +kernel
theorem dX7_run_68 : decode cX7_run 68 = .ok (.getfield 39, 3) := by decide +kernel
theorem dX7_run_71 : decode cX7_run 71 = .ok (.iload_n 2, 1) := by decide +kernel
theorem dX7_run_72 : decode cX7_run 72 = .ok (.invokevirtual 285, 3) := by decide +kernel
theorem dX7_run_75 : decode cX7_run 75 = .ok (.aload_n 0, 1) := by decide +kernel
theorem dX7_run_76 : decode cX7_run 76 = .ok (.getfield 39, 3) := by decide +kernel
theorem dX7_run_79 : decode cX7_run 79 = .ok (.iload_n 2, 1) := by decide +kernel
theorem dX7_run_80 : decode cX7_run 80 = .ok (.invokevirtual 288, 3) := by decide +kernel
theorem dX7_run_83 : decode cX7_run 83 = .ok (.aload_n 0, 1) := by decide +kernel
theorem dX7_run_84 : decode cX7_run 84 = .ok (.getfield 39, 3) := by decide +kernel
theorem dX7_run_87 : decode cX7_run 87 = .ok (.iload_n 2, 1) := by decide +kernel
theorem dX7_run_88 : decode cX7_run 88 = .ok (.invokevirtual 291, 3) := by decide +kernel
theorem dX7_run_91 : decode cX7_run 91 = .ok (.invokevirtual 294, 3) := by decide +kernel
theorem dX7_run_94 : decode cX7_run 94 = .ok (.istore_n 1, 1) := by decide +kernel
theorem dX7_run_95 : decode cX7_run 95 = .ok (.iload_n 1, 1) := by decide +kernel
theorem dX7_run_96 : decode cX7_run 96 = .ok (.ifCond .ne 31, 3) := by decide +kernel
theorem dX7_run_99 : decode cX7_run 99 = .ok (.aload_n 0, 1) := by decide +kernel
theorem dX7_run_100 : decode cX7_run 100 = .ok (.aload_n 0, 1) := by decide +kernel
theorem dX7_run_101 : decode cX7_run 101 = .ok (.getfield 39, 3) := by decide +kernel
theorem dX7_run_104 : decode cX7_run 104 = .ok (.iload_n 2, 1) := by decide +kernel
theorem dX7_run_105 : decode cX7_run 105 = .ok (.invokevirtual 285, 3) := by decide +kernel
theorem dX7_run_108 : decode cX7_run 108 = .ok (.aload_n 0, 1) := by decide +kernel
theorem dX7_run_109 : decode cX7_run 109 = .ok (.getfield 39, 3) := by decide +kernel
theorem dX7_run_112 : decode cX7_run 112 = .ok (.iload_n 2, 1) := by decide +kernel
theorem dX7_run_113 : decode cX7_run 113 = .ok (.invokevirtual 288, 3) := by decide +kernel
theorem dX7_run_116 : decode cX7_run 116 = .ok (.aload_n 0, 1) := by decide +kernel
theorem dX7_run_117 : decode cX7_run 117 = .ok (.getfield 39, 3) := by decide +kernel
theorem dX7_run_120 : decode cX7_run 120 = .ok (.iload_n 2, 1) := by decide +kernel
theorem dX7_run_121 : decode cX7_run 121 = .ok (.invokevirtual 291, 3) := by decide +kernel
theorem dX7_run_124 : decode cX7_run 124 = .ok (.invokevirtual 298, 3) := by decide +kernel
theorem dX7_run_127 : decode cX7_run 127 = .ok (.iinc 2 1, 3) := by decide +kernel
theorem dX7_run_130 : decode cX7_run 130 = .ok (.goto (-79), 3) := by decide +kernel
theorem dX7_run_133 : decode cX7_run 133 = .ok (.iload_n 1, 1) := by decide +kernel
theorem dX7_run_134 : decode cX7_run 134 = .ok (.ifCond .eq 14, 3) := by decide +kernel
theorem dX7_run_137 : decode cX7_run 137 = .ok (.aload_n 0, 1) := by decide +kernel
theorem dX7_run_138 : decode cX7_run 138 = .ok (.getfield 12, 3) := by decide +kernel
theorem dX7_run_141 : decode cX7_run 141 = .ok (.aload_n 0, 1) := by decide +kernel
theorem dX7_run_142 : decode cX7_run 142 = .ok (.getfield 16, 3) := by decide +kernel
theorem dX7_run_145 : decode cX7_run 145 = .ok (.invokevirtual 281, 3) := by decide +kernel
theorem dX7_run_148 : decode cX7_run 148 = .ok (.iload_n 1, 1) := by decide +kernel
theorem dX7_run_149 : decode cX7_run 149 = .ok (.iconst 3, 1) := by decide +kernel
theorem dX7_run_150 : decode cX7_run 150 = .ok (.if_icmp .ne 14, 3) := by decide +kernel
theorem dX7_run_153 : decode cX7_run 153 = .ok (.new 302, 3) := by decide +kernel
theorem dX7_run_156 : decode cX7_run 156 = .ok (.dup, 1) := by decide +kernel
theorem dX7_run_157 : decode cX7_run 157 = .ok (.ldc_w 304, 3) := by decide +kernel
theorem dX7_run_160 : decode cX7_run 160 = .ok (.invokespecial 306, 3) := by decide +kernel
theorem dX7_run_163 : decode cX7_run 163 = .ok (.athrow, 1) := by decide +kernel
theorem dX7_run_164 : decode cX7_run 164 = .ok (.iload_n 1, 1) := by decide +kernel
theorem dX7_run_165 : decode cX7_run 165 = .ok (.ifCond .eq 14, 3) := by decide +kernel
theorem dX7_run_168 : decode cX7_run 168 = .ok (.new 147, 3) := by decide +kernel
theorem dX7_run_171 : decode cX7_run 171 = .ok (.dup, 1) := by decide +kernel
theorem dX7_run_172 : decode cX7_run 172 = .ok (.ldc_w 307, 3) := by decide +kernel
theorem dX7_run_175 : decode cX7_run 175 = .ok (.invokespecial 151, 3) := by decide +kernel
theorem dX7_run_178 : decode cX7_run 178 = .ok (.athrow, 1) := by decide +kernel
theorem dX7_run_179 : decode cX7_run 179 = .ok (.aload_n 0, 1) := by decide +kernel
theorem dX7_run_180 : decode cX7_run 180 = .ok (.getfield 25, 3) := by decide +kernel
theorem dX7_run_183 : decode cX7_run 183 = .ok (.aload_n 0, 1) := by decide +kernel
theorem dX7_run_184 : decode cX7_run 184 = .ok (.getfield 16, 3) := by decide +kernel
theorem dX7_run_187 : decode cX7_run 187 = .ok (.invokevirtual 65, 3) := by decide +kernel
theorem dX7_run_190 : decode cX7_run 190 = .ok (.aload_n 0, 1) := by decide +kernel
theorem dX7_run_191 : decode cX7_run 191 = .ok (.getfield 39, 3) := by decide +kernel
theorem dX7_run_194 : decode cX7_run 194 = .ok (.getfield 284, 3) := by decide +kernel
theorem dX7_run_197 : decode cX7_run 197 = .ok (.ireturn, 1) := by decide +kernel
theorem dX7_errorPosition_0 : decode cX7_errorPosition 0 = .ok (.aload_n 0, 1) := by decide +kernel
theorem dX7_errorPosition_1 : decode cX7_errorPosition 1 = .ok (.getfield 43, 3) := by decide +kernel
theorem dX7_errorPosition_4 : decode cX7_errorPosition 4 = .ok (.ireturn, 1) := by decide +kernel
theorem dX7_refusal_0 : decode cX7_refusal 0 = .ok (.aload_n 0, 1) := by decide +kernel
theorem dX7_refusal_1 : decode cX7_refusal 1 = .ok (.getfield 51, 3) := by decide +kernel
theorem dX7_refusal_4 : decode cX7_refusal 4 = .ok (.ifCond .ne 14, 3) := by decide +kernel
theorem dX7_refusal_7 : decode cX7_refusal 7 = .ok (.new 169, 3) := by decide +kernel
theorem dX7_refusal_10 : decode cX7_refusal 10 = .ok (.dup, 1) := by decide +kernel
theorem dX7_refusal_11 : decode cX7_refusal 11 = .ok (.ldc_w 309, 3) := by decide +kernel
theorem dX7_refusal_14 : decode cX7_refusal 14 = .ok (.invokespecial 171, 3) := by decide +kernel
theorem dX7_refusal_17 : decode cX7_refusal 17 = .ok (.athrow, 1) := by decide +kernel
theorem dX7_refusal_18 : decode cX7_refusal 18 = .ok (.iload_n 1, 1) := by decide +kernel
theorem dX7_refusal_19 : decode cX7_refusal 19 = .ok (.ifCond .eq 10, 3) := by decide +kernel
theorem dX7_refusal_22 : decode cX7_refusal 22 = .ok (.aload_n 0, 1) := by decide +kernel
theorem dX7_refusal_23 : decode cX7_refusal 23 = .ok (.getfield 54, 3) := by decide +kernel
theorem dX7_refusal_26 : decode cX7_refusal 26 = .ok (.goto 7, 3) := by decide +kernel
theorem dX7_refusal_29 : decode cX7_refusal 29 = .ok (.aload_n 0, 1) := by decide +kernel
theorem dX7_refusal_30 : decode cX7_refusal 30 = .ok (.getfield 51, 3) := by decide +kernel
theorem dX7_refusal_33 : decode cX7_refusal 33 = .ok (.ireturn, 1) := by decide +kernel
theorem dX7_account_0 : decode cX7_account 0 = .ok (.iload_n 1, 1) := by decide +kernel
theorem dX7_account_1 : decode cX7_account 1 = .ok (.tableswitch 185 0 10 #[59, 70, 81, 92, 103, 114, 136, 147, 158, 169, 177], 59) := by decide +kernel
theorem dX7_account_60 : decode cX7_account 60 = .ok (.aload_n 0, 1) := by decide +kernel
theorem dX7_account_61 : decode cX7_account 61 = .ok (.getfield 12, 3) := by decide +kernel
theorem dX7_account_64 : decode cX7_account 64 = .ok (.getfield 126, 3) := by decide +kernel
theorem dX7_account_67 : decode cX7_account 67 = .ok (.getfield 311, 3) := by decide +kernel
theorem dX7_account_70 : decode cX7_account 70 = .ok (.ireturn, 1) := by decide +kernel
theorem dX7_account_71 : decode cX7_account 71 = .ok (.aload_n 0, 1) := by decide +kernel
theorem dX7_account_72 : decode cX7_account 72 = .ok (.getfield 12, 3) := by decide +kernel
theorem dX7_account_75 : decode cX7_account 75 = .ok (.getfield 126, 3) := by decide +kernel
theorem dX7_account_78 : decode cX7_account 78 = .ok (.invokevirtual 312, 3) := by decide +kernel
theorem dX7_account_81 : decode cX7_account 81 = .ok (.ireturn, 1) := by decide +kernel
theorem dX7_account_82 : decode cX7_account 82 = .ok (.aload_n 0, 1) := by decide +kernel
theorem dX7_account_83 : decode cX7_account 83 = .ok (.getfield 12, 3) := by decide +kernel
theorem dX7_account_86 : decode cX7_account 86 = .ok (.getfield 126, 3) := by decide +kernel
theorem dX7_account_89 : decode cX7_account 89 = .ok (.invokevirtual 315, 3) := by decide +kernel
theorem dX7_account_92 : decode cX7_account 92 = .ok (.ireturn, 1) := by decide +kernel
theorem dX7_account_93 : decode cX7_account 93 = .ok (.aload_n 0, 1) := by decide +kernel
theorem dX7_account_94 : decode cX7_account 94 = .ok (.getfield 12, 3) := by decide +kernel
theorem dX7_account_97 : decode cX7_account 97 = .ok (.getfield 203, 3) := by decide +kernel
theorem dX7_account_100 : decode cX7_account 100 = .ok (.invokevirtual 318, 3) := by decide +kernel
theorem dX7_account_103 : decode cX7_account 103 = .ok (.ireturn, 1) := by decide +kernel
theorem dX7_account_104 : decode cX7_account 104 = .ok (.aload_n 0, 1) := by decide +kernel
theorem dX7_account_105 : decode cX7_account 105 = .ok (.getfield 12, 3) := by decide +kernel
theorem dX7_account_108 : decode cX7_account 108 = .ok (.getfield 103, 3) := by decide +kernel
theorem dX7_account_111 : decode cX7_account 111 = .ok (.getfield 123, 3) := by decide +kernel
theorem dX7_account_114 : decode cX7_account 114 = .ok (.ireturn, 1) := by decide +kernel
theorem dX7_account_115 : decode cX7_account 115 = .ok (.aload_n 0, 1) := by decide +kernel
theorem dX7_account_116 : decode cX7_account 116 = .ok (.getfield 12, 3) := by decide +kernel
theorem dX7_account_119 : decode cX7_account 119 = .ok (.getfield 126, 3) := by decide +kernel
theorem dX7_account_122 : decode cX7_account 122 = .ok (.invokevirtual 315, 3) := by decide +kernel
theorem dX7_account_125 : decode cX7_account 125 = .ok (.aload_n 0, 1) := by decide +kernel
theorem dX7_account_126 : decode cX7_account 126 = .ok (.getfield 12, 3) := by decide +kernel
theorem dX7_account_129 : decode cX7_account 129 = .ok (.getfield 126, 3) := by decide +kernel
theorem dX7_account_132 : decode cX7_account 132 = .ok (.invokevirtual 312, 3) := by decide +kernel
theorem dX7_account_135 : decode cX7_account 135 = .ok (.isub, 1) := by decide +kernel
theorem dX7_account_136 : decode cX7_account 136 = .ok (.ireturn, 1) := by decide +kernel
theorem dX7_account_137 : decode cX7_account 137 = .ok (.aload_n 0, 1) := by decide +kernel
theorem dX7_account_138 : decode cX7_account 138 = .ok (.getfield 12, 3) := by decide +kernel
theorem dX7_account_141 : decode cX7_account 141 = .ok (.getfield 203, 3) := by decide +kernel
theorem dX7_account_144 : decode cX7_account 144 = .ok (.getfield 321, 3) := by decide +kernel
theorem dX7_account_147 : decode cX7_account 147 = .ok (.ireturn, 1) := by decide +kernel
theorem dX7_account_148 : decode cX7_account 148 = .ok (.aload_n 0, 1) := by decide +kernel
theorem dX7_account_149 : decode cX7_account 149 = .ok (.getfield 12, 3) := by decide +kernel
theorem dX7_account_152 : decode cX7_account 152 = .ok (.getfield 203, 3) := by decide +kernel
theorem dX7_account_155 : decode cX7_account 155 = .ok (.getfield 324, 3) := by decide +kernel
theorem dX7_account_158 : decode cX7_account 158 = .ok (.ireturn, 1) := by decide +kernel
theorem dX7_account_159 : decode cX7_account 159 = .ok (.aload_n 0, 1) := by decide +kernel
theorem dX7_account_160 : decode cX7_account 160 = .ok (.getfield 12, 3) := by decide +kernel
theorem dX7_account_163 : decode cX7_account 163 = .ok (.getfield 203, 3) := by decide +kernel
theorem dX7_account_166 : decode cX7_account 166 = .ok (.getfield 327, 3) := by decide +kernel
theorem dX7_account_169 : decode cX7_account 169 = .ok (.ireturn, 1) := by decide +kernel
theorem dX7_account_170 : decode cX7_account 170 = .ok (.aload_n 0, 1) := by decide +kernel
theorem dX7_account_171 : decode cX7_account 171 = .ok (.getfield 39, 3) := by decide +kernel
theorem dX7_account_174 : decode cX7_account 174 = .ok (.getfield 272, 3) := by decide +kernel
theorem dX7_account_177 : decode cX7_account 177 = .ok (.ireturn, 1) := by decide +kernel
theorem dX7_account_178 : decode cX7_account 178 = .ok (.aload_n 0, 1) := by decide +kernel
theorem dX7_account_179 : decode cX7_account 179 = .ok (.getfield 25, 3) := by decide +kernel
theorem dX7_account_182 : decode cX7_account 182 = .ok (.getfield 330, 3) := by decide +kernel
theorem dX7_account_185 : decode cX7_account 185 = .ok (.ireturn, 1) := by decide +kernel
theorem dX7_account_186 : decode cX7_account 186 = .ok (.new 147, 3) := by decide +kernel
theorem dX7_account_189 : decode cX7_account 189 = .ok (.dup, 1) := by decide +kernel
theorem dX7_account_190 : decode cX7_account 190 = .ok (.ldc_w 331, 3) := by decide +kernel
theorem dX7_account_193 : decode cX7_account 193 = .ok (.invokespecial 151, 3) := by decide +kernel
theorem dX7_account_196 : decode cX7_account 196 = .ok (.athrow, 1) := by decide +kernel
theorem dX7_isWell_0 : decode cX7_isWell 0 = .ok (.aload_n 0, 1) := by decide +kernel
theorem dX7_isWell_1 : decode cX7_isWell 1 = .ok (.getfield 12, 3) := by decide +kernel
theorem dX7_isWell_4 : decode cX7_isWell 4 = .ok (.invokevirtual 333, 3) := by decide +kernel
theorem dX7_isWell_7 : decode cX7_isWell 7 = .ok (.ifCond .eq 40, 3) := by decide +kernel
theorem dX7_isWell_10 : decode cX7_isWell 10 = .ok (.aload_n 0, 1) := by decide +kernel
theorem dX7_isWell_11 : decode cX7_isWell 11 = .ok (.getfield 12, 3) := by decide +kernel
theorem dX7_isWell_14 : decode cX7_isWell 14 = .ok (.invokevirtual 336, 3) := by decide +kernel
theorem dX7_isWell_17 : decode cX7_isWell 17 = .ok (.ifCond .eq 30, 3) := by decide +kernel
theorem dX7_isWell_20 : decode cX7_isWell 20 = .ok (.aload_n 0, 1) := by decide +kernel
theorem dX7_isWell_21 : decode cX7_isWell 21 = .ok (.getfield 12, 3) := by decide +kernel
theorem dX7_isWell_24 : decode cX7_isWell 24 = .ok (.getfield 126, 3) := by decide +kernel
theorem dX7_isWell_27 : decode cX7_isWell 27 = .ok (.invokevirtual 339, 3) := by decide +kernel
theorem dX7_isWell_30 : decode cX7_isWell 30 = .ok (.ifCond .eq 17, 3) := by decide +kernel
theorem dX7_isWell_33 : decode cX7_isWell 33 = .ok (.aload_n 0, 1) := by decide +kernel
theorem dX7_isWell_34 : decode cX7_isWell 34 = .ok (.getfield 12, 3) := by decide +kernel
theorem dX7_isWell_37 : decode cX7_isWell 37 = .ok (.invokevirtual 342, 3) := by decide +kernel
theorem dX7_isWell_40 : decode cX7_isWell 40 = .ok (.ifCond .ne 7, 3) := by decide +kernel
theorem dX7_isWell_43 : decode cX7_isWell 43 = .ok (.iconst 1, 1) := by decide +kernel
theorem dX7_isWell_44 : decode cX7_isWell 44 = .ok (.goto 4, 3) := by decide +kernel
theorem dX7_isWell_47 : decode cX7_isWell 47 = .ok (.iconst 0, 1) := by decide +kernel
theorem dX7_isWell_48 : decode cX7_isWell 48 = .ok (.ireturn, 1) := by decide +kernel
theorem dX7_meanWaste_0 : decode cX7_meanWaste 0 = .ok (.aload_n 0, 1) := by decide +kernel
theorem dX7_meanWaste_1 : decode cX7_meanWaste 1 = .ok (.getfield 12, 3) := by decide +kernel
theorem dX7_meanWaste_4 : decode cX7_meanWaste 4 = .ok (.getfield 126, 3) := by decide +kernel
theorem dX7_meanWaste_7 : decode cX7_meanWaste 7 = .ok (.getfield 311, 3) := by decide +kernel
theorem dX7_meanWaste_10 : decode cX7_meanWaste 10 = .ok (.istore_n 1, 1) := by decide +kernel
theorem dX7_meanWaste_11 : decode cX7_meanWaste 11 = .ok (.iload_n 1, 1) := by decide +kernel
theorem dX7_meanWaste_12 : decode cX7_meanWaste 12 = .ok (.ifCond .gt 14, 3) := by decide +kernel
theorem dX7_meanWaste_15 : decode cX7_meanWaste 15 = .ok (.new 345, 3) := by decide +kernel
theorem dX7_meanWaste_18 : decode cX7_meanWaste 18 = .ok (.dup, 1) := by decide +kernel
theorem dX7_meanWaste_19 : decode cX7_meanWaste 19 = .ok (.ldc_w 347, 3) := by decide +kernel
theorem dX7_meanWaste_22 : decode cX7_meanWaste 22 = .ok (.invokespecial 349, 3) := by decide +kernel
theorem dX7_meanWaste_25 : decode cX7_meanWaste 25 = .ok (.athrow, 1) := by decide +kernel
theorem dX7_meanWaste_26 : decode cX7_meanWaste 26 = .ok (.aload_n 0, 1) := by decide +kernel
theorem dX7_meanWaste_27 : decode cX7_meanWaste 27 = .ok (.getfield 12, 3) := by decide +kernel
theorem dX7_meanWaste_30 : decode cX7_meanWaste 30 = .ok (.getfield 126, 3) := by decide +kernel
theorem dX7_meanWaste_33 : decode cX7_meanWaste 33 = .ok (.invokevirtual 315, 3) := by decide +kernel
theorem dX7_meanWaste_36 : decode cX7_meanWaste 36 = .ok (.aload_n 0, 1) := by decide +kernel
theorem dX7_meanWaste_37 : decode cX7_meanWaste 37 = .ok (.getfield 12, 3) := by decide +kernel
theorem dX7_meanWaste_40 : decode cX7_meanWaste 40 = .ok (.getfield 126, 3) := by decide +kernel
theorem dX7_meanWaste_43 : decode cX7_meanWaste 43 = .ok (.invokevirtual 312, 3) := by decide +kernel
theorem dX7_meanWaste_46 : decode cX7_meanWaste 46 = .ok (.isub, 1) := by decide +kernel
theorem dX7_meanWaste_47 : decode cX7_meanWaste 47 = .ok (.i2d, 1) := by decide +kernel
theorem dX7_meanWaste_48 : decode cX7_meanWaste 48 = .ok (.iload_n 1, 1) := by decide +kernel
theorem dX7_meanWaste_49 : decode cX7_meanWaste 49 = .ok (.i2d, 1) := by decide +kernel
theorem dX7_meanWaste_50 : decode cX7_meanWaste 50 = .ok (.ddiv, 1) := by decide +kernel
theorem dX7_meanWaste_51 : decode cX7_meanWaste 51 = .ok (.dreturn, 1) := by decide +kernel
theorem dX7_lentShare_0 : decode cX7_lentShare 0 = .ok (.aload_n 0, 1) := by decide +kernel
theorem dX7_lentShare_1 : decode cX7_lentShare 1 = .ok (.getfield 12, 3) := by decide +kernel
theorem dX7_lentShare_4 : decode cX7_lentShare 4 = .ok (.getfield 126, 3) := by decide +kernel
theorem dX7_lentShare_7 : decode cX7_lentShare 7 = .ok (.invokevirtual 315, 3) := by decide +kernel
theorem dX7_lentShare_10 : decode cX7_lentShare 10 = .ok (.i2f, 1) := by decide +kernel
theorem dX7_lentShare_11 : decode cX7_lentShare 11 = .ok (.ldc_w 350, 3) := by decide +kernel
theorem dX7_lentShare_14 : decode cX7_lentShare 14 = .ok (.fdiv, 1) := by decide +kernel
theorem dX7_lentShare_15 : decode cX7_lentShare 15 = .ok (.freturn, 1) := by decide +kernel
theorem dX7_undo_0 : decode cX7_undo 0 = .ok (.aload_n 0, 1) := by decide +kernel
theorem dX7_undo_1 : decode cX7_undo 1 = .ok (.getfield 25, 3) := by decide +kernel
theorem dX7_undo_4 : decode cX7_undo 4 = .ok (.getfield 330, 3) := by decide +kernel
theorem dX7_undo_7 : decode cX7_undo 7 = .ok (.ifCond .gt 14, 3) := by decide +kernel
theorem dX7_undo_10 : decode cX7_undo 10 = .ok (.new 263, 3) := by decide +kernel
theorem dX7_undo_13 : decode cX7_undo 13 = .ok (.dup, 1) := by decide +kernel
theorem dX7_undo_14 : decode cX7_undo 14 = .ok (.ldc_w 351, 3) := by decide +kernel
theorem dX7_undo_17 : decode cX7_undo 17 = .ok (.invokespecial 267, 3) := by decide +kernel
theorem dX7_undo_20 : decode cX7_undo 20 = .ok (.athrow, 1) := by decide +kernel
theorem dX7_undo_21 : decode cX7_undo 21 = .ok (.aload_n 0, 1) := by decide +kernel
theorem dX7_undo_22 : decode cX7_undo 22 = .ok (.getfield 25, 3) := by decide +kernel
theorem dX7_undo_25 : decode cX7_undo 25 = .ok (.aload_n 0, 1) := by decide +kernel
theorem dX7_undo_26 : decode cX7_undo 26 = .ok (.getfield 12, 3) := by decide +kernel
theorem dX7_undo_29 : decode cX7_undo 29 = .ok (.invokevirtual 353, 3) := by decide +kernel
theorem dX7_undo_32 : decode cX7_undo 32 = .ok (.aload_n 0, 1) := by decide +kernel
theorem dX7_undo_33 : decode cX7_undo 33 = .ok (.getfield 25, 3) := by decide +kernel
theorem dX7_undo_36 : decode cX7_undo 36 = .ok (.getfield 330, 3) := by decide +kernel
theorem dX7_undo_39 : decode cX7_undo 39 = .ok (.ireturn, 1) := by decide +kernel
theorem dX7_save_0 : decode cX7_save 0 = .ok (.aload_n 0, 1) := by decide +kernel
theorem dX7_save_1 : decode cX7_save 1 = .ok (.getfield 19, 3) := by decide +kernel
theorem dX7_save_4 : decode cX7_save 4 = .ok (.aload_n 0, 1) := by decide +kernel
theorem dX7_save_5 : decode cX7_save 5 = .ok (.getfield 12, 3) := by decide +kernel
theorem dX7_save_8 : decode cX7_save 8 = .ok (.invokevirtual 281, 3) := by decide +kernel
theorem dX7_save_11 : decode cX7_save 11 = .ok (.aload_n 0, 1) := by decide +kernel
theorem dX7_save_12 : decode cX7_save 12 = .ok (.iconst 1, 1) := by decide +kernel
theorem dX7_save_13 : decode cX7_save 13 = .ok (.putfield 47, 3) := by decide +kernel
theorem dX7_save_16 : decode cX7_save 16 = .ok (.aload_n 0, 1) := by decide +kernel
theorem dX7_save_17 : decode cX7_save 17 = .ok (.getfield 12, 3) := by decide +kernel
theorem dX7_save_20 : decode cX7_save 20 = .ok (.getfield 126, 3) := by decide +kernel
theorem dX7_save_23 : decode cX7_save 23 = .ok (.getfield 311, 3) := by decide +kernel
theorem dX7_save_26 : decode cX7_save 26 = .ok (.ireturn, 1) := by decide +kernel
theorem dX7_restore_0 : decode cX7_restore 0 = .ok (.aload_n 0, 1) := by decide +kernel
theorem dX7_restore_1 : decode cX7_restore 1 = .ok (.getfield 47, 3) := by decide +kernel
theorem dX7_restore_4 : decode cX7_restore 4 = .ok (.ifCond .ne 14, 3) := by decide +kernel
theorem dX7_restore_7 : decode cX7_restore 7 = .ok (.new 263, 3) := by decide +kernel
theorem dX7_restore_10 : decode cX7_restore 10 = .ok (.dup, 1) := by decide +kernel
theorem dX7_restore_11 : decode cX7_restore 11 = .ok (.ldc_w 356, 3) := by decide +kernel
theorem dX7_restore_14 : decode cX7_restore 14 = .ok (.invokespecial 267, 3) := by decide +kernel
theorem dX7_restore_17 : decode cX7_restore 17 = .ok (.athrow, 1) := by decide +kernel
theorem dX7_restore_18 : decode cX7_restore 18 = .ok (.aload_n 0, 1) := by decide +kernel
theorem dX7_restore_19 : decode cX7_restore 19 = .ok (.getfield 12, 3) := by decide +kernel
theorem dX7_restore_22 : decode cX7_restore 22 = .ok (.aload_n 0, 1) := by decide +kernel
theorem dX7_restore_23 : decode cX7_restore 23 = .ok (.getfield 19, 3) := by decide +kernel
theorem dX7_restore_26 : decode cX7_restore 26 = .ok (.invokevirtual 281, 3) := by decide +kernel
theorem dX7_restore_29 : decode cX7_restore 29 = .ok (.aload_n 0, 1) := by decide +kernel
theorem dX7_restore_30 : decode cX7_restore 30 = .ok (.getfield 25, 3) := by decide +kernel
theorem dX7_restore_33 : decode cX7_restore 33 = .ok (.invokevirtual 358, 3) := by decide +kernel
theorem dX7_restore_36 : decode cX7_restore 36 = .ok (.aload_n 0, 1) := by decide +kernel
theorem dX7_restore_37 : decode cX7_restore 37 = .ok (.getfield 12, 3) := by decide +kernel
theorem dX7_restore_40 : decode cX7_restore 40 = .ok (.getfield 126, 3) := by decide +kernel
theorem dX7_restore_43 : decode cX7_restore 43 = .ok (.getfield 311, 3) := by decide +kernel
theorem dX7_restore_46 : decode cX7_restore 46 = .ok (.ireturn, 1) := by decide +kernel
theorem dX7_judgeLend_0 : decode cX7_judgeLend 0 = .ok (.iload_n 1, 1) := by decide +kernel
theorem dX7_judgeLend_1 : decode cX7_judgeLend 1 = .ok (.invokestatic 152, 3) := by decide +kernel
theorem dX7_judgeLend_4 : decode cX7_judgeLend 4 = .ok (.ifCond .eq 10, 3) := by decide +kernel
theorem dX7_judgeLend_7 : decode cX7_judgeLend 7 = .ok (.iload_n 2, 1) := by decide +kernel
theorem dX7_judgeLend_8 : decode cX7_judgeLend 8 = .ok (.invokestatic 361, 3) := by decide +kernel
theorem dX7_judgeLend_11 : decode cX7_judgeLend 11 = .ok (.ifCond .ne 5, 3) := by decide +kernel
theorem dX7_judgeLend_14 : decode cX7_judgeLend 14 = .ok (.iconst 2, 1) := by decide +kernel
theorem dX7_judgeLend_15 : decode cX7_judgeLend 15 = .ok (.ireturn, 1) := by decide +kernel
theorem dX7_judgeLend_16 : decode cX7_judgeLend 16 = .ok (.aload_n 0, 1) := by decide +kernel
theorem dX7_judgeLend_17 : decode cX7_judgeLend 17 = .ok (.getfield 12, 3) := by decide +kernel
theorem dX7_judgeLend_20 : decode cX7_judgeLend 20 = .ok (.getfield 126, 3) := by decide +kernel
theorem dX7_judgeLend_23 : decode cX7_judgeLend 23 = .ok (.getfield 311, 3) := by decide +kernel
theorem dX7_judgeLend_26 : decode cX7_judgeLend 26 = .ok (.bipush 16, 2) := by decide +kernel
theorem dX7_judgeLend_28 : decode cX7_judgeLend 28 = .ok (.if_icmp .lt 19, 3) := by decide +kernel
theorem dX7_judgeLend_31 : decode cX7_judgeLend 31 = .ok (.aload_n 0, 1) := by decide +kernel
theorem dX7_judgeLend_32 : decode cX7_judgeLend 32 = .ok (.iconst 1, 1) := by decide +kernel
theorem dX7_judgeLend_33 : decode cX7_judgeLend 33 = .ok (.aload_n 0, 1) := by decide +kernel
theorem dX7_judgeLend_34 : decode cX7_judgeLend 34 = .ok (.getfield 12, 3) := by decide +kernel
theorem dX7_judgeLend_37 : decode cX7_judgeLend 37 = .ok (.getfield 126, 3) := by decide +kernel
theorem dX7_judgeLend_40 : decode cX7_judgeLend 40 = .ok (.getfield 311, 3) := by decide +kernel
theorem dX7_judgeLend_43 : decode cX7_judgeLend 43 = .ok (.invokevirtual 364, 3) := by decide +kernel
theorem dX7_judgeLend_46 : decode cX7_judgeLend 46 = .ok (.ireturn, 1) := by decide +kernel
theorem dX7_judgeLend_47 : decode cX7_judgeLend 47 = .ok (.aload_n 0, 1) := by decide +kernel
theorem dX7_judgeLend_48 : decode cX7_judgeLend 48 = .ok (.getfield 12, 3) := by decide +kernel
theorem dX7_judgeLend_51 : decode cX7_judgeLend 51 = .ok (.getfield 203, 3) := by decide +kernel
theorem dX7_judgeLend_54 : decode cX7_judgeLend 54 = .ok (.invokevirtual 212, 3) := by decide +kernel
theorem dX7_judgeLend_57 : decode cX7_judgeLend 57 = .ok (.istore_n 3, 1) := by decide +kernel
theorem dX7_judgeLend_58 : decode cX7_judgeLend 58 = .ok (.iload_n 3, 1) := by decide +kernel
theorem dX7_judgeLend_59 : decode cX7_judgeLend 59 = .ok (.iload_n 2, 1) := by decide +kernel
theorem dX7_judgeLend_60 : decode cX7_judgeLend 60 = .ok (.invokestatic 367, 3) := by decide +kernel
theorem dX7_judgeLend_63 : decode cX7_judgeLend 63 = .ok (.if_icmp .ge 12, 3) := by decide +kernel
theorem dX7_judgeLend_66 : decode cX7_judgeLend 66 = .ok (.aload_n 0, 1) := by decide +kernel
theorem dX7_judgeLend_67 : decode cX7_judgeLend 67 = .ok (.iconst 2, 1) := by decide +kernel
theorem dX7_judgeLend_68 : decode cX7_judgeLend 68 = .ok (.iload_n 3, 1) := by decide +kernel
theorem dX7_judgeLend_69 : decode cX7_judgeLend 69 = .ok (.invokevirtual 364, 3) := by decide +kernel
theorem dX7_judgeLend_72 : decode cX7_judgeLend 72 = .ok (.goto 4, 3) := by decide +kernel
theorem dX7_judgeLend_75 : decode cX7_judgeLend 75 = .ok (.iconst 0, 1) := by decide +kernel
theorem dX7_judgeLend_76 : decode cX7_judgeLend 76 = .ok (.ireturn, 1) := by decide +kernel
theorem dX7_judgeAsk_0 : decode cX7_judgeAsk 0 = .ok (.iload_n 1, 1) := by decide +kernel
theorem dX7_judgeAsk_1 : decode cX7_judgeAsk 1 = .ok (.invokestatic 152, 3) := by decide +kernel
theorem dX7_judgeAsk_4 : decode cX7_judgeAsk 4 = .ok (.ifCond .eq 10, 3) := by decide +kernel
theorem dX7_judgeAsk_7 : decode cX7_judgeAsk 7 = .ok (.iload_n 2, 1) := by decide +kernel
theorem dX7_judgeAsk_8 : decode cX7_judgeAsk 8 = .ok (.invokestatic 361, 3) := by decide +kernel
theorem dX7_judgeAsk_11 : decode cX7_judgeAsk 11 = .ok (.ifCond .ne 5, 3) := by decide +kernel
theorem dX7_judgeAsk_14 : decode cX7_judgeAsk 14 = .ok (.iconst 2, 1) := by decide +kernel
theorem dX7_judgeAsk_15 : decode cX7_judgeAsk 15 = .ok (.ireturn, 1) := by decide +kernel
theorem dX7_judgeAsk_16 : decode cX7_judgeAsk 16 = .ok (.aload_n 0, 1) := by decide +kernel
theorem dX7_judgeAsk_17 : decode cX7_judgeAsk 17 = .ok (.getfield 12, 3) := by decide +kernel
theorem dX7_judgeAsk_20 : decode cX7_judgeAsk 20 = .ok (.iload_n 2, 1) := by decide +kernel
theorem dX7_judgeAsk_21 : decode cX7_judgeAsk 21 = .ok (.invokevirtual 370, 3) := by decide +kernel
theorem dX7_judgeAsk_24 : decode cX7_judgeAsk 24 = .ok (.ifCond .ne 34, 3) := by decide +kernel
theorem dX7_judgeAsk_27 : decode cX7_judgeAsk 27 = .ok (.aload_n 0, 1) := by decide +kernel
theorem dX7_judgeAsk_28 : decode cX7_judgeAsk 28 = .ok (.getfield 12, 3) := by decide +kernel
theorem dX7_judgeAsk_31 : decode cX7_judgeAsk 31 = .ok (.getfield 103, 3) := by decide +kernel
theorem dX7_judgeAsk_34 : decode cX7_judgeAsk 34 = .ok (.getfield 123, 3) := by decide +kernel
theorem dX7_judgeAsk_37 : decode cX7_judgeAsk 37 = .ok (.bipush 6, 2) := by decide +kernel
theorem dX7_judgeAsk_39 : decode cX7_judgeAsk 39 = .ok (.if_icmp .lt 19, 3) := by decide +kernel
theorem dX7_judgeAsk_42 : decode cX7_judgeAsk 42 = .ok (.aload_n 0, 1) := by decide +kernel
theorem dX7_judgeAsk_43 : decode cX7_judgeAsk 43 = .ok (.iconst 3, 1) := by decide +kernel
theorem dX7_judgeAsk_44 : decode cX7_judgeAsk 44 = .ok (.aload_n 0, 1) := by decide +kernel
theorem dX7_judgeAsk_45 : decode cX7_judgeAsk 45 = .ok (.getfield 12, 3) := by decide +kernel
theorem dX7_judgeAsk_48 : decode cX7_judgeAsk 48 = .ok (.getfield 103, 3) := by decide +kernel
theorem dX7_judgeAsk_51 : decode cX7_judgeAsk 51 = .ok (.getfield 123, 3) := by decide +kernel
theorem dX7_judgeAsk_54 : decode cX7_judgeAsk 54 = .ok (.invokevirtual 364, 3) := by decide +kernel
theorem dX7_judgeAsk_57 : decode cX7_judgeAsk 57 = .ok (.ireturn, 1) := by decide +kernel
theorem dX7_judgeAsk_58 : decode cX7_judgeAsk 58 = .ok (.iconst 0, 1) := by decide +kernel
theorem dX7_judgeAsk_59 : decode cX7_judgeAsk 59 = .ok (.ireturn, 1) := by decide +kernel
theorem dX7_judgeGive_0 : decode cX7_judgeGive 0 = .ok (.aload_n 0, 1) := by decide +kernel
theorem dX7_judgeGive_1 : decode cX7_judgeGive 1 = .ok (.getfield 12, 3) := by decide +kernel
theorem dX7_judgeGive_4 : decode cX7_judgeGive 4 = .ok (.getfield 126, 3) := by decide +kernel
theorem dX7_judgeGive_7 : decode cX7_judgeGive 7 = .ok (.iload_n 1, 1) := by decide +kernel
theorem dX7_judgeGive_8 : decode cX7_judgeGive 8 = .ok (.invokevirtual 130, 3) := by decide +kernel
theorem dX7_judgeGive_11 : decode cX7_judgeGive 11 = .ok (.ifCond .eq 7, 3) := by decide +kernel
theorem dX7_judgeGive_14 : decode cX7_judgeGive 14 = .ok (.iconst 0, 1) := by decide +kernel
theorem dX7_judgeGive_15 : decode cX7_judgeGive 15 = .ok (.goto 4, 3) := by decide +kernel
theorem dX7_judgeGive_18 : decode cX7_judgeGive 18 = .ok (.iconst 1, 1) := by decide +kernel
theorem dX7_judgeGive_19 : decode cX7_judgeGive 19 = .ok (.ireturn, 1) := by decide +kernel
theorem dX7_judgeGiveAll_0 : decode cX7_judgeGiveAll 0 = .ok (.iload_n 1, 1) := by decide +kernel
theorem dX7_judgeGiveAll_1 : decode cX7_judgeGiveAll 1 = .ok (.invokestatic 152, 3) := by decide +kernel
theorem dX7_judgeGiveAll_4 : decode cX7_judgeGiveAll 4 = .ok (.ifCond .ne 5, 3) := by decide +kernel
theorem dX7_judgeGiveAll_7 : decode cX7_judgeGiveAll 7 = .ok (.iconst 2, 1) := by decide +kernel
theorem dX7_judgeGiveAll_8 : decode cX7_judgeGiveAll 8 = .ok (.ireturn, 1) := by decide +kernel
theorem dX7_judgeGiveAll_9 : decode cX7_judgeGiveAll 9 = .ok (.aload_n 0, 1) := by decide +kernel
theorem dX7_judgeGiveAll_10 : decode cX7_judgeGiveAll 10 = .ok (.getfield 12, 3) := by decide +kernel
theorem dX7_judgeGiveAll_13 : decode cX7_judgeGiveAll 13 = .ok (.getfield 126, 3) := by decide +kernel
theorem dX7_judgeGiveAll_16 : decode cX7_judgeGiveAll 16 = .ok (.iload_n 1, 1) := by decide +kernel
theorem dX7_judgeGiveAll_17 : decode cX7_judgeGiveAll 17 = .ok (.invokevirtual 157, 3) := by decide +kernel
theorem dX7_judgeGiveAll_20 : decode cX7_judgeGiveAll 20 = .ok (.ifCond .ne 22, 3) := by decide +kernel
theorem dX7_judgeGiveAll_23 : decode cX7_judgeGiveAll 23 = .ok (.aload_n 0, 1) := by decide +kernel
theorem dX7_judgeGiveAll_24 : decode cX7_judgeGiveAll 24 = .ok (.iconst 4, 1) := by decide +kernel
theorem dX7_judgeGiveAll_25 : decode cX7_judgeGiveAll 25 = .ok (.aload_n 0, 1) := by decide +kernel
theorem dX7_judgeGiveAll_26 : decode cX7_judgeGiveAll 26 = .ok (.getfield 12, 3) := by decide +kernel
theorem dX7_judgeGiveAll_29 : decode cX7_judgeGiveAll 29 = .ok (.getfield 103, 3) := by decide +kernel
theorem dX7_judgeGiveAll_32 : decode cX7_judgeGiveAll 32 = .ok (.iload_n 1, 1) := by decide +kernel
theorem dX7_judgeGiveAll_33 : decode cX7_judgeGiveAll 33 = .ok (.invokevirtual 166, 3) := by decide +kernel
theorem dX7_judgeGiveAll_36 : decode cX7_judgeGiveAll 36 = .ok (.invokevirtual 364, 3) := by decide +kernel
theorem dX7_judgeGiveAll_39 : decode cX7_judgeGiveAll 39 = .ok (.goto 4, 3) := by decide +kernel
theorem dX7_judgeGiveAll_42 : decode cX7_judgeGiveAll 42 = .ok (.iconst 0, 1) := by decide +kernel
theorem dX7_judgeGiveAll_43 : decode cX7_judgeGiveAll 43 = .ok (.ireturn, 1) := by decide +kernel
theorem dX7_judgeResize_0 : decode cX7_judgeResize 0 = .ok (.aload_n 0, 1) := by decide +kernel
theorem dX7_judgeResize_1 : decode cX7_judgeResize 1 = .ok (.getfield 12, 3) := by decide +kernel
theorem dX7_judgeResize_4 : decode cX7_judgeResize 4 = .ok (.getfield 126, 3) := by decide +kernel
theorem dX7_judgeResize_7 : decode cX7_judgeResize 7 = .ok (.iload_n 1, 1) := by decide +kernel
theorem dX7_judgeResize_8 : decode cX7_judgeResize 8 = .ok (.invokevirtual 130, 3) := by decide +kernel
theorem dX7_judgeResize_11 : decode cX7_judgeResize 11 = .ok (.ifCond .ne 5, 3) := by decide +kernel
theorem dX7_judgeResize_14 : decode cX7_judgeResize 14 = .ok (.iconst 1, 1) := by decide +kernel
theorem dX7_judgeResize_15 : decode cX7_judgeResize 15 = .ok (.ireturn, 1) := by decide +kernel
theorem dX7_judgeResize_16 : decode cX7_judgeResize 16 = .ok (.iload_n 2, 1) := by decide +kernel
theorem dX7_judgeResize_17 : decode cX7_judgeResize 17 = .ok (.invokestatic 361, 3) := by decide +kernel
theorem dX7_judgeResize_20 : decode cX7_judgeResize 20 = .ok (.ifCond .ne 5, 3) := by decide +kernel
theorem dX7_judgeResize_23 : decode cX7_judgeResize 23 = .ok (.iconst 2, 1) := by decide +kernel
theorem dX7_judgeResize_24 : decode cX7_judgeResize 24 = .ok (.ireturn, 1) := by decide +kernel
theorem dX7_judgeResize_25 : decode cX7_judgeResize 25 = .ok (.aload_n 0, 1) := by decide +kernel
theorem dX7_judgeResize_26 : decode cX7_judgeResize 26 = .ok (.getfield 12, 3) := by decide +kernel
theorem dX7_judgeResize_29 : decode cX7_judgeResize 29 = .ok (.getfield 126, 3) := by decide +kernel
theorem dX7_judgeResize_32 : decode cX7_judgeResize 32 = .ok (.iload_n 1, 1) := by decide +kernel
theorem dX7_judgeResize_33 : decode cX7_judgeResize 33 = .ok (.invokevirtual 138, 3) := by decide +kernel
theorem dX7_judgeResize_36 : decode cX7_judgeResize 36 = .ok (.iload_n 2, 1) := by decide +kernel
theorem dX7_judgeResize_37 : decode cX7_judgeResize 37 = .ok (.if_icmp .ne 10, 3) := by decide +kernel
theorem dX7_judgeResize_40 : decode cX7_judgeResize 40 = .ok (.aload_n 0, 1) := by decide +kernel
theorem dX7_judgeResize_41 : decode cX7_judgeResize 41 = .ok (.iconst 5, 1) := by decide +kernel
theorem dX7_judgeResize_42 : decode cX7_judgeResize 42 = .ok (.iload_n 2, 1) := by decide +kernel
theorem dX7_judgeResize_43 : decode cX7_judgeResize 43 = .ok (.invokevirtual 364, 3) := by decide +kernel
theorem dX7_judgeResize_46 : decode cX7_judgeResize 46 = .ok (.ireturn, 1) := by decide +kernel
theorem dX7_judgeResize_47 : decode cX7_judgeResize 47 = .ok (.aload_n 0, 1) := by decide +kernel
theorem dX7_judgeResize_48 : decode cX7_judgeResize 48 = .ok (.getfield 12, 3) := by decide +kernel
theorem dX7_judgeResize_51 : decode cX7_judgeResize 51 = .ok (.iload_n 1, 1) := by decide +kernel
theorem dX7_judgeResize_52 : decode cX7_judgeResize 52 = .ok (.invokevirtual 373, 3) := by decide +kernel
theorem dX7_judgeResize_55 : decode cX7_judgeResize 55 = .ok (.istore_n 3, 1) := by decide +kernel
theorem dX7_judgeResize_56 : decode cX7_judgeResize 56 = .ok (.iload_n 3, 1) := by decide +kernel
theorem dX7_judgeResize_57 : decode cX7_judgeResize 57 = .ok (.iload_n 2, 1) := by decide +kernel
theorem dX7_judgeResize_58 : decode cX7_judgeResize 58 = .ok (.invokestatic 367, 3) := by decide +kernel
theorem dX7_judgeResize_61 : decode cX7_judgeResize 61 = .ok (.if_icmp .ge 12, 3) := by decide +kernel
theorem dX7_judgeResize_64 : decode cX7_judgeResize 64 = .ok (.aload_n 0, 1) := by decide +kernel
theorem dX7_judgeResize_65 : decode cX7_judgeResize 65 = .ok (.iconst 2, 1) := by decide +kernel
theorem dX7_judgeResize_66 : decode cX7_judgeResize 66 = .ok (.iload_n 3, 1) := by decide +kernel
theorem dX7_judgeResize_67 : decode cX7_judgeResize 67 = .ok (.invokevirtual 364, 3) := by decide +kernel
theorem dX7_judgeResize_70 : decode cX7_judgeResize 70 = .ok (.goto 4, 3) := by decide +kernel
theorem dX7_judgeResize_73 : decode cX7_judgeResize 73 = .ok (.iconst 0, 1) := by decide +kernel
theorem dX7_judgeResize_74 : decode cX7_judgeResize 74 = .ok (.ireturn, 1) := by decide +kernel
theorem dX7_judgeWay_0 : decode cX7_judgeWay 0 = .ok (.iload_n 1, 1) := by decide +kernel
theorem dX7_judgeWay_1 : decode cX7_judgeWay 1 = .ok (.ifCond .lt 8, 3) := by decide +kernel
theorem dX7_judgeWay_4 : decode cX7_judgeWay 4 = .ok (.iload_n 1, 1) := by decide +kernel
theorem dX7_judgeWay_5 : decode cX7_judgeWay 5 = .ok (.iconst 2, 1) := by decide +kernel
theorem dX7_judgeWay_6 : decode cX7_judgeWay 6 = .ok (.if_icmp .le 5, 3) := by decide +kernel
theorem dX7_judgeWay_9 : decode cX7_judgeWay 9 = .ok (.iconst 2, 1) := by decide +kernel
theorem dX7_judgeWay_10 : decode cX7_judgeWay 10 = .ok (.ireturn, 1) := by decide +kernel
theorem dX7_judgeWay_11 : decode cX7_judgeWay 11 = .ok (.aload_n 0, 1) := by decide +kernel
theorem dX7_judgeWay_12 : decode cX7_judgeWay 12 = .ok (.getfield 12, 3) := by decide +kernel
theorem dX7_judgeWay_15 : decode cX7_judgeWay 15 = .ok (.getfield 203, 3) := by decide +kernel
theorem dX7_judgeWay_18 : decode cX7_judgeWay 18 = .ok (.getfield 327, 3) := by decide +kernel
theorem dX7_judgeWay_21 : decode cX7_judgeWay 21 = .ok (.iload_n 1, 1) := by decide +kernel
theorem dX7_judgeWay_22 : decode cX7_judgeWay 22 = .ok (.if_icmp .ne 12, 3) := by decide +kernel
theorem dX7_judgeWay_25 : decode cX7_judgeWay 25 = .ok (.aload_n 0, 1) := by decide +kernel
theorem dX7_judgeWay_26 : decode cX7_judgeWay 26 = .ok (.iconst 5, 1) := by decide +kernel
theorem dX7_judgeWay_27 : decode cX7_judgeWay 27 = .ok (.iload_n 1, 1) := by decide +kernel
theorem dX7_judgeWay_28 : decode cX7_judgeWay 28 = .ok (.invokevirtual 364, 3) := by decide +kernel
theorem dX7_judgeWay_31 : decode cX7_judgeWay 31 = .ok (.goto 4, 3) := by decide +kernel
theorem dX7_judgeWay_34 : decode cX7_judgeWay 34 = .ok (.iconst 0, 1) := by decide +kernel
theorem dX7_judgeWay_35 : decode cX7_judgeWay 35 = .ok (.ireturn, 1) := by decide +kernel
theorem dX7_refuse_0 : decode cX7_refuse 0 = .ok (.aload_n 0, 1) := by decide +kernel
theorem dX7_refuse_1 : decode cX7_refuse 1 = .ok (.iload_n 1, 1) := by decide +kernel
theorem dX7_refuse_2 : decode cX7_refuse 2 = .ok (.putfield 51, 3) := by decide +kernel
theorem dX7_refuse_5 : decode cX7_refuse 5 = .ok (.aload_n 0, 1) := by decide +kernel
theorem dX7_refuse_6 : decode cX7_refuse 6 = .ok (.iload_n 2, 1) := by decide +kernel
theorem dX7_refuse_7 : decode cX7_refuse 7 = .ok (.putfield 54, 3) := by decide +kernel
theorem dX7_refuse_10 : decode cX7_refuse 10 = .ok (.iconst 3, 1) := by decide +kernel
theorem dX7_refuse_11 : decode cX7_refuse 11 = .ok (.ireturn, 1) := by decide +kernel
theorem dX7_insist_0 : decode cX7_insist 0 = .ok (.iload_n 0, 1) := by decide +kernel
theorem dX7_insist_1 : decode cX7_insist 1 = .ok (.iconst 1, 1) := by decide +kernel
theorem dX7_insist_2 : decode cX7_insist 2 = .ok (.if_icmp .ne 13, 3) := by decide +kernel
theorem dX7_insist_5 : decode cX7_insist 5 = .ok (.new 113, 3) := by decide +kernel
theorem dX7_insist_8 : decode cX7_insist 8 = .ok (.dup, 1) := by decide +kernel
theorem dX7_insist_9 : decode cX7_insist 9 = .ok (.ldc 133, 2) := by decide +kernel
theorem dX7_insist_11 : decode cX7_insist 11 = .ok (.invokespecial 117, 3) := by decide +kernel
theorem dX7_insist_14 : decode cX7_insist 14 = .ok (.athrow, 1) := by decide +kernel
theorem dX7_insist_15 : decode cX7_insist 15 = .ok (.iload_n 0, 1) := by decide +kernel
theorem dX7_insist_16 : decode cX7_insist 16 = .ok (.iconst 2, 1) := by decide +kernel
theorem dX7_insist_17 : decode cX7_insist 17 = .ok (.if_icmp .ne 14, 3) := by decide +kernel
theorem dX7_insist_20 : decode cX7_insist 20 = .ok (.new 147, 3) := by decide +kernel
theorem dX7_insist_23 : decode cX7_insist 23 = .ok (.dup, 1) := by decide +kernel
theorem dX7_insist_24 : decode cX7_insist 24 = .ok (.ldc_w 376, 3) := by decide +kernel
theorem dX7_insist_27 : decode cX7_insist 27 = .ok (.invokespecial 151, 3) := by decide +kernel
theorem dX7_insist_30 : decode cX7_insist 30 = .ok (.athrow, 1) := by decide +kernel
theorem dX7_insist_31 : decode cX7_insist 31 = .ok (.iload_n 0, 1) := by decide +kernel
theorem dX7_insist_32 : decode cX7_insist 32 = .ok (.iconst 3, 1) := by decide +kernel
theorem dX7_insist_33 : decode cX7_insist 33 = .ok (.if_icmp .ne 14, 3) := by decide +kernel
theorem dX7_insist_36 : decode cX7_insist 36 = .ok (.new 302, 3) := by decide +kernel
theorem dX7_insist_39 : decode cX7_insist 39 = .ok (.dup, 1) := by decide +kernel
theorem dX7_insist_40 : decode cX7_insist 40 = .ok (.ldc_w 378, 3) := by decide +kernel
theorem dX7_insist_43 : decode cX7_insist 43 = .ok (.invokespecial 306, 3) := by decide +kernel
theorem dX7_insist_46 : decode cX7_insist 46 = .ok (.athrow, 1) := by decide +kernel
theorem dX7_insist_47 : decode cX7_insist 47 = .ok (.return_, 1) := by decide +kernel
theorem dX7_insistOnNeed_0 : decode cX7_insistOnNeed 0 = .ok (.iload_n 0, 1) := by decide +kernel
theorem dX7_insistOnNeed_1 : decode cX7_insistOnNeed 1 = .ok (.invokestatic 361, 3) := by decide +kernel
theorem dX7_insistOnNeed_4 : decode cX7_insistOnNeed 4 = .ok (.ifCond .ne 14, 3) := by decide +kernel
theorem dX7_insistOnNeed_7 : decode cX7_insistOnNeed 7 = .ok (.new 147, 3) := by decide +kernel
theorem dX7_insistOnNeed_10 : decode cX7_insistOnNeed 10 = .ok (.dup, 1) := by decide +kernel
theorem dX7_insistOnNeed_11 : decode cX7_insistOnNeed 11 = .ok (.ldc_w 380, 3) := by decide +kernel
theorem dX7_insistOnNeed_14 : decode cX7_insistOnNeed 14 = .ok (.invokespecial 151, 3) := by decide +kernel
theorem dX7_insistOnNeed_17 : decode cX7_insistOnNeed 17 = .ok (.athrow, 1) := by decide +kernel
theorem dX7_insistOnNeed_18 : decode cX7_insistOnNeed 18 = .ok (.iload_n 0, 1) := by decide +kernel
theorem dX7_insistOnNeed_19 : decode cX7_insistOnNeed 19 = .ok (.invokestatic 367, 3) := by decide +kernel
theorem dX7_insistOnNeed_22 : decode cX7_insistOnNeed 22 = .ok (.ireturn, 1) := by decide +kernel
theorem dX7_insistOnPiece_0 : decode cX7_insistOnPiece 0 = .ok (.aload_n 0, 1) := by decide +kernel
theorem dX7_insistOnPiece_1 : decode cX7_insistOnPiece 1 = .ok (.getfield 12, 3) := by decide +kernel
theorem dX7_insistOnPiece_4 : decode cX7_insistOnPiece 4 = .ok (.getfield 203, 3) := by decide +kernel
theorem dX7_insistOnPiece_7 : decode cX7_insistOnPiece 7 = .ok (.iload_n 1, 1) := by decide +kernel
theorem dX7_insistOnPiece_8 : decode cX7_insistOnPiece 8 = .ok (.invokevirtual 382, 3) := by decide +kernel
theorem dX7_insistOnPiece_11 : decode cX7_insistOnPiece 11 = .ok (.istore_n 2, 1) := by decide +kernel
theorem dX7_insistOnPiece_12 : decode cX7_insistOnPiece 12 = .ok (.iload_n 2, 1) := by decide +kernel
theorem dX7_insistOnPiece_13 : decode cX7_insistOnPiece 13 = .ok (.ifCond .ge 14, 3) := by decide +kernel
theorem dX7_insistOnPiece_16 : decode cX7_insistOnPiece 16 = .ok (.new 169, 3) := by decide +kernel
theorem dX7_insistOnPiece_19 : decode cX7_insistOnPiece 19 = .ok (.dup, 1) := by decide +kernel
theorem dX7_insistOnPiece_20 : decode cX7_insistOnPiece 20 = .ok (.ldc_w 385, 3) := by decide +kernel
theorem dX7_insistOnPiece_23 : decode cX7_insistOnPiece 23 = .ok (.invokespecial 171, 3) := by decide +kernel
theorem dX7_insistOnPiece_26 : decode cX7_insistOnPiece 26 = .ok (.athrow, 1) := by decide +kernel
theorem dX7_insistOnPiece_27 : decode cX7_insistOnPiece 27 = .ok (.iload_n 2, 1) := by decide +kernel
theorem dX7_insistOnPiece_28 : decode cX7_insistOnPiece 28 = .ok (.ireturn, 1) := by decide +kernel
theorem dX7_judgeOrder_0 : decode cX7_judgeOrder 0 = .ok (.iload_n 1, 1) := by decide +kernel
theorem dX7_judgeOrder_1 : decode cX7_judgeOrder 1 = .ok (.tableswitch 122 103 119 #[97, 122, 122, 122, 122, 83, 122, 103, 122, 122, 90, 109, 122, 122, 122, 122, 116], 83) := by decide +kernel
theorem dX7_judgeOrder_84 : decode cX7_judgeOrder 84 = .ok (.aload_n 0, 1) := by decide +kernel
theorem dX7_judgeOrder_85 : decode cX7_judgeOrder 85 = .ok (.iload_n 2, 1) := by decide +kernel
theorem dX7_judgeOrder_86 : decode cX7_judgeOrder 86 = .ok (.iload_n 3, 1) := by decide +kernel
theorem dX7_judgeOrder_87 : decode cX7_judgeOrder 87 = .ok (.invokevirtual 57, 3) := by decide +kernel
theorem dX7_judgeOrder_90 : decode cX7_judgeOrder 90 = .ok (.ireturn, 1) := by decide +kernel
theorem dX7_judgeOrder_91 : decode cX7_judgeOrder 91 = .ok (.aload_n 0, 1) := by decide +kernel
theorem dX7_judgeOrder_92 : decode cX7_judgeOrder 92 = .ok (.iload_n 2, 1) := by decide +kernel
theorem dX7_judgeOrder_93 : decode cX7_judgeOrder 93 = .ok (.iload_n 3, 1) := by decide +kernel
theorem dX7_judgeOrder_94 : decode cX7_judgeOrder 94 = .ok (.invokevirtual 72, 3) := by decide +kernel
theorem dX7_judgeOrder_97 : decode cX7_judgeOrder 97 = .ok (.ireturn, 1) := by decide +kernel
theorem dX7_judgeOrder_98 : decode cX7_judgeOrder 98 = .ok (.aload_n 0, 1) := by decide +kernel
theorem dX7_judgeOrder_99 : decode cX7_judgeOrder 99 = .ok (.iload_n 2, 1) := by decide +kernel
theorem dX7_judgeOrder_100 : decode cX7_judgeOrder 100 = .ok (.invokevirtual 78, 3) := by decide +kernel
theorem dX7_judgeOrder_103 : decode cX7_judgeOrder 103 = .ok (.ireturn, 1) := by decide +kernel
theorem dX7_judgeOrder_104 : decode cX7_judgeOrder 104 = .ok (.aload_n 0, 1) := by decide +kernel
theorem dX7_judgeOrder_105 : decode cX7_judgeOrder 105 = .ok (.iload_n 2, 1) := by decide +kernel
theorem dX7_judgeOrder_106 : decode cX7_judgeOrder 106 = .ok (.invokevirtual 85, 3) := by decide +kernel
theorem dX7_judgeOrder_109 : decode cX7_judgeOrder 109 = .ok (.ireturn, 1) := by decide +kernel
theorem dX7_judgeOrder_110 : decode cX7_judgeOrder 110 = .ok (.aload_n 0, 1) := by decide +kernel
theorem dX7_judgeOrder_111 : decode cX7_judgeOrder 111 = .ok (.iload_n 2, 1) := by decide +kernel
theorem dX7_judgeOrder_112 : decode cX7_judgeOrder 112 = .ok (.iload_n 3, 1) := by decide +kernel
theorem dX7_judgeOrder_113 : decode cX7_judgeOrder 113 = .ok (.invokevirtual 91, 3) := by decide +kernel
theorem dX7_judgeOrder_116 : decode cX7_judgeOrder 116 = .ok (.ireturn, 1) := by decide +kernel
theorem dX7_judgeOrder_117 : decode cX7_judgeOrder 117 = .ok (.aload_n 0, 1) := by decide +kernel
theorem dX7_judgeOrder_118 : decode cX7_judgeOrder 118 = .ok (.iload_n 2, 1) := by decide +kernel
theorem dX7_judgeOrder_119 : decode cX7_judgeOrder 119 = .ok (.invokevirtual 97, 3) := by decide +kernel
theorem dX7_judgeOrder_122 : decode cX7_judgeOrder 122 = .ok (.ireturn, 1) := by decide +kernel
theorem dX7_judgeOrder_123 : decode cX7_judgeOrder 123 = .ok (.iconst 2, 1) := by decide +kernel
theorem dX7_judgeOrder_124 : decode cX7_judgeOrder 124 = .ok (.ireturn, 1) := by decide +kernel
theorem dX7_carryOut_0 : decode cX7_carryOut 0 = .ok (.iload_n 1, 1) := by decide +kernel
theorem dX7_carryOut_1 : decode cX7_carryOut 1 = .ok (.tableswitch 158 103 119 #[109, 158, 158, 158, 158, 83, 158, 121, 158, 158, 96, 133, 158, 158, 158, 158, 146], 83) := by decide +kernel
theorem dX7_carryOut_84 : decode cX7_carryOut 84 = .ok (.aload_n 0, 1) := by decide +kernel
theorem dX7_carryOut_85 : decode cX7_carryOut 85 = .ok (.getfield 12, 3) := by decide +kernel
theorem dX7_carryOut_88 : decode cX7_carryOut 88 = .ok (.iload_n 2, 1) := by decide +kernel
theorem dX7_carryOut_89 : decode cX7_carryOut 89 = .ok (.iload_n 3, 1) := by decide +kernel
theorem dX7_carryOut_90 : decode cX7_carryOut 90 = .ok (.invokevirtual 69, 3) := by decide +kernel
theorem dX7_carryOut_93 : decode cX7_carryOut 93 = .ok (.pop, 1) := by decide +kernel
theorem dX7_carryOut_94 : decode cX7_carryOut 94 = .ok (.goto 65, 3) := by decide +kernel
theorem dX7_carryOut_97 : decode cX7_carryOut 97 = .ok (.aload_n 0, 1) := by decide +kernel
theorem dX7_carryOut_98 : decode cX7_carryOut 98 = .ok (.getfield 12, 3) := by decide +kernel
theorem dX7_carryOut_101 : decode cX7_carryOut 101 = .ok (.iload_n 2, 1) := by decide +kernel
theorem dX7_carryOut_102 : decode cX7_carryOut 102 = .ok (.iload_n 3, 1) := by decide +kernel
theorem dX7_carryOut_103 : decode cX7_carryOut 103 = .ok (.invokevirtual 75, 3) := by decide +kernel
theorem dX7_carryOut_106 : decode cX7_carryOut 106 = .ok (.pop, 1) := by decide +kernel
theorem dX7_carryOut_107 : decode cX7_carryOut 107 = .ok (.goto 52, 3) := by decide +kernel
theorem dX7_carryOut_110 : decode cX7_carryOut 110 = .ok (.aload_n 0, 1) := by decide +kernel
theorem dX7_carryOut_111 : decode cX7_carryOut 111 = .ok (.getfield 12, 3) := by decide +kernel
theorem dX7_carryOut_114 : decode cX7_carryOut 114 = .ok (.iload_n 2, 1) := by decide +kernel
theorem dX7_carryOut_115 : decode cX7_carryOut 115 = .ok (.invokevirtual 82, 3) := by decide +kernel
theorem dX7_carryOut_118 : decode cX7_carryOut 118 = .ok (.pop, 1) := by decide +kernel
theorem dX7_carryOut_119 : decode cX7_carryOut 119 = .ok (.goto 40, 3) := by decide +kernel
theorem dX7_carryOut_122 : decode cX7_carryOut 122 = .ok (.aload_n 0, 1) := by decide +kernel
theorem dX7_carryOut_123 : decode cX7_carryOut 123 = .ok (.getfield 12, 3) := by decide +kernel
theorem dX7_carryOut_126 : decode cX7_carryOut 126 = .ok (.iload_n 2, 1) := by decide +kernel
theorem dX7_carryOut_127 : decode cX7_carryOut 127 = .ok (.invokevirtual 88, 3) := by decide +kernel
theorem dX7_carryOut_130 : decode cX7_carryOut 130 = .ok (.pop, 1) := by decide +kernel
theorem dX7_carryOut_131 : decode cX7_carryOut 131 = .ok (.goto 28, 3) := by decide +kernel
theorem dX7_carryOut_134 : decode cX7_carryOut 134 = .ok (.aload_n 0, 1) := by decide +kernel
theorem dX7_carryOut_135 : decode cX7_carryOut 135 = .ok (.getfield 12, 3) := by decide +kernel
theorem dX7_carryOut_138 : decode cX7_carryOut 138 = .ok (.iload_n 2, 1) := by decide +kernel
theorem dX7_carryOut_139 : decode cX7_carryOut 139 = .ok (.iload_n 3, 1) := by decide +kernel
theorem dX7_carryOut_140 : decode cX7_carryOut 140 = .ok (.invokevirtual 94, 3) := by decide +kernel
theorem dX7_carryOut_143 : decode cX7_carryOut 143 = .ok (.pop, 1) := by decide +kernel
theorem dX7_carryOut_144 : decode cX7_carryOut 144 = .ok (.goto 15, 3) := by decide +kernel
theorem dX7_carryOut_147 : decode cX7_carryOut 147 = .ok (.aload_n 0, 1) := by decide +kernel
theorem dX7_carryOut_148 : decode cX7_carryOut 148 = .ok (.getfield 12, 3) := by decide +kernel
theorem dX7_carryOut_151 : decode cX7_carryOut 151 = .ok (.iload_n 2, 1) := by decide +kernel
theorem dX7_carryOut_152 : decode cX7_carryOut 152 = .ok (.invokevirtual 100, 3) := by decide +kernel
theorem dX7_carryOut_155 : decode cX7_carryOut 155 = .ok (.pop, 1) := by decide +kernel
theorem dX7_carryOut_156 : decode cX7_carryOut 156 = .ok (.goto 3, 3) := by decide +kernel
theorem dX7_carryOut_159 : decode cX7_carryOut 159 = .ok (.return_, 1) := by decide +kernel
theorem dX7_isName_0 : decode cX7_isName 0 = .ok (.iload_n 0, 1) := by decide +kernel
theorem dX7_isName_1 : decode cX7_isName 1 = .ok (.ifCond .lt 13, 3) := by decide +kernel
theorem dX7_isName_4 : decode cX7_isName 4 = .ok (.iload_n 0, 1) := by decide +kernel
theorem dX7_isName_5 : decode cX7_isName 5 = .ok (.bipush 99, 2) := by decide +kernel
theorem dX7_isName_7 : decode cX7_isName 7 = .ok (.if_icmp .gt 7, 3) := by decide +kernel
theorem dX7_isName_10 : decode cX7_isName 10 = .ok (.iconst 1, 1) := by decide +kernel
theorem dX7_isName_11 : decode cX7_isName 11 = .ok (.goto 4, 3) := by decide +kernel
theorem dX7_isName_14 : decode cX7_isName 14 = .ok (.iconst 0, 1) := by decide +kernel
theorem dX7_isName_15 : decode cX7_isName 15 = .ok (.ireturn, 1) := by decide +kernel
theorem dX7_isAmount_0 : decode cX7_isAmount 0 = .ok (.iload_n 0, 1) := by decide +kernel
theorem dX7_isAmount_1 : decode cX7_isAmount 1 = .ok (.iconst 1, 1) := by decide +kernel
theorem dX7_isAmount_2 : decode cX7_isAmount 2 = .ok (.if_icmp .lt 13, 3) := by decide +kernel
theorem dX7_isAmount_5 : decode cX7_isAmount 5 = .ok (.iload_n 0, 1) := by decide +kernel
theorem dX7_isAmount_6 : decode cX7_isAmount 6 = .ok (.bipush 64, 2) := by decide +kernel
theorem dX7_isAmount_8 : decode cX7_isAmount 8 = .ok (.if_icmp .gt 7, 3) := by decide +kernel
theorem dX7_isAmount_11 : decode cX7_isAmount 11 = .ok (.iconst 1, 1) := by decide +kernel
theorem dX7_isAmount_12 : decode cX7_isAmount 12 = .ok (.goto 4, 3) := by decide +kernel
theorem dX7_isAmount_15 : decode cX7_isAmount 15 = .ok (.iconst 0, 1) := by decide +kernel
theorem dX7_isAmount_16 : decode cX7_isAmount 16 = .ok (.ireturn, 1) := by decide +kernel
theorem dX7_isUnit_0 : decode cX7_isUnit 0 = .ok (.iload_n 0, 1) := by decide +kernel
theorem dX7_isUnit_1 : decode cX7_isUnit 1 = .ok (.ifCond .lt 13, 3) := by decide +kernel
theorem dX7_isUnit_4 : decode cX7_isUnit 4 = .ok (.iload_n 0, 1) := by decide +kernel
theorem dX7_isUnit_5 : decode cX7_isUnit 5 = .ok (.bipush 64, 2) := by decide +kernel
theorem dX7_isUnit_7 : decode cX7_isUnit 7 = .ok (.if_icmp .ge 7, 3) := by decide +kernel
theorem dX7_isUnit_10 : decode cX7_isUnit 10 = .ok (.iconst 1, 1) := by decide +kernel
theorem dX7_isUnit_11 : decode cX7_isUnit 11 = .ok (.goto 4, 3) := by decide +kernel
theorem dX7_isUnit_14 : decode cX7_isUnit 14 = .ok (.iconst 0, 1) := by decide +kernel
theorem dX7_isUnit_15 : decode cX7_isUnit 15 = .ok (.ireturn, 1) := by decide +kernel
theorem dX7_needOf_0 : decode cX7_needOf 0 = .ok (.iconst 1, 1) := by decide +kernel
theorem dX7_needOf_1 : decode cX7_needOf 1 = .ok (.istore_n 1, 1) := by decide +kernel
theorem dX7_needOf_2 : decode cX7_needOf 2 = .ok (.iload_n 1, 1) := by decide +kernel
theorem dX7_needOf_3 : decode cX7_needOf 3 = .ok (.iload_n 0, 1) := by decide +kernel
theorem dX7_needOf_4 : decode cX7_needOf 4 = .ok (.if_icmp .ge 16, 3) := by decide +kernel
theorem dX7_needOf_7 : decode cX7_needOf 7 = .ok (.iload_n 1, 1) := by decide +kernel
theorem dX7_needOf_8 : decode cX7_needOf 8 = .ok (.bipush 64, 2) := by decide +kernel
theorem dX7_needOf_10 : decode cX7_needOf 10 = .ok (.if_icmp .ge 10, 3) := by decide +kernel
theorem dX7_needOf_13 : decode cX7_needOf 13 = .ok (.iload_n 1, 1) := by decide +kernel
theorem dX7_needOf_14 : decode cX7_needOf 14 = .ok (.iconst 2, 1) := by decide +kernel
theorem dX7_needOf_15 : decode cX7_needOf 15 = .ok (.imul, 1) := by decide +kernel
theorem dX7_needOf_16 : decode cX7_needOf 16 = .ok (.istore_n 1, 1) := by decide +kernel
theorem dX7_needOf_17 : decode cX7_needOf 17 = .ok (.goto (-15), 3) := by decide +kernel
theorem dX7_needOf_20 : decode cX7_needOf 20 = .ok (.iload_n 1, 1) := by decide +kernel
theorem dX7_needOf_21 : decode cX7_needOf 21 = .ok (.ireturn, 1) := by decide +kernel
theorem dX7_partOf_0 : decode cX7_partOf 0 = .ok (.iload_n 0, 1) := by decide +kernel
theorem dX7_partOf_1 : decode cX7_partOf 1 = .ok (.iload_n 1, 1) := by decide +kernel
theorem dX7_partOf_2 : decode cX7_partOf 2 = .ok (.ineg, 1) := by decide +kernel
theorem dX7_partOf_3 : decode cX7_partOf 3 = .ok (.iand, 1) := by decide +kernel
theorem dX7_partOf_4 : decode cX7_partOf 4 = .ok (.ireturn, 1) := by decide +kernel
theorem dX7_twinOf_0 : decode cX7_twinOf 0 = .ok (.iload_n 0, 1) := by decide +kernel
theorem dX7_twinOf_1 : decode cX7_twinOf 1 = .ok (.iload_n 1, 1) := by decide +kernel
theorem dX7_twinOf_2 : decode cX7_twinOf 2 = .ok (.invokestatic 387, 3) := by decide +kernel
theorem dX7_twinOf_5 : decode cX7_twinOf 5 = .ok (.iload_n 1, 1) := by decide +kernel
theorem dX7_twinOf_6 : decode cX7_twinOf 6 = .ok (.ixor, 1) := by decide +kernel
theorem dX7_twinOf_7 : decode cX7_twinOf 7 = .ok (.ireturn, 1) := by decide +kernel
theorem dJ5_init_d00df_0 : decode cJ5_init_d00df 0 = .ok (.aload_n 0, 1) := by decide +kernel
theorem dJ5_init_d00df_1 : decode cJ5_init_d00df 1 = .ok (.invokespecial 3, 3) := by decide +kernel
theorem dJ5_init_d00df_4 : decode cJ5_init_d00df 4 = .ok (.getstatic 18, 3) := by decide +kernel
theorem dJ5_init_d00df_7 : decode cJ5_init_d00df 7 = .ok (.ifCond .eq 18, 3) := by decide +kernel
theorem dJ5_init_d00df_10 : decode cJ5_init_d00df 10 = .ok (.aload_n 0, 1) := by decide +kernel
theorem dJ5_init_d00df_11 : decode cJ5_init_d00df 11 = .ok (.iload_n 1, 1) := by decide +kernel
theorem dJ5_init_d00df_12 : decode cJ5_init_d00df 12 = .ok (.newarray .byte, 2) := by decide +kernel
theorem dJ5_init_d00df_14 : decode cJ5_init_d00df 14 = .ok (.putfield 15, 3) := by decide +kernel
theorem dJ5_init_d00df_17 : decode cJ5_init_d00df 17 = .ok (.aload_n 0, 1) := by decide +kernel
theorem dJ5_init_d00df_18 : decode cJ5_init_d00df 18 = .ok (.iconst 0, 1) := by decide +kernel
theorem dJ5_init_d00df_19 : decode cJ5_init_d00df 19 = .ok (.putfield 22, 3) := by decide +kernel
theorem dJ5_init_d00df_22 : decode cJ5_init_d00df 22 = .ok (.goto 16, 3) := by decide +kernel
theorem dJ5_init_d00df_25 : decode cJ5_init_d00df 25 = .ok (.aload_n 0, 1) := by decide +kernel
theorem dJ5_init_d00df_26 : decode cJ5_init_d00df 26 = .ok (.iload_n 1, 1) := by decide +kernel
theorem dJ5_init_d00df_27 : decode cJ5_init_d00df 27 = .ok (.invokestatic 26, 3) := by decide +kernel
theorem dJ5_init_d00df_30 : decode cJ5_init_d00df 30 = .ok (.putfield 15, 3) := by decide +kernel
theorem dJ5_init_d00df_33 : decode cJ5_init_d00df 33 = .ok (.aload_n 0, 1) := by decide +kernel
theorem dJ5_init_d00df_34 : decode cJ5_init_d00df 34 = .ok (.iconst 1, 1) := by decide +kernel
theorem dJ5_init_d00df_35 : decode cJ5_init_d00df 35 = .ok (.putfield 22, 3) := by decide +kernel
theorem dJ5_init_d00df_38 : decode cJ5_init_d00df 38 = .ok (.return_, 1) := by decide +kernel
theorem dJ5_length_8abf5_0 : decode cJ5_length_8abf5 0 = .ok (.aload_n 0, 1) := by decide +kernel
theorem dJ5_length_8abf5_1 : decode cJ5_length_8abf5 1 = .ok (.getfield 79, 3) := by decide +kernel
theorem dJ5_length_8abf5_4 : decode cJ5_length_8abf5 4 = .ok (.ireturn, 1) := by decide +kernel
theorem dJ5_ensureCapacityInternal_d00df_0 : decode cJ5_ensureCapacityInternal_d00df 0 = .ok (.aload_n 0, 1) := by decide +kernel
theorem dJ5_ensureCapacityInternal_d00df_1 : decode cJ5_ensureCapacityInternal_d00df 1 = .ok (.getfield 15, 3) := by decide +kernel
theorem dJ5_ensureCapacityInternal_d00df_4 : decode cJ5_ensureCapacityInternal_d00df 4 = .ok (.arraylength, 1) := by decide +kernel
theorem dJ5_ensureCapacityInternal_d00df_5 : decode cJ5_ensureCapacityInternal_d00df 5 = .ok (.aload_n 0, 1) := by decide +kernel
theorem dJ5_ensureCapacityInternal_d00df_6 : decode cJ5_ensureCapacityInternal_d00df 6 = .ok (.getfield 22, 3) := by decide +kernel
theorem dJ5_ensureCapacityInternal_d00df_9 : decode cJ5_ensureCapacityInternal_d00df 9 = .ok (.ishr, 1) := by decide +kernel
theorem dJ5_ensureCapacityInternal_d00df_10 : decode cJ5_ensureCapacityInternal_d00df 10 = .ok (.istore_n 2, 1) := by decide +kernel
theorem dJ5_ensureCapacityInternal_d00df_11 : decode cJ5_ensureCapacityInternal_d00df 11 = .ok (.iload_n 1, 1) := by decide +kernel
theorem dJ5_ensureCapacityInternal_d00df_12 : decode cJ5_ensureCapacityInternal_d00df 12 = .ok (.iload_n 2, 1) := by decide +kernel
theorem dJ5_ensureCapacityInternal_d00df_13 : decode cJ5_ensureCapacityInternal_d00df 13 = .ok (.isub, 1) := by decide +kernel
theorem dJ5_ensureCapacityInternal_d00df_14 : decode cJ5_ensureCapacityInternal_d00df 14 = .ok (.ifCond .le 24, 3) := by decide +kernel
theorem dJ5_ensureCapacityInternal_d00df_17 : decode cJ5_ensureCapacityInternal_d00df 17 = .ok (.aload_n 0, 1) := by decide +kernel
theorem dJ5_ensureCapacityInternal_d00df_18 : decode cJ5_ensureCapacityInternal_d00df 18 = .ok (.aload_n 0, 1) := by decide +kernel
theorem dJ5_ensureCapacityInternal_d00df_19 : decode cJ5_ensureCapacityInternal_d00df 19 = .ok (.getfield 15, 3) := by decide +kernel
theorem dJ5_ensureCapacityInternal_d00df_22 : decode cJ5_ensureCapacityInternal_d00df 22 = .ok (.aload_n 0, 1) := by decide +kernel
theorem dJ5_ensureCapacityInternal_d00df_23 : decode cJ5_ensureCapacityInternal_d00df 23 = .ok (.iload_n 1, 1) := by decide +kernel
theorem dJ5_ensureCapacityInternal_d00df_24 : decode cJ5_ensureCapacityInternal_d00df 24 = .ok (.invokevirtual 104, 3) := by decide +kernel
theorem dJ5_ensureCapacityInternal_d00df_27 : decode cJ5_ensureCapacityInternal_d00df 27 = .ok (.aload_n 0, 1) := by decide +kernel
theorem dJ5_ensureCapacityInternal_d00df_28 : decode cJ5_ensureCapacityInternal_d00df 28 = .ok (.getfield 22, 3) := by decide +kernel
theorem dJ5_ensureCapacityInternal_d00df_31 : decode cJ5_ensureCapacityInternal_d00df 31 = .ok (.ishl, 1) := by decide +kernel
theorem dJ5_ensureCapacityInternal_d00df_32 : decode cJ5_ensureCapacityInternal_d00df 32 = .ok (.invokestatic 108, 3) := by decide +kernel
theorem dJ5_ensureCapacityInternal_d00df_35 : decode cJ5_ensureCapacityInternal_d00df 35 = .ok (.putfield 15, 3) := by decide +kernel
theorem dJ5_ensureCapacityInternal_d00df_38 : decode cJ5_ensureCapacityInternal_d00df 38 = .ok (.return_, 1) := by decide +kernel
theorem dJ5_newCapacity_0f7a4_0 : decode cJ5_newCapacity_0f7a4 0 = .ok (.aload_n 0, 1) := by decide +kernel
theorem dJ5_newCapacity_0f7a4_1 : decode cJ5_newCapacity_0f7a4 1 = .ok (.getfield 15, 3) := by decide +kernel
theorem dJ5_newCapacity_0f7a4_4 : decode cJ5_newCapacity_0f7a4 4 = .ok (.arraylength, 1) := by decide +kernel
theorem dJ5_newCapacity_0f7a4_5 : decode cJ5_newCapacity_0f7a4 5 = .ok (.istore_n 2, 1) := by decide +kernel
theorem dJ5_newCapacity_0f7a4_6 : decode cJ5_newCapacity_0f7a4 6 = .ok (.iload_n 1, 1) := by decide +kernel
theorem dJ5_newCapacity_0f7a4_7 : decode cJ5_newCapacity_0f7a4 7 = .ok (.aload_n 0, 1) := by decide +kernel
theorem dJ5_newCapacity_0f7a4_8 : decode cJ5_newCapacity_0f7a4 8 = .ok (.getfield 22, 3) := by decide +kernel
theorem dJ5_newCapacity_0f7a4_11 : decode cJ5_newCapacity_0f7a4 11 = .ok (.ishl, 1) := by decide +kernel
theorem dJ5_newCapacity_0f7a4_12 : decode cJ5_newCapacity_0f7a4 12 = .ok (.istore_n 3, 1) := by decide +kernel
theorem dJ5_newCapacity_0f7a4_13 : decode cJ5_newCapacity_0f7a4 13 = .ok (.iload_n 3, 1) := by decide +kernel
theorem dJ5_newCapacity_0f7a4_14 : decode cJ5_newCapacity_0f7a4 14 = .ok (.iload_n 2, 1) := by decide +kernel
theorem dJ5_newCapacity_0f7a4_15 : decode cJ5_newCapacity_0f7a4 15 = .ok (.isub, 1) := by decide +kernel
theorem dJ5_newCapacity_0f7a4_16 : decode cJ5_newCapacity_0f7a4 16 = .ok (.istore 4, 2) := by decide +kernel
theorem dJ5_newCapacity_0f7a4_18 : decode cJ5_newCapacity_0f7a4 18 = .ok (.iload_n 2, 1) := by decide +kernel
theorem dJ5_newCapacity_0f7a4_19 : decode cJ5_newCapacity_0f7a4 19 = .ok (.iload 4, 2) := by decide +kernel
theorem dJ5_newCapacity_0f7a4_21 : decode cJ5_newCapacity_0f7a4 21 = .ok (.iload_n 2, 1) := by decide +kernel
theorem dJ5_newCapacity_0f7a4_22 : decode cJ5_newCapacity_0f7a4 22 = .ok (.iconst 2, 1) := by decide +kernel
theorem dJ5_newCapacity_0f7a4_23 : decode cJ5_newCapacity_0f7a4 23 = .ok (.aload_n 0, 1) := by decide +kernel
theorem dJ5_newCapacity_0f7a4_24 : decode cJ5_newCapacity_0f7a4 24 = .ok (.getfield 22, 3) := by decide +kernel
theorem dJ5_newCapacity_0f7a4_27 : decode cJ5_newCapacity_0f7a4 27 = .ok (.ishl, 1) := by decide +kernel
theorem dJ5_newCapacity_0f7a4_28 : decode cJ5_newCapacity_0f7a4 28 = .ok (.iadd, 1) := by decide +kernel
theorem dJ5_newCapacity_0f7a4_29 : decode cJ5_newCapacity_0f7a4 29 = .ok (.invokestatic 114, 3) := by decide +kernel
theorem dJ5_newCapacity_0f7a4_32 : decode cJ5_newCapacity_0f7a4 32 = .ok (.istore 5, 2) := by decide +kernel
theorem dJ5_newCapacity_0f7a4_34 : decode cJ5_newCapacity_0f7a4 34 = .ok (.iload 5, 2) := by decide +kernel
theorem dJ5_newCapacity_0f7a4_36 : decode cJ5_newCapacity_0f7a4 36 = .ok (.ldc 39, 2) := by decide +kernel
theorem dJ5_newCapacity_0f7a4_38 : decode cJ5_newCapacity_0f7a4 38 = .ok (.if_icmp .ne 13, 3) := by decide +kernel
theorem dJ5_newCapacity_0f7a4_41 : decode cJ5_newCapacity_0f7a4 41 = .ok (.new 120, 3) := by decide +kernel
theorem dJ5_newCapacity_0f7a4_44 : decode cJ5_newCapacity_0f7a4 44 = .ok (.dup, 1) := by decide +kernel
theorem dJ5_newCapacity_0f7a4_45 : decode cJ5_newCapacity_0f7a4 45 = .ok (.ldc 122, 2) := by decide +kernel
theorem dJ5_newCapacity_0f7a4_47 : decode cJ5_newCapacity_0f7a4 47 = .ok (.invokespecial 124, 3) := by decide +kernel
theorem dJ5_newCapacity_0f7a4_50 : decode cJ5_newCapacity_0f7a4 50 = .ok (.athrow, 1) := by decide +kernel
theorem dJ5_newCapacity_0f7a4_51 : decode cJ5_newCapacity_0f7a4 51 = .ok (.iload 5, 2) := by decide +kernel
theorem dJ5_newCapacity_0f7a4_53 : decode cJ5_newCapacity_0f7a4 53 = .ok (.aload_n 0, 1) := by decide +kernel
theorem dJ5_newCapacity_0f7a4_54 : decode cJ5_newCapacity_0f7a4 54 = .ok (.getfield 22, 3) := by decide +kernel
theorem dJ5_newCapacity_0f7a4_57 : decode cJ5_newCapacity_0f7a4 57 = .ok (.ishr, 1) := by decide +kernel
theorem dJ5_newCapacity_0f7a4_58 : decode cJ5_newCapacity_0f7a4 58 = .ok (.ireturn, 1) := by decide +kernel
theorem dJ5_inflate_da8c8_0 : decode cJ5_inflate_da8c8 0 = .ok (.aload_n 0, 1) := by decide +kernel
theorem dJ5_inflate_da8c8_1 : decode cJ5_inflate_da8c8 1 = .ok (.invokevirtual 83, 3) := by decide +kernel
theorem dJ5_inflate_da8c8_4 : decode cJ5_inflate_da8c8 4 = .ok (.ifCond .ne 4, 3) := by decide +kernel
theorem dJ5_inflate_da8c8_7 : decode cJ5_inflate_da8c8 7 = .ok (.return_, 1) := by decide +kernel
theorem dJ5_inflate_da8c8_8 : decode cJ5_inflate_da8c8 8 = .ok (.aload_n 0, 1) := by decide +kernel
theorem dJ5_inflate_da8c8_9 : decode cJ5_inflate_da8c8 9 = .ok (.getfield 15, 3) := by decide +kernel
theorem dJ5_inflate_da8c8_12 : decode cJ5_inflate_da8c8 12 = .ok (.arraylength, 1) := by decide +kernel
theorem dJ5_inflate_da8c8_13 : decode cJ5_inflate_da8c8 13 = .ok (.invokestatic 26, 3) := by decide +kernel
theorem dJ5_inflate_da8c8_16 : decode cJ5_inflate_da8c8 16 = .ok (.astore_n 1, 1) := by decide +kernel
theorem dJ5_inflate_da8c8_17 : decode cJ5_inflate_da8c8 17 = .ok (.aload_n 0, 1) := by decide +kernel
theorem dJ5_inflate_da8c8_18 : decode cJ5_inflate_da8c8 18 = .ok (.getfield 15, 3) := by decide +kernel
theorem dJ5_inflate_da8c8_21 : decode cJ5_inflate_da8c8 21 = .ok (.iconst 0, 1) := by decide +kernel
theorem dJ5_inflate_da8c8_22 : decode cJ5_inflate_da8c8 22 = .ok (.aload_n 1, 1) := by decide +kernel
theorem dJ5_inflate_da8c8_23 : decode cJ5_inflate_da8c8 23 = .ok (.iconst 0, 1) := by decide +kernel
theorem dJ5_inflate_da8c8_24 : decode cJ5_inflate_da8c8 24 = .ok (.aload_n 0, 1) := by decide +kernel
theorem dJ5_inflate_da8c8_25 : decode cJ5_inflate_da8c8 25 = .ok (.getfield 79, 3) := by decide +kernel
theorem dJ5_inflate_da8c8_28 : decode cJ5_inflate_da8c8 28 = .ok (.invokestatic 125, 3) := by decide +kernel
theorem dJ5_inflate_da8c8_31 : decode cJ5_inflate_da8c8 31 = .ok (.aload_n 0, 1) := by decide +kernel
theorem dJ5_inflate_da8c8_32 : decode cJ5_inflate_da8c8 32 = .ok (.aload_n 1, 1) := by decide +kernel
theorem dJ5_inflate_da8c8_33 : decode cJ5_inflate_da8c8 33 = .ok (.putfield 15, 3) := by decide +kernel
theorem dJ5_inflate_da8c8_36 : decode cJ5_inflate_da8c8 36 = .ok (.aload_n 0, 1) := by decide +kernel
theorem dJ5_inflate_da8c8_37 : decode cJ5_inflate_da8c8 37 = .ok (.iconst 1, 1) := by decide +kernel
theorem dJ5_inflate_da8c8_38 : decode cJ5_inflate_da8c8 38 = .ok (.putfield 22, 3) := by decide +kernel
theorem dJ5_inflate_da8c8_41 : decode cJ5_inflate_da8c8 41 = .ok (.return_, 1) := by decide +kernel
theorem dJ5_append_cf1ce_0 : decode cJ5_append_cf1ce 0 = .ok (.aload_n 1, 1) := by decide +kernel
theorem dJ5_append_cf1ce_1 : decode cJ5_append_cf1ce 1 = .ok (.ifnonnull 8, 3) := by decide +kernel
theorem dJ5_append_cf1ce_4 : decode cJ5_append_cf1ce 4 = .ok (.aload_n 0, 1) := by decide +kernel
theorem dJ5_append_cf1ce_5 : decode cJ5_append_cf1ce 5 = .ok (.invokevirtual 204, 3) := by decide +kernel
theorem dJ5_append_cf1ce_8 : decode cJ5_append_cf1ce 8 = .ok (.areturn, 1) := by decide +kernel
theorem dJ5_append_cf1ce_9 : decode cJ5_append_cf1ce 9 = .ok (.aload_n 1, 1) := by decide +kernel
theorem dJ5_append_cf1ce_10 : decode cJ5_append_cf1ce 10 = .ok (.invokevirtual 32, 3) := by decide +kernel
theorem dJ5_append_cf1ce_13 : decode cJ5_append_cf1ce 13 = .ok (.istore_n 2, 1) := by decide +kernel
theorem dJ5_append_cf1ce_14 : decode cJ5_append_cf1ce 14 = .ok (.aload_n 0, 1) := by decide +kernel
theorem dJ5_append_cf1ce_15 : decode cJ5_append_cf1ce 15 = .ok (.aload_n 0, 1) := by decide +kernel
theorem dJ5_append_cf1ce_16 : decode cJ5_append_cf1ce 16 = .ok (.getfield 79, 3) := by decide +kernel
theorem dJ5_append_cf1ce_19 : decode cJ5_append_cf1ce 19 = .ok (.iload_n 2, 1) := by decide +kernel
theorem dJ5_append_cf1ce_20 : decode cJ5_append_cf1ce 20 = .ok (.iadd, 1) := by decide +kernel
theorem dJ5_append_cf1ce_21 : decode cJ5_append_cf1ce 21 = .ok (.invokevirtual 100, 3) := by decide +kernel
theorem dJ5_append_cf1ce_24 : decode cJ5_append_cf1ce 24 = .ok (.aload_n 0, 1) := by decide +kernel
theorem dJ5_append_cf1ce_25 : decode cJ5_append_cf1ce 25 = .ok (.aload_n 0, 1) := by decide +kernel
theorem dJ5_append_cf1ce_26 : decode cJ5_append_cf1ce 26 = .ok (.getfield 79, 3) := by decide +kernel
theorem dJ5_append_cf1ce_29 : decode cJ5_append_cf1ce 29 = .ok (.aload_n 1, 1) := by decide +kernel
theorem dJ5_append_cf1ce_30 : decode cJ5_append_cf1ce 30 = .ok (.invokevirtual 208, 3) := by decide +kernel
theorem dJ5_append_cf1ce_33 : decode cJ5_append_cf1ce 33 = .ok (.aload_n 0, 1) := by decide +kernel
theorem dJ5_append_cf1ce_34 : decode cJ5_append_cf1ce 34 = .ok (.dup, 1) := by decide +kernel
theorem dJ5_append_cf1ce_35 : decode cJ5_append_cf1ce 35 = .ok (.getfield 79, 3) := by decide +kernel
theorem dJ5_append_cf1ce_38 : decode cJ5_append_cf1ce 38 = .ok (.iload_n 2, 1) := by decide +kernel
theorem dJ5_append_cf1ce_39 : decode cJ5_append_cf1ce 39 = .ok (.iadd, 1) := by decide +kernel
theorem dJ5_append_cf1ce_40 : decode cJ5_append_cf1ce 40 = .ok (.putfield 79, 3) := by decide +kernel
theorem dJ5_append_cf1ce_43 : decode cJ5_append_cf1ce 43 = .ok (.aload_n 0, 1) := by decide +kernel
theorem dJ5_append_cf1ce_44 : decode cJ5_append_cf1ce 44 = .ok (.areturn, 1) := by decide +kernel
theorem dJ5_appendNull_278bc_0 : decode cJ5_appendNull_278bc 0 = .ok (.aload_n 0, 1) := by decide +kernel
theorem dJ5_appendNull_278bc_1 : decode cJ5_appendNull_278bc 1 = .ok (.aload_n 0, 1) := by decide +kernel
theorem dJ5_appendNull_278bc_2 : decode cJ5_appendNull_278bc 2 = .ok (.getfield 79, 3) := by decide +kernel
theorem dJ5_appendNull_278bc_5 : decode cJ5_appendNull_278bc 5 = .ok (.iconst 4, 1) := by decide +kernel
theorem dJ5_appendNull_278bc_6 : decode cJ5_appendNull_278bc 6 = .ok (.iadd, 1) := by decide +kernel
theorem dJ5_appendNull_278bc_7 : decode cJ5_appendNull_278bc 7 = .ok (.invokevirtual 100, 3) := by decide +kernel
theorem dJ5_appendNull_278bc_10 : decode cJ5_appendNull_278bc 10 = .ok (.aload_n 0, 1) := by decide +kernel
theorem dJ5_appendNull_278bc_11 : decode cJ5_appendNull_278bc 11 = .ok (.getfield 79, 3) := by decide +kernel
theorem dJ5_appendNull_278bc_14 : decode cJ5_appendNull_278bc 14 = .ok (.istore_n 1, 1) := by decide +kernel
theorem dJ5_appendNull_278bc_15 : decode cJ5_appendNull_278bc 15 = .ok (.aload_n 0, 1) := by decide +kernel
theorem dJ5_appendNull_278bc_16 : decode cJ5_appendNull_278bc 16 = .ok (.getfield 15, 3) := by decide +kernel
theorem dJ5_appendNull_278bc_19 : decode cJ5_appendNull_278bc 19 = .ok (.astore_n 2, 1) := by decide +kernel
theorem dJ5_appendNull_278bc_20 : decode cJ5_appendNull_278bc 20 = .ok (.aload_n 0, 1) := by decide +kernel
theorem dJ5_appendNull_278bc_21 : decode cJ5_appendNull_278bc 21 = .ok (.invokevirtual 83, 3) := by decide +kernel
theorem dJ5_appendNull_278bc_24 : decode cJ5_appendNull_278bc 24 = .ok (.ifCond .eq 38, 3) := by decide +kernel
theorem dJ5_appendNull_278bc_27 : decode cJ5_appendNull_278bc 27 = .ok (.aload_n 2, 1) := by decide +kernel
theorem dJ5_appendNull_278bc_28 : decode cJ5_appendNull_278bc 28 = .ok (.iload_n 1, 1) := by decide +kernel
theorem dJ5_appendNull_278bc_29 : decode cJ5_appendNull_278bc 29 = .ok (.iinc 1 1, 3) := by decide +kernel
theorem dJ5_appendNull_278bc_32 : decode cJ5_appendNull_278bc 32 = .ok (.bipush 110, 2) := by decide +kernel
theorem dJ5_appendNull_278bc_34 : decode cJ5_appendNull_278bc 34 = .ok (.bastore, 1) := by decide +kernel
theorem dJ5_appendNull_278bc_35 : decode cJ5_appendNull_278bc 35 = .ok (.aload_n 2, 1) := by decide +kernel
theorem dJ5_appendNull_278bc_36 : decode cJ5_appendNull_278bc 36 = .ok (.iload_n 1, 1) := by decide +kernel
theorem dJ5_appendNull_278bc_37 : decode cJ5_appendNull_278bc 37 = .ok (.iinc 1 1, 3) := by decide +kernel
theorem dJ5_appendNull_278bc_40 : decode cJ5_appendNull_278bc 40 = .ok (.bipush 117, 2) := by decide +kernel
theorem dJ5_appendNull_278bc_42 : decode cJ5_appendNull_278bc 42 = .ok (.bastore, 1) := by decide +kernel
theorem dJ5_appendNull_278bc_43 : decode cJ5_appendNull_278bc 43 = .ok (.aload_n 2, 1) := by decide +kernel
theorem dJ5_appendNull_278bc_44 : decode cJ5_appendNull_278bc 44 = .ok (.iload_n 1, 1) := by decide +kernel
theorem dJ5_appendNull_278bc_45 : decode cJ5_appendNull_278bc 45 = .ok (.iinc 1 1, 3) := by decide +kernel
theorem dJ5_appendNull_278bc_48 : decode cJ5_appendNull_278bc 48 = .ok (.bipush 108, 2) := by decide +kernel
theorem dJ5_appendNull_278bc_50 : decode cJ5_appendNull_278bc 50 = .ok (.bastore, 1) := by decide +kernel
theorem dJ5_appendNull_278bc_51 : decode cJ5_appendNull_278bc 51 = .ok (.aload_n 2, 1) := by decide +kernel
theorem dJ5_appendNull_278bc_52 : decode cJ5_appendNull_278bc 52 = .ok (.iload_n 1, 1) := by decide +kernel
theorem dJ5_appendNull_278bc_53 : decode cJ5_appendNull_278bc 53 = .ok (.iinc 1 1, 3) := by decide +kernel
theorem dJ5_appendNull_278bc_56 : decode cJ5_appendNull_278bc 56 = .ok (.bipush 108, 2) := by decide +kernel
theorem dJ5_appendNull_278bc_58 : decode cJ5_appendNull_278bc 58 = .ok (.bastore, 1) := by decide +kernel
theorem dJ5_appendNull_278bc_59 : decode cJ5_appendNull_278bc 59 = .ok (.goto 17, 3) := by decide +kernel
theorem dJ5_appendNull_278bc_62 : decode cJ5_appendNull_278bc 62 = .ok (.aload_n 2, 1) := by decide +kernel
theorem dJ5_appendNull_278bc_63 : decode cJ5_appendNull_278bc 63 = .ok (.iload_n 1, 1) := by decide +kernel
theorem dJ5_appendNull_278bc_64 : decode cJ5_appendNull_278bc 64 = .ok (.bipush 110, 2) := by decide +kernel
theorem dJ5_appendNull_278bc_66 : decode cJ5_appendNull_278bc 66 = .ok (.bipush 117, 2) := by decide +kernel
theorem dJ5_appendNull_278bc_68 : decode cJ5_appendNull_278bc 68 = .ok (.bipush 108, 2) := by decide +kernel
theorem dJ5_appendNull_278bc_70 : decode cJ5_appendNull_278bc 70 = .ok (.bipush 108, 2) := by decide +kernel
theorem dJ5_appendNull_278bc_72 : decode cJ5_appendNull_278bc 72 = .ok (.invokestatic 226, 3) := by decide +kernel
theorem dJ5_appendNull_278bc_75 : decode cJ5_appendNull_278bc 75 = .ok (.istore_n 1, 1) := by decide +kernel
theorem dJ5_appendNull_278bc_76 : decode cJ5_appendNull_278bc 76 = .ok (.aload_n 0, 1) := by decide +kernel
theorem dJ5_appendNull_278bc_77 : decode cJ5_appendNull_278bc 77 = .ok (.iload_n 1, 1) := by decide +kernel
theorem dJ5_appendNull_278bc_78 : decode cJ5_appendNull_278bc 78 = .ok (.putfield 79, 3) := by decide +kernel
theorem dJ5_appendNull_278bc_81 : decode cJ5_appendNull_278bc 81 = .ok (.aload_n 0, 1) := by decide +kernel
theorem dJ5_appendNull_278bc_82 : decode cJ5_appendNull_278bc 82 = .ok (.areturn, 1) := by decide +kernel
theorem dJ5_append_c97b9_0 : decode cJ5_append_c97b9 0 = .ok (.aload_n 0, 1) := by decide +kernel
theorem dJ5_append_c97b9_1 : decode cJ5_append_c97b9 1 = .ok (.getfield 79, 3) := by decide +kernel
theorem dJ5_append_c97b9_4 : decode cJ5_append_c97b9 4 = .ok (.istore_n 2, 1) := by decide +kernel
theorem dJ5_append_c97b9_5 : decode cJ5_append_c97b9 5 = .ok (.iload_n 2, 1) := by decide +kernel
theorem dJ5_append_c97b9_6 : decode cJ5_append_c97b9 6 = .ok (.iload_n 1, 1) := by decide +kernel
theorem dJ5_append_c97b9_7 : decode cJ5_append_c97b9 7 = .ok (.invokestatic 245, 3) := by decide +kernel
theorem dJ5_append_c97b9_10 : decode cJ5_append_c97b9 10 = .ok (.iadd, 1) := by decide +kernel
theorem dJ5_append_c97b9_11 : decode cJ5_append_c97b9 11 = .ok (.istore_n 3, 1) := by decide +kernel
theorem dJ5_append_c97b9_12 : decode cJ5_append_c97b9 12 = .ok (.aload_n 0, 1) := by decide +kernel
theorem dJ5_append_c97b9_13 : decode cJ5_append_c97b9 13 = .ok (.iload_n 3, 1) := by decide +kernel
theorem dJ5_append_c97b9_14 : decode cJ5_append_c97b9 14 = .ok (.invokevirtual 100, 3) := by decide +kernel
theorem dJ5_append_c97b9_17 : decode cJ5_append_c97b9 17 = .ok (.aload_n 0, 1) := by decide +kernel
theorem dJ5_append_c97b9_18 : decode cJ5_append_c97b9 18 = .ok (.invokevirtual 83, 3) := by decide +kernel
theorem dJ5_append_c97b9_21 : decode cJ5_append_c97b9 21 = .ok (.ifCond .eq 16, 3) := by decide +kernel
theorem dJ5_append_c97b9_24 : decode cJ5_append_c97b9 24 = .ok (.iload_n 1, 1) := by decide +kernel
theorem dJ5_append_c97b9_25 : decode cJ5_append_c97b9 25 = .ok (.iload_n 3, 1) := by decide +kernel
theorem dJ5_append_c97b9_26 : decode cJ5_append_c97b9 26 = .ok (.aload_n 0, 1) := by decide +kernel
theorem dJ5_append_c97b9_27 : decode cJ5_append_c97b9 27 = .ok (.getfield 15, 3) := by decide +kernel
theorem dJ5_append_c97b9_30 : decode cJ5_append_c97b9 30 = .ok (.invokestatic 248, 3) := by decide +kernel
theorem dJ5_append_c97b9_33 : decode cJ5_append_c97b9 33 = .ok (.pop, 1) := by decide +kernel
theorem dJ5_append_c97b9_34 : decode cJ5_append_c97b9 34 = .ok (.goto 14, 3) := by decide +kernel
theorem dJ5_append_c97b9_37 : decode cJ5_append_c97b9 37 = .ok (.iload_n 1, 1) := by decide +kernel
theorem dJ5_append_c97b9_38 : decode cJ5_append_c97b9 38 = .ok (.iload_n 2, 1) := by decide +kernel
theorem dJ5_append_c97b9_39 : decode cJ5_append_c97b9 39 = .ok (.iload_n 3, 1) := by decide +kernel
theorem dJ5_append_c97b9_40 : decode cJ5_append_c97b9 40 = .ok (.aload_n 0, 1) := by decide +kernel
theorem dJ5_append_c97b9_41 : decode cJ5_append_c97b9 41 = .ok (.getfield 15, 3) := by decide +kernel
theorem dJ5_append_c97b9_44 : decode cJ5_append_c97b9 44 = .ok (.invokestatic 251, 3) := by decide +kernel
theorem dJ5_append_c97b9_47 : decode cJ5_append_c97b9 47 = .ok (.pop, 1) := by decide +kernel
theorem dJ5_append_c97b9_48 : decode cJ5_append_c97b9 48 = .ok (.aload_n 0, 1) := by decide +kernel
theorem dJ5_append_c97b9_49 : decode cJ5_append_c97b9 49 = .ok (.iload_n 3, 1) := by decide +kernel
theorem dJ5_append_c97b9_50 : decode cJ5_append_c97b9 50 = .ok (.putfield 79, 3) := by decide +kernel
theorem dJ5_append_c97b9_53 : decode cJ5_append_c97b9 53 = .ok (.aload_n 0, 1) := by decide +kernel
theorem dJ5_append_c97b9_54 : decode cJ5_append_c97b9 54 = .ok (.areturn, 1) := by decide +kernel
theorem dJ5_getValue_6d5f1_0 : decode cJ5_getValue_6d5f1 0 = .ok (.aload_n 0, 1) := by decide +kernel
theorem dJ5_getValue_6d5f1_1 : decode cJ5_getValue_6d5f1 1 = .ok (.getfield 15, 3) := by decide +kernel
theorem dJ5_getValue_6d5f1_4 : decode cJ5_getValue_6d5f1 4 = .ok (.areturn, 1) := by decide +kernel
theorem dJ5_isLatin1_aae02_0 : decode cJ5_isLatin1_aae02 0 = .ok (.getstatic 18, 3) := by decide +kernel
theorem dJ5_isLatin1_aae02_3 : decode cJ5_isLatin1_aae02 3 = .ok (.ifCond .eq 14, 3) := by decide +kernel
theorem dJ5_isLatin1_aae02_6 : decode cJ5_isLatin1_aae02 6 = .ok (.aload_n 0, 1) := by decide +kernel
theorem dJ5_isLatin1_aae02_7 : decode cJ5_isLatin1_aae02 7 = .ok (.getfield 22, 3) := by decide +kernel
theorem dJ5_isLatin1_aae02_10 : decode cJ5_isLatin1_aae02 10 = .ok (.ifCond .ne 7, 3) := by decide +kernel
theorem dJ5_isLatin1_aae02_13 : decode cJ5_isLatin1_aae02 13 = .ok (.iconst 1, 1) := by decide +kernel
theorem dJ5_isLatin1_aae02_14 : decode cJ5_isLatin1_aae02 14 = .ok (.goto 4, 3) := by decide +kernel
theorem dJ5_isLatin1_aae02_17 : decode cJ5_isLatin1_aae02 17 = .ok (.iconst 0, 1) := by decide +kernel
theorem dJ5_isLatin1_aae02_18 : decode cJ5_isLatin1_aae02 18 = .ok (.ireturn, 1) := by decide +kernel
theorem dJ5_inflateIfNeededFor_a7421_0 : decode cJ5_inflateIfNeededFor_a7421 0 = .ok (.getstatic 18, 3) := by decide +kernel
theorem dJ5_inflateIfNeededFor_a7421_3 : decode cJ5_inflateIfNeededFor_a7421 3 = .ok (.ifCond .eq 18, 3) := by decide +kernel
theorem dJ5_inflateIfNeededFor_a7421_6 : decode cJ5_inflateIfNeededFor_a7421 6 = .ok (.aload_n 0, 1) := by decide +kernel
theorem dJ5_inflateIfNeededFor_a7421_7 : decode cJ5_inflateIfNeededFor_a7421 7 = .ok (.getfield 22, 3) := by decide +kernel
theorem dJ5_inflateIfNeededFor_a7421_10 : decode cJ5_inflateIfNeededFor_a7421 10 = .ok (.aload_n 1, 1) := by decide +kernel
theorem dJ5_inflateIfNeededFor_a7421_11 : decode cJ5_inflateIfNeededFor_a7421 11 = .ok (.invokevirtual 40, 3) := by decide +kernel
theorem dJ5_inflateIfNeededFor_a7421_14 : decode cJ5_inflateIfNeededFor_a7421 14 = .ok (.if_icmp .eq 7, 3) := by decide +kernel
theorem dJ5_inflateIfNeededFor_a7421_17 : decode cJ5_inflateIfNeededFor_a7421 17 = .ok (.aload_n 0, 1) := by decide +kernel
theorem dJ5_inflateIfNeededFor_a7421_18 : decode cJ5_inflateIfNeededFor_a7421 18 = .ok (.invokevirtual 195, 3) := by decide +kernel
theorem dJ5_inflateIfNeededFor_a7421_21 : decode cJ5_inflateIfNeededFor_a7421 21 = .ok (.return_, 1) := by decide +kernel
theorem dJ5_putStringAt_47b60_0 : decode cJ5_putStringAt_47b60 0 = .ok (.aload_n 0, 1) := by decide +kernel
theorem dJ5_putStringAt_47b60_1 : decode cJ5_putStringAt_47b60 1 = .ok (.aload_n 2, 1) := by decide +kernel
theorem dJ5_putStringAt_47b60_2 : decode cJ5_putStringAt_47b60 2 = .ok (.invokevirtual 397, 3) := by decide +kernel
theorem dJ5_putStringAt_47b60_5 : decode cJ5_putStringAt_47b60 5 = .ok (.aload_n 2, 1) := by decide +kernel
theorem dJ5_putStringAt_47b60_6 : decode cJ5_putStringAt_47b60 6 = .ok (.aload_n 0, 1) := by decide +kernel
theorem dJ5_putStringAt_47b60_7 : decode cJ5_putStringAt_47b60 7 = .ok (.getfield 15, 3) := by decide +kernel
theorem dJ5_putStringAt_47b60_10 : decode cJ5_putStringAt_47b60 10 = .ok (.iload_n 1, 1) := by decide +kernel
theorem dJ5_putStringAt_47b60_11 : decode cJ5_putStringAt_47b60 11 = .ok (.aload_n 0, 1) := by decide +kernel
theorem dJ5_putStringAt_47b60_12 : decode cJ5_putStringAt_47b60 12 = .ok (.getfield 22, 3) := by decide +kernel
theorem dJ5_putStringAt_47b60_15 : decode cJ5_putStringAt_47b60 15 = .ok (.invokevirtual 399, 3) := by decide +kernel
theorem dJ5_putStringAt_47b60_18 : decode cJ5_putStringAt_47b60 18 = .ok (.return_, 1) := by decide +kernel
theorem dJ6_getChars_ba4f3_0 : decode cJ6_getChars_ba4f3 0 = .ok (.iload_n 1, 1) := by decide +kernel
theorem dJ6_getChars_ba4f3_1 : decode cJ6_getChars_ba4f3 1 = .ok (.istore 5, 2) := by decide +kernel
theorem dJ6_getChars_ba4f3_3 : decode cJ6_getChars_ba4f3 3 = .ok (.iload_n 0, 1) := by decide +kernel
theorem dJ6_getChars_ba4f3_4 : decode cJ6_getChars_ba4f3 4 = .ok (.ifCond .ge 7, 3) := by decide +kernel
theorem dJ6_getChars_ba4f3_7 : decode cJ6_getChars_ba4f3 7 = .ok (.iconst 1, 1) := by decide +kernel
theorem dJ6_getChars_ba4f3_8 : decode cJ6_getChars_ba4f3 8 = .ok (.goto 4, 3) := by decide +kernel
theorem dJ6_getChars_ba4f3_11 : decode cJ6_getChars_ba4f3 11 = .ok (.iconst 0, 1) := by decide +kernel
theorem dJ6_getChars_ba4f3_12 : decode cJ6_getChars_ba4f3 12 = .ok (.istore 6, 2) := by decide +kernel
theorem dJ6_getChars_ba4f3_14 : decode cJ6_getChars_ba4f3 14 = .ok (.iload 6, 2) := by decide +kernel
theorem dJ6_getChars_ba4f3_16 : decode cJ6_getChars_ba4f3 16 = .ok (.ifCond .ne 6, 3) := by decide +kernel
theorem dJ6_getChars_ba4f3_19 : decode cJ6_getChars_ba4f3 19 = .ok (.iload_n 0, 1) := by decide +kernel
theorem dJ6_getChars_ba4f3_20 : decode cJ6_getChars_ba4f3 20 = .ok (.ineg, 1) := by decide +kernel
theorem dJ6_getChars_ba4f3_21 : decode cJ6_getChars_ba4f3 21 = .ok (.istore_n 0, 1) := by decide +kernel
theorem dJ6_getChars_ba4f3_22 : decode cJ6_getChars_ba4f3 22 = .ok (.iload_n 0, 1) := by decide +kernel
theorem dJ6_getChars_ba4f3_23 : decode cJ6_getChars_ba4f3 23 = .ok (.bipush (-100), 2) := by decide +kernel
theorem dJ6_getChars_ba4f3_25 : decode cJ6_getChars_ba4f3 25 = .ok (.if_icmp .gt 47, 3) := by decide +kernel
theorem dJ6_getChars_ba4f3_28 : decode cJ6_getChars_ba4f3 28 = .ok (.iload_n 0, 1) := by decide +kernel
theorem dJ6_getChars_ba4f3_29 : decode cJ6_getChars_ba4f3 29 = .ok (.bipush 100, 2) := by decide +kernel
theorem dJ6_getChars_ba4f3_31 : decode cJ6_getChars_ba4f3 31 = .ok (.idiv, 1) := by decide +kernel
theorem dJ6_getChars_ba4f3_32 : decode cJ6_getChars_ba4f3 32 = .ok (.istore_n 3, 1) := by decide +kernel
theorem dJ6_getChars_ba4f3_33 : decode cJ6_getChars_ba4f3 33 = .ok (.iload_n 3, 1) := by decide +kernel
theorem dJ6_getChars_ba4f3_34 : decode cJ6_getChars_ba4f3 34 = .ok (.bipush 100, 2) := by decide +kernel
theorem dJ6_getChars_ba4f3_36 : decode cJ6_getChars_ba4f3 36 = .ok (.imul, 1) := by decide +kernel
theorem dJ6_getChars_ba4f3_37 : decode cJ6_getChars_ba4f3 37 = .ok (.iload_n 0, 1) := by decide +kernel
theorem dJ6_getChars_ba4f3_38 : decode cJ6_getChars_ba4f3 38 = .ok (.isub, 1) := by decide +kernel
theorem dJ6_getChars_ba4f3_39 : decode cJ6_getChars_ba4f3 39 = .ok (.istore 4, 2) := by decide +kernel
theorem dJ6_getChars_ba4f3_41 : decode cJ6_getChars_ba4f3 41 = .ok (.iload_n 3, 1) := by decide +kernel
theorem dJ6_getChars_ba4f3_42 : decode cJ6_getChars_ba4f3 42 = .ok (.istore_n 0, 1) := by decide +kernel
theorem dJ6_getChars_ba4f3_43 : decode cJ6_getChars_ba4f3 43 = .ok (.aload_n 2, 1) := by decide +kernel
theorem dJ6_getChars_ba4f3_44 : decode cJ6_getChars_ba4f3 44 = .ok (.iinc 5 (-1), 3) := by decide +kernel
theorem dJ6_getChars_ba4f3_47 : decode cJ6_getChars_ba4f3 47 = .ok (.iload 5, 2) := by decide +kernel
theorem dJ6_getChars_ba4f3_49 : decode cJ6_getChars_ba4f3 49 = .ok (.getstatic 83, 3) := by decide +kernel
theorem dJ6_getChars_ba4f3_52 : decode cJ6_getChars_ba4f3 52 = .ok (.iload 4, 2) := by decide +kernel
theorem dJ6_getChars_ba4f3_54 : decode cJ6_getChars_ba4f3 54 = .ok (.baload, 1) := by decide +kernel
theorem dJ6_getChars_ba4f3_55 : decode cJ6_getChars_ba4f3 55 = .ok (.bastore, 1) := by decide +kernel
theorem dJ6_getChars_ba4f3_56 : decode cJ6_getChars_ba4f3 56 = .ok (.aload_n 2, 1) := by decide +kernel
theorem dJ6_getChars_ba4f3_57 : decode cJ6_getChars_ba4f3 57 = .ok (.iinc 5 (-1), 3) := by decide +kernel
theorem dJ6_getChars_ba4f3_60 : decode cJ6_getChars_ba4f3 60 = .ok (.iload 5, 2) := by decide +kernel
theorem dJ6_getChars_ba4f3_62 : decode cJ6_getChars_ba4f3 62 = .ok (.getstatic 87, 3) := by decide +kernel
theorem dJ6_getChars_ba4f3_65 : decode cJ6_getChars_ba4f3 65 = .ok (.iload 4, 2) := by decide +kernel
theorem dJ6_getChars_ba4f3_67 : decode cJ6_getChars_ba4f3 67 = .ok (.baload, 1) := by decide +kernel
theorem dJ6_getChars_ba4f3_68 : decode cJ6_getChars_ba4f3 68 = .ok (.bastore, 1) := by decide +kernel
theorem dJ6_getChars_ba4f3_69 : decode cJ6_getChars_ba4f3 69 = .ok (.goto (-47), 3) := by decide +kernel
theorem dJ6_getChars_ba4f3_72 : decode cJ6_getChars_ba4f3 72 = .ok (.aload_n 2, 1) := by decide +kernel
theorem dJ6_getChars_ba4f3_73 : decode cJ6_getChars_ba4f3 73 = .ok (.iinc 5 (-1), 3) := by decide +kernel
theorem dJ6_getChars_ba4f3_76 : decode cJ6_getChars_ba4f3 76 = .ok (.iload 5, 2) := by decide +kernel
theorem dJ6_getChars_ba4f3_78 : decode cJ6_getChars_ba4f3 78 = .ok (.getstatic 83, 3) := by decide +kernel
theorem dJ6_getChars_ba4f3_81 : decode cJ6_getChars_ba4f3 81 = .ok (.iload_n 0, 1) := by decide +kernel
theorem dJ6_getChars_ba4f3_82 : decode cJ6_getChars_ba4f3 82 = .ok (.ineg, 1) := by decide +kernel
theorem dJ6_getChars_ba4f3_83 : decode cJ6_getChars_ba4f3 83 = .ok (.baload, 1) := by decide +kernel
theorem dJ6_getChars_ba4f3_84 : decode cJ6_getChars_ba4f3 84 = .ok (.bastore, 1) := by decide +kernel
theorem dJ6_getChars_ba4f3_85 : decode cJ6_getChars_ba4f3 85 = .ok (.iload_n 0, 1) := by decide +kernel
theorem dJ6_getChars_ba4f3_86 : decode cJ6_getChars_ba4f3 86 = .ok (.bipush (-9), 2) := by decide +kernel
theorem dJ6_getChars_ba4f3_88 : decode cJ6_getChars_ba4f3 88 = .ok (.if_icmp .ge 16, 3) := by decide +kernel
theorem dJ6_getChars_ba4f3_91 : decode cJ6_getChars_ba4f3 91 = .ok (.aload_n 2, 1) := by decide +kernel
theorem dJ6_getChars_ba4f3_92 : decode cJ6_getChars_ba4f3 92 = .ok (.iinc 5 (-1), 3) := by decide +kernel
theorem dJ6_getChars_ba4f3_95 : decode cJ6_getChars_ba4f3 95 = .ok (.iload 5, 2) := by decide +kernel
theorem dJ6_getChars_ba4f3_97 : decode cJ6_getChars_ba4f3 97 = .ok (.getstatic 87, 3) := by decide +kernel
theorem dJ6_getChars_ba4f3_100 : decode cJ6_getChars_ba4f3 100 = .ok (.iload_n 0, 1) := by decide +kernel
theorem dJ6_getChars_ba4f3_101 : decode cJ6_getChars_ba4f3 101 = .ok (.ineg, 1) := by decide +kernel
theorem dJ6_getChars_ba4f3_102 : decode cJ6_getChars_ba4f3 102 = .ok (.baload, 1) := by decide +kernel
theorem dJ6_getChars_ba4f3_103 : decode cJ6_getChars_ba4f3 103 = .ok (.bastore, 1) := by decide +kernel
theorem dJ6_getChars_ba4f3_104 : decode cJ6_getChars_ba4f3 104 = .ok (.iload 6, 2) := by decide +kernel
theorem dJ6_getChars_ba4f3_106 : decode cJ6_getChars_ba4f3 106 = .ok (.ifCond .eq 12, 3) := by decide +kernel
theorem dJ6_getChars_ba4f3_109 : decode cJ6_getChars_ba4f3 109 = .ok (.aload_n 2, 1) := by decide +kernel
theorem dJ6_getChars_ba4f3_110 : decode cJ6_getChars_ba4f3 110 = .ok (.iinc 5 (-1), 3) := by decide +kernel
theorem dJ6_getChars_ba4f3_113 : decode cJ6_getChars_ba4f3 113 = .ok (.iload 5, 2) := by decide +kernel
theorem dJ6_getChars_ba4f3_115 : decode cJ6_getChars_ba4f3 115 = .ok (.bipush 45, 2) := by decide +kernel
theorem dJ6_getChars_ba4f3_117 : decode cJ6_getChars_ba4f3 117 = .ok (.bastore, 1) := by decide +kernel
theorem dJ6_getChars_ba4f3_118 : decode cJ6_getChars_ba4f3 118 = .ok (.iload 5, 2) := by decide +kernel
theorem dJ6_getChars_ba4f3_120 : decode cJ6_getChars_ba4f3 120 = .ok (.ireturn, 1) := by decide +kernel
theorem dJ6_stringSize_0f7a4_0 : decode cJ6_stringSize_0f7a4 0 = .ok (.iconst 1, 1) := by decide +kernel
theorem dJ6_stringSize_0f7a4_1 : decode cJ6_stringSize_0f7a4 1 = .ok (.istore_n 1, 1) := by decide +kernel
theorem dJ6_stringSize_0f7a4_2 : decode cJ6_stringSize_0f7a4 2 = .ok (.iload_n 0, 1) := by decide +kernel
theorem dJ6_stringSize_0f7a4_3 : decode cJ6_stringSize_0f7a4 3 = .ok (.ifCond .lt 8, 3) := by decide +kernel
theorem dJ6_stringSize_0f7a4_6 : decode cJ6_stringSize_0f7a4 6 = .ok (.iconst 0, 1) := by decide +kernel
theorem dJ6_stringSize_0f7a4_7 : decode cJ6_stringSize_0f7a4 7 = .ok (.istore_n 1, 1) := by decide +kernel
theorem dJ6_stringSize_0f7a4_8 : decode cJ6_stringSize_0f7a4 8 = .ok (.iload_n 0, 1) := by decide +kernel
theorem dJ6_stringSize_0f7a4_9 : decode cJ6_stringSize_0f7a4 9 = .ok (.ineg, 1) := by decide +kernel
theorem dJ6_stringSize_0f7a4_10 : decode cJ6_stringSize_0f7a4 10 = .ok (.istore_n 0, 1) := by decide +kernel
theorem dJ6_stringSize_0f7a4_11 : decode cJ6_stringSize_0f7a4 11 = .ok (.bipush (-10), 2) := by decide +kernel
theorem dJ6_stringSize_0f7a4_13 : decode cJ6_stringSize_0f7a4 13 = .ok (.istore_n 2, 1) := by decide +kernel
theorem dJ6_stringSize_0f7a4_14 : decode cJ6_stringSize_0f7a4 14 = .ok (.iconst 1, 1) := by decide +kernel
theorem dJ6_stringSize_0f7a4_15 : decode cJ6_stringSize_0f7a4 15 = .ok (.istore_n 3, 1) := by decide +kernel
theorem dJ6_stringSize_0f7a4_16 : decode cJ6_stringSize_0f7a4 16 = .ok (.iload_n 3, 1) := by decide +kernel
theorem dJ6_stringSize_0f7a4_17 : decode cJ6_stringSize_0f7a4 17 = .ok (.bipush 10, 2) := by decide +kernel
theorem dJ6_stringSize_0f7a4_19 : decode cJ6_stringSize_0f7a4 19 = .ok (.if_icmp .ge 23, 3) := by decide +kernel
theorem dJ6_stringSize_0f7a4_22 : decode cJ6_stringSize_0f7a4 22 = .ok (.iload_n 0, 1) := by decide +kernel
theorem dJ6_stringSize_0f7a4_23 : decode cJ6_stringSize_0f7a4 23 = .ok (.iload_n 2, 1) := by decide +kernel
theorem dJ6_stringSize_0f7a4_24 : decode cJ6_stringSize_0f7a4 24 = .ok (.if_icmp .le 7, 3) := by decide +kernel
theorem dJ6_stringSize_0f7a4_27 : decode cJ6_stringSize_0f7a4 27 = .ok (.iload_n 3, 1) := by decide +kernel
theorem dJ6_stringSize_0f7a4_28 : decode cJ6_stringSize_0f7a4 28 = .ok (.iload_n 1, 1) := by decide +kernel
theorem dJ6_stringSize_0f7a4_29 : decode cJ6_stringSize_0f7a4 29 = .ok (.iadd, 1) := by decide +kernel
theorem dJ6_stringSize_0f7a4_30 : decode cJ6_stringSize_0f7a4 30 = .ok (.ireturn, 1) := by decide +kernel
theorem dJ6_stringSize_0f7a4_31 : decode cJ6_stringSize_0f7a4 31 = .ok (.bipush 10, 2) := by decide +kernel
theorem dJ6_stringSize_0f7a4_33 : decode cJ6_stringSize_0f7a4 33 = .ok (.iload_n 2, 1) := by decide +kernel
theorem dJ6_stringSize_0f7a4_34 : decode cJ6_stringSize_0f7a4 34 = .ok (.imul, 1) := by decide +kernel
theorem dJ6_stringSize_0f7a4_35 : decode cJ6_stringSize_0f7a4 35 = .ok (.istore_n 2, 1) := by decide +kernel
theorem dJ6_stringSize_0f7a4_36 : decode cJ6_stringSize_0f7a4 36 = .ok (.iinc 3 1, 3) := by decide +kernel
theorem dJ6_stringSize_0f7a4_39 : decode cJ6_stringSize_0f7a4 39 = .ok (.goto (-23), 3) := by decide +kernel
theorem dJ6_stringSize_0f7a4_42 : decode cJ6_stringSize_0f7a4 42 = .ok (.bipush 10, 2) := by decide +kernel
theorem dJ6_stringSize_0f7a4_44 : decode cJ6_stringSize_0f7a4 44 = .ok (.iload_n 1, 1) := by decide +kernel
theorem dJ6_stringSize_0f7a4_45 : decode cJ6_stringSize_0f7a4 45 = .ok (.iadd, 1) := by decide +kernel
theorem dJ6_stringSize_0f7a4_46 : decode cJ6_stringSize_0f7a4 46 = .ok (.ireturn, 1) := by decide +kernel
theorem dJ0_init_81219_0 : decode cJ0_init_81219 0 = .ok (.aload_n 0, 1) := by decide +kernel
theorem dJ0_init_81219_1 : decode cJ0_init_81219 1 = .ok (.aload_n 1, 1) := by decide +kernel
theorem dJ0_init_81219_2 : decode cJ0_init_81219 2 = .ok (.aconst_null, 1) := by decide +kernel
theorem dJ0_init_81219_3 : decode cJ0_init_81219 3 = .ok (.invokespecial 489, 3) := by decide +kernel
theorem dJ0_init_81219_6 : decode cJ0_init_81219 6 = .ok (.return_, 1) := by decide +kernel
theorem dJ0_length_8abf5_0 : decode cJ0_length_8abf5 0 = .ok (.aload_n 0, 1) := by decide +kernel
theorem dJ0_length_8abf5_1 : decode cJ0_length_8abf5 1 = .ok (.getfield 9, 3) := by decide +kernel
theorem dJ0_length_8abf5_4 : decode cJ0_length_8abf5 4 = .ok (.arraylength, 1) := by decide +kernel
theorem dJ0_length_8abf5_5 : decode cJ0_length_8abf5 5 = .ok (.aload_n 0, 1) := by decide +kernel
theorem dJ0_length_8abf5_6 : decode cJ0_length_8abf5 6 = .ok (.invokevirtual 335, 3) := by decide +kernel
theorem dJ0_length_8abf5_9 : decode cJ0_length_8abf5 9 = .ok (.ishr, 1) := by decide +kernel
theorem dJ0_length_8abf5_10 : decode cJ0_length_8abf5 10 = .ok (.ireturn, 1) := by decide +kernel
theorem dJ0_charAt_5068e_0 : decode cJ0_charAt_5068e 0 = .ok (.aload_n 0, 1) := by decide +kernel
theorem dJ0_charAt_5068e_1 : decode cJ0_charAt_5068e 1 = .ok (.invokevirtual 492, 3) := by decide +kernel
theorem dJ0_charAt_5068e_4 : decode cJ0_charAt_5068e 4 = .ok (.ifCond .eq 12, 3) := by decide +kernel
theorem dJ0_charAt_5068e_7 : decode cJ0_charAt_5068e 7 = .ok (.aload_n 0, 1) := by decide +kernel
theorem dJ0_charAt_5068e_8 : decode cJ0_charAt_5068e 8 = .ok (.getfield 9, 3) := by decide +kernel
theorem dJ0_charAt_5068e_11 : decode cJ0_charAt_5068e 11 = .ok (.iload_n 1, 1) := by decide +kernel
theorem dJ0_charAt_5068e_12 : decode cJ0_charAt_5068e 12 = .ok (.invokestatic 495, 3) := by decide +kernel
theorem dJ0_charAt_5068e_15 : decode cJ0_charAt_5068e 15 = .ok (.ireturn, 1) := by decide +kernel
theorem dJ0_charAt_5068e_16 : decode cJ0_charAt_5068e 16 = .ok (.aload_n 0, 1) := by decide +kernel
theorem dJ0_charAt_5068e_17 : decode cJ0_charAt_5068e 17 = .ok (.getfield 9, 3) := by decide +kernel
theorem dJ0_charAt_5068e_20 : decode cJ0_charAt_5068e 20 = .ok (.iload_n 1, 1) := by decide +kernel
theorem dJ0_charAt_5068e_21 : decode cJ0_charAt_5068e 21 = .ok (.invokestatic 498, 3) := by decide +kernel
theorem dJ0_charAt_5068e_24 : decode cJ0_charAt_5068e 24 = .ok (.ireturn, 1) := by decide +kernel
theorem dJ0_getBytes_840e7_0 : decode cJ0_getBytes_840e7 0 = .ok (.aload_n 0, 1) := by decide +kernel
theorem dJ0_getBytes_840e7_1 : decode cJ0_getBytes_840e7 1 = .ok (.invokevirtual 335, 3) := by decide +kernel
theorem dJ0_getBytes_840e7_4 : decode cJ0_getBytes_840e7 4 = .ok (.iload_n 3, 1) := by decide +kernel
theorem dJ0_getBytes_840e7_5 : decode cJ0_getBytes_840e7 5 = .ok (.if_icmp .ne 23, 3) := by decide +kernel
theorem dJ0_getBytes_840e7_8 : decode cJ0_getBytes_840e7 8 = .ok (.aload_n 0, 1) := by decide +kernel
theorem dJ0_getBytes_840e7_9 : decode cJ0_getBytes_840e7 9 = .ok (.getfield 9, 3) := by decide +kernel
theorem dJ0_getBytes_840e7_12 : decode cJ0_getBytes_840e7 12 = .ok (.iconst 0, 1) := by decide +kernel
theorem dJ0_getBytes_840e7_13 : decode cJ0_getBytes_840e7 13 = .ok (.aload_n 1, 1) := by decide +kernel
theorem dJ0_getBytes_840e7_14 : decode cJ0_getBytes_840e7 14 = .ok (.iload_n 2, 1) := by decide +kernel
theorem dJ0_getBytes_840e7_15 : decode cJ0_getBytes_840e7 15 = .ok (.iload_n 3, 1) := by decide +kernel
theorem dJ0_getBytes_840e7_16 : decode cJ0_getBytes_840e7 16 = .ok (.ishl, 1) := by decide +kernel
theorem dJ0_getBytes_840e7_17 : decode cJ0_getBytes_840e7 17 = .ok (.aload_n 0, 1) := by decide +kernel
theorem dJ0_getBytes_840e7_18 : decode cJ0_getBytes_840e7 18 = .ok (.getfield 9, 3) := by decide +kernel
theorem dJ0_getBytes_840e7_21 : decode cJ0_getBytes_840e7 21 = .ok (.arraylength, 1) := by decide +kernel
theorem dJ0_getBytes_840e7_22 : decode cJ0_getBytes_840e7 22 = .ok (.invokestatic 212, 3) := by decide +kernel
theorem dJ0_getBytes_840e7_25 : decode cJ0_getBytes_840e7 25 = .ok (.goto 18, 3) := by decide +kernel
theorem dJ0_getBytes_840e7_28 : decode cJ0_getBytes_840e7 28 = .ok (.aload_n 0, 1) := by decide +kernel
theorem dJ0_getBytes_840e7_29 : decode cJ0_getBytes_840e7 29 = .ok (.getfield 9, 3) := by decide +kernel
theorem dJ0_getBytes_840e7_32 : decode cJ0_getBytes_840e7 32 = .ok (.iconst 0, 1) := by decide +kernel
theorem dJ0_getBytes_840e7_33 : decode cJ0_getBytes_840e7 33 = .ok (.aload_n 1, 1) := by decide +kernel
theorem dJ0_getBytes_840e7_34 : decode cJ0_getBytes_840e7 34 = .ok (.iload_n 2, 1) := by decide +kernel
theorem dJ0_getBytes_840e7_35 : decode cJ0_getBytes_840e7 35 = .ok (.aload_n 0, 1) := by decide +kernel
theorem dJ0_getBytes_840e7_36 : decode cJ0_getBytes_840e7 36 = .ok (.getfield 9, 3) := by decide +kernel
theorem dJ0_getBytes_840e7_39 : decode cJ0_getBytes_840e7 39 = .ok (.arraylength, 1) := by decide +kernel
theorem dJ0_getBytes_840e7_40 : decode cJ0_getBytes_840e7 40 = .ok (.invokestatic 106, 3) := by decide +kernel
theorem dJ0_getBytes_840e7_43 : decode cJ0_getBytes_840e7 43 = .ok (.return_, 1) := by decide +kernel
theorem dJ0_init_db425_0 : decode cJ0_init_db425 0 = .ok (.aload_n 0, 1) := by decide +kernel
theorem dJ0_init_db425_1 : decode cJ0_init_db425 1 = .ok (.invokespecial 1, 3) := by decide +kernel
theorem dJ0_init_db425_4 : decode cJ0_init_db425 4 = .ok (.aload_n 1, 1) := by decide +kernel
theorem dJ0_init_db425_5 : decode cJ0_init_db425 5 = .ok (.invokevirtual 552, 3) := by decide +kernel
theorem dJ0_init_db425_8 : decode cJ0_init_db425 8 = .ok (.astore_n 3, 1) := by decide +kernel
theorem dJ0_init_db425_9 : decode cJ0_init_db425 9 = .ok (.aload_n 1, 1) := by decide +kernel
theorem dJ0_init_db425_10 : decode cJ0_init_db425 10 = .ok (.invokevirtual 549, 3) := by decide +kernel
theorem dJ0_init_db425_13 : decode cJ0_init_db425 13 = .ok (.istore 4, 2) := by decide +kernel
theorem dJ0_init_db425_15 : decode cJ0_init_db425 15 = .ok (.aload_n 1, 1) := by decide +kernel
theorem dJ0_init_db425_16 : decode cJ0_init_db425 16 = .ok (.invokevirtual 1047, 3) := by decide +kernel
theorem dJ0_init_db425_19 : decode cJ0_init_db425 19 = .ok (.ifCond .eq 22, 3) := by decide +kernel
theorem dJ0_init_db425_22 : decode cJ0_init_db425 22 = .ok (.aload_n 0, 1) := by decide +kernel
theorem dJ0_init_db425_23 : decode cJ0_init_db425 23 = .ok (.iconst 0, 1) := by decide +kernel
theorem dJ0_init_db425_24 : decode cJ0_init_db425 24 = .ok (.putfield 15, 3) := by decide +kernel
theorem dJ0_init_db425_27 : decode cJ0_init_db425 27 = .ok (.aload_n 0, 1) := by decide +kernel
theorem dJ0_init_db425_28 : decode cJ0_init_db425 28 = .ok (.aload_n 3, 1) := by decide +kernel
theorem dJ0_init_db425_29 : decode cJ0_init_db425 29 = .ok (.iconst 0, 1) := by decide +kernel
theorem dJ0_init_db425_30 : decode cJ0_init_db425 30 = .ok (.iload 4, 2) := by decide +kernel
theorem dJ0_init_db425_32 : decode cJ0_init_db425 32 = .ok (.invokestatic 54, 3) := by decide +kernel
theorem dJ0_init_db425_35 : decode cJ0_init_db425 35 = .ok (.putfield 9, 3) := by decide +kernel
theorem dJ0_init_db425_38 : decode cJ0_init_db425 38 = .ok (.goto 59, 3) := by decide +kernel
theorem dJ0_init_db425_41 : decode cJ0_init_db425 41 = .ok (.getstatic 38, 3) := by decide +kernel
theorem dJ0_init_db425_44 : decode cJ0_init_db425 44 = .ok (.ifCond .eq 35, 3) := by decide +kernel
theorem dJ0_init_db425_47 : decode cJ0_init_db425 47 = .ok (.aload_n 1, 1) := by decide +kernel
theorem dJ0_init_db425_48 : decode cJ0_init_db425 48 = .ok (.getfield 1048, 3) := by decide +kernel
theorem dJ0_init_db425_51 : decode cJ0_init_db425 51 = .ok (.ifCond .eq 28, 3) := by decide +kernel
theorem dJ0_init_db425_54 : decode cJ0_init_db425 54 = .ok (.aload_n 0, 1) := by decide +kernel
theorem dJ0_init_db425_55 : decode cJ0_init_db425 55 = .ok (.aload_n 3, 1) := by decide +kernel
theorem dJ0_init_db425_56 : decode cJ0_init_db425 56 = .ok (.iconst 0, 1) := by decide +kernel
theorem dJ0_init_db425_57 : decode cJ0_init_db425 57 = .ok (.iload 4, 2) := by decide +kernel
theorem dJ0_init_db425_59 : decode cJ0_init_db425 59 = .ok (.invokestatic 1051, 3) := by decide +kernel
theorem dJ0_init_db425_62 : decode cJ0_init_db425 62 = .ok (.putfield 9, 3) := by decide +kernel
theorem dJ0_init_db425_65 : decode cJ0_init_db425 65 = .ok (.aload_n 0, 1) := by decide +kernel
theorem dJ0_init_db425_66 : decode cJ0_init_db425 66 = .ok (.aload_n 0, 1) := by decide +kernel
theorem dJ0_init_db425_67 : decode cJ0_init_db425 67 = .ok (.getfield 9, 3) := by decide +kernel
theorem dJ0_init_db425_70 : decode cJ0_init_db425 70 = .ok (.iload 4, 2) := by decide +kernel
theorem dJ0_init_db425_72 : decode cJ0_init_db425 72 = .ok (.invokestatic 47, 3) := by decide +kernel
theorem dJ0_init_db425_75 : decode cJ0_init_db425 75 = .ok (.putfield 15, 3) := by decide +kernel
theorem dJ0_init_db425_78 : decode cJ0_init_db425 78 = .ok (.return_, 1) := by decide +kernel
theorem dJ0_init_db425_79 : decode cJ0_init_db425 79 = .ok (.aload_n 0, 1) := by decide +kernel
theorem dJ0_init_db425_80 : decode cJ0_init_db425 80 = .ok (.iconst 1, 1) := by decide +kernel
theorem dJ0_init_db425_81 : decode cJ0_init_db425 81 = .ok (.putfield 15, 3) := by decide +kernel
theorem dJ0_init_db425_84 : decode cJ0_init_db425 84 = .ok (.aload_n 0, 1) := by decide +kernel
theorem dJ0_init_db425_85 : decode cJ0_init_db425 85 = .ok (.aload_n 3, 1) := by decide +kernel
theorem dJ0_init_db425_86 : decode cJ0_init_db425 86 = .ok (.iconst 0, 1) := by decide +kernel
theorem dJ0_init_db425_87 : decode cJ0_init_db425 87 = .ok (.iload 4, 2) := by decide +kernel
theorem dJ0_init_db425_89 : decode cJ0_init_db425 89 = .ok (.iconst 1, 1) := by decide +kernel
theorem dJ0_init_db425_90 : decode cJ0_init_db425 90 = .ok (.ishl, 1) := by decide +kernel
theorem dJ0_init_db425_91 : decode cJ0_init_db425 91 = .ok (.invokestatic 54, 3) := by decide +kernel
theorem dJ0_init_db425_94 : decode cJ0_init_db425 94 = .ok (.putfield 9, 3) := by decide +kernel
theorem dJ0_init_db425_97 : decode cJ0_init_db425 97 = .ok (.return_, 1) := by decide +kernel
theorem dJ0_coder_7d493_0 : decode cJ0_coder_7d493 0 = .ok (.getstatic 38, 3) := by decide +kernel
theorem dJ0_coder_7d493_3 : decode cJ0_coder_7d493 3 = .ok (.ifCond .eq 10, 3) := by decide +kernel
theorem dJ0_coder_7d493_6 : decode cJ0_coder_7d493 6 = .ok (.aload_n 0, 1) := by decide +kernel
theorem dJ0_coder_7d493_7 : decode cJ0_coder_7d493 7 = .ok (.getfield 15, 3) := by decide +kernel
theorem dJ0_coder_7d493_10 : decode cJ0_coder_7d493 10 = .ok (.goto 4, 3) := by decide +kernel
theorem dJ0_coder_7d493_13 : decode cJ0_coder_7d493 13 = .ok (.iconst 1, 1) := by decide +kernel
theorem dJ0_coder_7d493_14 : decode cJ0_coder_7d493 14 = .ok (.ireturn, 1) := by decide +kernel
theorem dJ0_isLatin1_aae02_0 : decode cJ0_isLatin1_aae02 0 = .ok (.getstatic 38, 3) := by decide +kernel
theorem dJ0_isLatin1_aae02_3 : decode cJ0_isLatin1_aae02 3 = .ok (.ifCond .eq 14, 3) := by decide +kernel
theorem dJ0_isLatin1_aae02_6 : decode cJ0_isLatin1_aae02 6 = .ok (.aload_n 0, 1) := by decide +kernel
theorem dJ0_isLatin1_aae02_7 : decode cJ0_isLatin1_aae02 7 = .ok (.getfield 15, 3) := by decide +kernel
theorem dJ0_isLatin1_aae02_10 : decode cJ0_isLatin1_aae02 10 = .ok (.ifCond .ne 7, 3) := by decide +kernel
theorem dJ0_isLatin1_aae02_13 : decode cJ0_isLatin1_aae02 13 = .ok (.iconst 1, 1) := by decide +kernel
theorem dJ0_isLatin1_aae02_14 : decode cJ0_isLatin1_aae02 14 = .ok (.goto 4, 3) := by decide +kernel
theorem dJ0_isLatin1_aae02_17 : decode cJ0_isLatin1_aae02 17 = .ok (.iconst 0, 1) := by decide +kernel
theorem dJ0_isLatin1_aae02_18 : decode cJ0_isLatin1_aae02 18 = .ok (.ireturn, 1) := by decide +kernel
theorem dJ0_checkIndex_df160_0 : decode cJ0_checkIndex_df160 0 = .ok (.iload_n 0, 1) := by decide +kernel
theorem dJ0_checkIndex_df160_1 : decode cJ0_checkIndex_df160 1 = .ok (.iload_n 1, 1) := by decide +kernel
theorem dJ0_checkIndex_df160_2 : decode cJ0_checkIndex_df160 2 = .ok (.getstatic 1053, 3) := by decide +kernel
theorem dJ0_checkIndex_df160_5 : decode cJ0_checkIndex_df160 5 = .ok (.invokestatic 1059, 3) := by decide +kernel
theorem dJ0_checkIndex_df160_8 : decode cJ0_checkIndex_df160 8 = .ok (.pop, 1) := by decide +kernel
theorem dJ0_checkIndex_df160_9 : decode cJ0_checkIndex_df160 9 = .ok (.return_, 1) := by decide +kernel
theorem dJ0_checkBoundsOffCount_cabcc_0 : decode cJ0_checkBoundsOffCount_cabcc 0 = .ok (.iload_n 0, 1) := by decide +kernel
theorem dJ0_checkBoundsOffCount_cabcc_1 : decode cJ0_checkBoundsOffCount_cabcc 1 = .ok (.iload_n 1, 1) := by decide +kernel
theorem dJ0_checkBoundsOffCount_cabcc_2 : decode cJ0_checkBoundsOffCount_cabcc 2 = .ok (.iload_n 2, 1) := by decide +kernel
theorem dJ0_checkBoundsOffCount_cabcc_3 : decode cJ0_checkBoundsOffCount_cabcc 3 = .ok (.getstatic 1053, 3) := by decide +kernel
theorem dJ0_checkBoundsOffCount_cabcc_6 : decode cJ0_checkBoundsOffCount_cabcc 6 = .ok (.invokestatic 1065, 3) := by decide +kernel
theorem dJ0_checkBoundsOffCount_cabcc_9 : decode cJ0_checkBoundsOffCount_cabcc 9 = .ok (.ireturn, 1) := by decide +kernel
theorem dJ0_checkBoundsBeginEnd_23922_0 : decode cJ0_checkBoundsBeginEnd_23922 0 = .ok (.iload_n 0, 1) := by decide +kernel
theorem dJ0_checkBoundsBeginEnd_23922_1 : decode cJ0_checkBoundsBeginEnd_23922 1 = .ok (.iload_n 1, 1) := by decide +kernel
theorem dJ0_checkBoundsBeginEnd_23922_2 : decode cJ0_checkBoundsBeginEnd_23922 2 = .ok (.iload_n 2, 1) := by decide +kernel
theorem dJ0_checkBoundsBeginEnd_23922_3 : decode cJ0_checkBoundsBeginEnd_23922 3 = .ok (.getstatic 1053, 3) := by decide +kernel
theorem dJ0_checkBoundsBeginEnd_23922_6 : decode cJ0_checkBoundsBeginEnd_23922 6 = .ok (.invokestatic 1062, 3) := by decide +kernel
theorem dJ0_checkBoundsBeginEnd_23922_9 : decode cJ0_checkBoundsBeginEnd_23922 9 = .ok (.pop, 1) := by decide +kernel
theorem dJ0_checkBoundsBeginEnd_23922_10 : decode cJ0_checkBoundsBeginEnd_23922 10 = .ok (.return_, 1) := by decide +kernel
theorem dJ4_init_da8c8_0 : decode cJ4_init_da8c8 0 = .ok (.aload_n 0, 1) := by decide +kernel
theorem dJ4_init_da8c8_1 : decode cJ4_init_da8c8 1 = .ok (.bipush 16, 2) := by decide +kernel
theorem dJ4_init_da8c8_3 : decode cJ4_init_da8c8 3 = .ok (.invokespecial 1, 3) := by decide +kernel
theorem dJ4_init_da8c8_6 : decode cJ4_init_da8c8 6 = .ok (.return_, 1) := by decide +kernel
theorem dJ4_append_15ec4_0 : decode cJ4_append_15ec4 0 = .ok (.aload_n 0, 1) := by decide +kernel
theorem dJ4_append_15ec4_1 : decode cJ4_append_15ec4 1 = .ok (.aload_n 1, 1) := by decide +kernel
theorem dJ4_append_15ec4_2 : decode cJ4_append_15ec4 2 = .ok (.invokespecial 29, 3) := by decide +kernel
theorem dJ4_append_15ec4_5 : decode cJ4_append_15ec4 5 = .ok (.pop, 1) := by decide +kernel
theorem dJ4_append_15ec4_6 : decode cJ4_append_15ec4 6 = .ok (.aload_n 0, 1) := by decide +kernel
theorem dJ4_append_15ec4_7 : decode cJ4_append_15ec4 7 = .ok (.areturn, 1) := by decide +kernel
theorem dJ4_append_bf812_0 : decode cJ4_append_bf812 0 = .ok (.aload_n 0, 1) := by decide +kernel
theorem dJ4_append_bf812_1 : decode cJ4_append_bf812 1 = .ok (.iload_n 1, 1) := by decide +kernel
theorem dJ4_append_bf812_2 : decode cJ4_append_bf812 2 = .ok (.invokespecial 53, 3) := by decide +kernel
theorem dJ4_append_bf812_5 : decode cJ4_append_bf812 5 = .ok (.pop, 1) := by decide +kernel
theorem dJ4_append_bf812_6 : decode cJ4_append_bf812 6 = .ok (.aload_n 0, 1) := by decide +kernel
theorem dJ4_append_bf812_7 : decode cJ4_append_bf812 7 = .ok (.areturn, 1) := by decide +kernel
theorem dJ4_toString_0e30d_0 : decode cJ4_toString_0e30d 0 = .ok (.new 18, 3) := by decide +kernel
theorem dJ4_toString_0e30d_3 : decode cJ4_toString_0e30d 3 = .ok (.dup, 1) := by decide +kernel
theorem dJ4_toString_0e30d_4 : decode cJ4_toString_0e30d 4 = .ok (.aload_n 0, 1) := by decide +kernel
theorem dJ4_toString_0e30d_5 : decode cJ4_toString_0e30d 5 = .ok (.invokespecial 137, 3) := by decide +kernel
theorem dJ4_toString_0e30d_8 : decode cJ4_toString_0e30d 8 = .ok (.areturn, 1) := by decide +kernel
theorem dJ4_length_8abf5_0 : decode cJ4_length_8abf5 0 = .ok (.aload_n 0, 1) := by decide +kernel
theorem dJ4_length_8abf5_1 : decode cJ4_length_8abf5 1 = .ok (.invokespecial 343, 3) := by decide +kernel
theorem dJ4_length_8abf5_4 : decode cJ4_length_8abf5 4 = .ok (.ireturn, 1) := by decide +kernel
theorem dJ1_charAt_3b067_0 : decode cJ1_charAt_3b067 0 = .ok (.iload_n 1, 1) := by decide +kernel
theorem dJ1_charAt_3b067_1 : decode cJ1_charAt_3b067 1 = .ok (.aload_n 0, 1) := by decide +kernel
theorem dJ1_charAt_3b067_2 : decode cJ1_charAt_3b067 2 = .ok (.arraylength, 1) := by decide +kernel
theorem dJ1_charAt_3b067_3 : decode cJ1_charAt_3b067 3 = .ok (.invokestatic 9, 3) := by decide +kernel
theorem dJ1_charAt_3b067_6 : decode cJ1_charAt_3b067 6 = .ok (.aload_n 0, 1) := by decide +kernel
theorem dJ1_charAt_3b067_7 : decode cJ1_charAt_3b067 7 = .ok (.iload_n 1, 1) := by decide +kernel
theorem dJ1_charAt_3b067_8 : decode cJ1_charAt_3b067 8 = .ok (.baload, 1) := by decide +kernel
theorem dJ1_charAt_3b067_9 : decode cJ1_charAt_3b067 9 = .ok (.sipush 255, 3) := by decide +kernel
theorem dJ1_charAt_3b067_12 : decode cJ1_charAt_3b067 12 = .ok (.iand, 1) := by decide +kernel
theorem dJ1_charAt_3b067_13 : decode cJ1_charAt_3b067 13 = .ok (.i2c, 1) := by decide +kernel
theorem dJ1_charAt_3b067_14 : decode cJ1_charAt_3b067 14 = .ok (.ireturn, 1) := by decide +kernel
theorem dJ1_inflate_0e8fd_0 : decode cJ1_inflate_0e8fd 0 = .ok (.aload_n 0, 1) := by decide +kernel
theorem dJ1_inflate_0e8fd_1 : decode cJ1_inflate_0e8fd 1 = .ok (.iload_n 1, 1) := by decide +kernel
theorem dJ1_inflate_0e8fd_2 : decode cJ1_inflate_0e8fd 2 = .ok (.aload_n 2, 1) := by decide +kernel
theorem dJ1_inflate_0e8fd_3 : decode cJ1_inflate_0e8fd 3 = .ok (.iload_n 3, 1) := by decide +kernel
theorem dJ1_inflate_0e8fd_4 : decode cJ1_inflate_0e8fd 4 = .ok (.iload 4, 2) := by decide +kernel
theorem dJ1_inflate_0e8fd_6 : decode cJ1_inflate_0e8fd 6 = .ok (.invokestatic 240, 3) := by decide +kernel
theorem dJ1_inflate_0e8fd_9 : decode cJ1_inflate_0e8fd 9 = .ok (.return_, 1) := by decide +kernel
theorem dJ7_copyOf_9075b_0 : decode cJ7_copyOf_9075b 0 = .ok (.iload_n 1, 1) := by decide +kernel
theorem dJ7_copyOf_9075b_1 : decode cJ7_copyOf_9075b 1 = .ok (.aload_n 0, 1) := by decide +kernel
theorem dJ7_copyOf_9075b_2 : decode cJ7_copyOf_9075b 2 = .ok (.arraylength, 1) := by decide +kernel
theorem dJ7_copyOf_9075b_3 : decode cJ7_copyOf_9075b 3 = .ok (.if_icmp .ne 11, 3) := by decide +kernel
theorem dJ7_copyOf_9075b_6 : decode cJ7_copyOf_9075b 6 = .ok (.aload_n 0, 1) := by decide +kernel
theorem dJ7_copyOf_9075b_7 : decode cJ7_copyOf_9075b 7 = .ok (.invokevirtual 310, 3) := by decide +kernel
theorem dJ7_copyOf_9075b_10 : decode cJ7_copyOf_9075b 10 = .ok (.checkcast 311, 3) := by decide +kernel
theorem dJ7_copyOf_9075b_13 : decode cJ7_copyOf_9075b 13 = .ok (.areturn, 1) := by decide +kernel
theorem dJ7_copyOf_9075b_14 : decode cJ7_copyOf_9075b 14 = .ok (.iload_n 1, 1) := by decide +kernel
theorem dJ7_copyOf_9075b_15 : decode cJ7_copyOf_9075b 15 = .ok (.newarray .byte, 2) := by decide +kernel
theorem dJ7_copyOf_9075b_17 : decode cJ7_copyOf_9075b 17 = .ok (.astore_n 2, 1) := by decide +kernel
theorem dJ7_copyOf_9075b_18 : decode cJ7_copyOf_9075b 18 = .ok (.aload_n 0, 1) := by decide +kernel
theorem dJ7_copyOf_9075b_19 : decode cJ7_copyOf_9075b 19 = .ok (.iconst 0, 1) := by decide +kernel
theorem dJ7_copyOf_9075b_20 : decode cJ7_copyOf_9075b 20 = .ok (.aload_n 2, 1) := by decide +kernel
theorem dJ7_copyOf_9075b_21 : decode cJ7_copyOf_9075b 21 = .ok (.iconst 0, 1) := by decide +kernel
theorem dJ7_copyOf_9075b_22 : decode cJ7_copyOf_9075b 22 = .ok (.aload_n 0, 1) := by decide +kernel
theorem dJ7_copyOf_9075b_23 : decode cJ7_copyOf_9075b 23 = .ok (.arraylength, 1) := by decide +kernel
theorem dJ7_copyOf_9075b_24 : decode cJ7_copyOf_9075b 24 = .ok (.iload_n 1, 1) := by decide +kernel
theorem dJ7_copyOf_9075b_25 : decode cJ7_copyOf_9075b 25 = .ok (.invokestatic 304, 3) := by decide +kernel
theorem dJ7_copyOf_9075b_28 : decode cJ7_copyOf_9075b 28 = .ok (.invokestatic 150, 3) := by decide +kernel
theorem dJ7_copyOf_9075b_31 : decode cJ7_copyOf_9075b 31 = .ok (.aload_n 2, 1) := by decide +kernel
theorem dJ7_copyOf_9075b_32 : decode cJ7_copyOf_9075b 32 = .ok (.areturn, 1) := by decide +kernel
theorem dJ7_checkLength_df160_0 : decode cJ7_checkLength_df160 0 = .ok (.iload_n 1, 1) := by decide +kernel
theorem dJ7_checkLength_df160_1 : decode cJ7_checkLength_df160 1 = .ok (.iload_n 0, 1) := by decide +kernel
theorem dJ7_checkLength_df160_2 : decode cJ7_checkLength_df160 2 = .ok (.if_icmp .ge 35, 3) := by decide +kernel
theorem dJ7_checkLength_df160_5 : decode cJ7_checkLength_df160 5 = .ok (.new 43, 3) := by decide +kernel
theorem dJ7_checkLength_df160_8 : decode cJ7_checkLength_df160 8 = .ok (.dup, 1) := by decide +kernel
theorem dJ7_checkLength_df160_9 : decode cJ7_checkLength_df160 9 = .ok (.new 45, 3) := by decide +kernel
theorem dJ7_checkLength_df160_12 : decode cJ7_checkLength_df160 12 = .ok (.dup, 1) := by decide +kernel
theorem dJ7_checkLength_df160_13 : decode cJ7_checkLength_df160 13 = .ok (.invokespecial 47, 3) := by decide +kernel
theorem dJ7_checkLength_df160_16 : decode cJ7_checkLength_df160 16 = .ok (.iload_n 0, 1) := by decide +kernel
theorem dJ7_checkLength_df160_17 : decode cJ7_checkLength_df160 17 = .ok (.invokevirtual 54, 3) := by decide +kernel
theorem dJ7_checkLength_df160_20 : decode cJ7_checkLength_df160 20 = .ok (.ldc_w 337, 3) := by decide +kernel
theorem dJ7_checkLength_df160_23 : decode cJ7_checkLength_df160 23 = .ok (.invokevirtual 50, 3) := by decide +kernel
theorem dJ7_checkLength_df160_26 : decode cJ7_checkLength_df160 26 = .ok (.iload_n 1, 1) := by decide +kernel
theorem dJ7_checkLength_df160_27 : decode cJ7_checkLength_df160 27 = .ok (.invokevirtual 54, 3) := by decide +kernel
theorem dJ7_checkLength_df160_30 : decode cJ7_checkLength_df160 30 = .ok (.invokevirtual 61, 3) := by decide +kernel
theorem dJ7_checkLength_df160_33 : decode cJ7_checkLength_df160 33 = .ok (.invokespecial 65, 3) := by decide +kernel
theorem dJ7_checkLength_df160_36 : decode cJ7_checkLength_df160 36 = .ok (.athrow, 1) := by decide +kernel
theorem dJ7_checkLength_df160_37 : decode cJ7_checkLength_df160 37 = .ok (.return_, 1) := by decide +kernel
theorem dJ7_copyOfRange_39247_0 : decode cJ7_copyOfRange_39247 0 = .ok (.iload_n 1, 1) := by decide +kernel
theorem dJ7_copyOfRange_39247_1 : decode cJ7_copyOfRange_39247 1 = .ok (.ifCond .ne 9, 3) := by decide +kernel
theorem dJ7_copyOfRange_39247_4 : decode cJ7_copyOfRange_39247 4 = .ok (.iload_n 2, 1) := by decide +kernel
theorem dJ7_copyOfRange_39247_5 : decode cJ7_copyOfRange_39247 5 = .ok (.aload_n 0, 1) := by decide +kernel
theorem dJ7_copyOfRange_39247_6 : decode cJ7_copyOfRange_39247 6 = .ok (.arraylength, 1) := by decide +kernel
theorem dJ7_copyOfRange_39247_7 : decode cJ7_copyOfRange_39247 7 = .ok (.if_icmp .eq 10, 3) := by decide +kernel
theorem dJ7_copyOfRange_39247_10 : decode cJ7_copyOfRange_39247 10 = .ok (.aload_n 0, 1) := by decide +kernel
theorem dJ7_copyOfRange_39247_11 : decode cJ7_copyOfRange_39247 11 = .ok (.iload_n 1, 1) := by decide +kernel
theorem dJ7_copyOfRange_39247_12 : decode cJ7_copyOfRange_39247 12 = .ok (.iload_n 2, 1) := by decide +kernel
theorem dJ7_copyOfRange_39247_13 : decode cJ7_copyOfRange_39247 13 = .ok (.invokestatic 339, 3) := by decide +kernel
theorem dJ7_copyOfRange_39247_16 : decode cJ7_copyOfRange_39247 16 = .ok (.areturn, 1) := by decide +kernel
theorem dJ7_copyOfRange_39247_17 : decode cJ7_copyOfRange_39247 17 = .ok (.aload_n 0, 1) := by decide +kernel
theorem dJ7_copyOfRange_39247_18 : decode cJ7_copyOfRange_39247 18 = .ok (.invokevirtual 310, 3) := by decide +kernel
theorem dJ7_copyOfRange_39247_21 : decode cJ7_copyOfRange_39247 21 = .ok (.checkcast 311, 3) := by decide +kernel
theorem dJ7_copyOfRange_39247_24 : decode cJ7_copyOfRange_39247 24 = .ok (.areturn, 1) := by decide +kernel
theorem dJ7_copyOfRangeByte_39247_0 : decode cJ7_copyOfRangeByte_39247 0 = .ok (.iload_n 1, 1) := by decide +kernel
theorem dJ7_copyOfRangeByte_39247_1 : decode cJ7_copyOfRangeByte_39247 1 = .ok (.iload_n 2, 1) := by decide +kernel
theorem dJ7_copyOfRangeByte_39247_2 : decode cJ7_copyOfRangeByte_39247 2 = .ok (.invokestatic 343, 3) := by decide +kernel
theorem dJ7_copyOfRangeByte_39247_5 : decode cJ7_copyOfRangeByte_39247 5 = .ok (.iload_n 2, 1) := by decide +kernel
theorem dJ7_copyOfRangeByte_39247_6 : decode cJ7_copyOfRangeByte_39247 6 = .ok (.iload_n 1, 1) := by decide +kernel
theorem dJ7_copyOfRangeByte_39247_7 : decode cJ7_copyOfRangeByte_39247 7 = .ok (.isub, 1) := by decide +kernel
theorem dJ7_copyOfRangeByte_39247_8 : decode cJ7_copyOfRangeByte_39247 8 = .ok (.istore_n 3, 1) := by decide +kernel
theorem dJ7_copyOfRangeByte_39247_9 : decode cJ7_copyOfRangeByte_39247 9 = .ok (.iload_n 3, 1) := by decide +kernel
theorem dJ7_copyOfRangeByte_39247_10 : decode cJ7_copyOfRangeByte_39247 10 = .ok (.newarray .byte, 2) := by decide +kernel
theorem dJ7_copyOfRangeByte_39247_12 : decode cJ7_copyOfRangeByte_39247 12 = .ok (.astore 4, 2) := by decide +kernel
theorem dJ7_copyOfRangeByte_39247_14 : decode cJ7_copyOfRangeByte_39247 14 = .ok (.aload_n 0, 1) := by decide +kernel
theorem dJ7_copyOfRangeByte_39247_15 : decode cJ7_copyOfRangeByte_39247 15 = .ok (.iload_n 1, 1) := by decide +kernel
theorem dJ7_copyOfRangeByte_39247_16 : decode cJ7_copyOfRangeByte_39247 16 = .ok (.aload 4, 2) := by decide +kernel
theorem dJ7_copyOfRangeByte_39247_18 : decode cJ7_copyOfRangeByte_39247 18 = .ok (.iconst 0, 1) := by decide +kernel
theorem dJ7_copyOfRangeByte_39247_19 : decode cJ7_copyOfRangeByte_39247 19 = .ok (.aload_n 0, 1) := by decide +kernel
theorem dJ7_copyOfRangeByte_39247_20 : decode cJ7_copyOfRangeByte_39247 20 = .ok (.arraylength, 1) := by decide +kernel
theorem dJ7_copyOfRangeByte_39247_21 : decode cJ7_copyOfRangeByte_39247 21 = .ok (.iload_n 1, 1) := by decide +kernel
theorem dJ7_copyOfRangeByte_39247_22 : decode cJ7_copyOfRangeByte_39247 22 = .ok (.isub, 1) := by decide +kernel
theorem dJ7_copyOfRangeByte_39247_23 : decode cJ7_copyOfRangeByte_39247 23 = .ok (.iload_n 3, 1) := by decide +kernel
theorem dJ7_copyOfRangeByte_39247_24 : decode cJ7_copyOfRangeByte_39247 24 = .ok (.invokestatic 304, 3) := by decide +kernel
theorem dJ7_copyOfRangeByte_39247_27 : decode cJ7_copyOfRangeByte_39247 27 = .ok (.invokestatic 150, 3) := by decide +kernel
theorem dJ7_copyOfRangeByte_39247_30 : decode cJ7_copyOfRangeByte_39247 30 = .ok (.aload 4, 2) := by decide +kernel
theorem dJ7_copyOfRangeByte_39247_32 : decode cJ7_copyOfRangeByte_39247 32 = .ok (.areturn, 1) := by decide +kernel
theorem dJ8_newLength_cabcc_0 : decode cJ8_newLength_cabcc 0 = .ok (.iload_n 0, 1) := by decide +kernel
theorem dJ8_newLength_cabcc_1 : decode cJ8_newLength_cabcc 1 = .ok (.iload_n 1, 1) := by decide +kernel
theorem dJ8_newLength_cabcc_2 : decode cJ8_newLength_cabcc 2 = .ok (.iload_n 2, 1) := by decide +kernel
theorem dJ8_newLength_cabcc_3 : decode cJ8_newLength_cabcc 3 = .ok (.invokestatic 194, 3) := by decide +kernel
theorem dJ8_newLength_cabcc_6 : decode cJ8_newLength_cabcc 6 = .ok (.iadd, 1) := by decide +kernel
theorem dJ8_newLength_cabcc_7 : decode cJ8_newLength_cabcc 7 = .ok (.istore_n 3, 1) := by decide +kernel
theorem dJ8_newLength_cabcc_8 : decode cJ8_newLength_cabcc 8 = .ok (.iconst 0, 1) := by decide +kernel
theorem dJ8_newLength_cabcc_9 : decode cJ8_newLength_cabcc 9 = .ok (.iload_n 3, 1) := by decide +kernel
theorem dJ8_newLength_cabcc_10 : decode cJ8_newLength_cabcc 10 = .ok (.if_icmp .ge 11, 3) := by decide +kernel
theorem dJ8_newLength_cabcc_13 : decode cJ8_newLength_cabcc 13 = .ok (.iload_n 3, 1) := by decide +kernel
theorem dJ8_newLength_cabcc_14 : decode cJ8_newLength_cabcc 14 = .ok (.ldc 200, 2) := by decide +kernel
theorem dJ8_newLength_cabcc_16 : decode cJ8_newLength_cabcc 16 = .ok (.if_icmp .gt 5, 3) := by decide +kernel
theorem dJ8_newLength_cabcc_19 : decode cJ8_newLength_cabcc 19 = .ok (.iload_n 3, 1) := by decide +kernel
theorem dJ8_newLength_cabcc_20 : decode cJ8_newLength_cabcc 20 = .ok (.ireturn, 1) := by decide +kernel
theorem dJ8_newLength_cabcc_21 : decode cJ8_newLength_cabcc 21 = .ok (.iload_n 0, 1) := by decide +kernel
theorem dJ8_newLength_cabcc_22 : decode cJ8_newLength_cabcc 22 = .ok (.iload_n 1, 1) := by decide +kernel
theorem dJ8_newLength_cabcc_23 : decode cJ8_newLength_cabcc 23 = .ok (.invokestatic 201, 3) := by decide +kernel
theorem dJ8_newLength_cabcc_26 : decode cJ8_newLength_cabcc 26 = .ok (.ireturn, 1) := by decide +kernel
theorem dJ8_hugeLength_7cf53_0 : decode cJ8_hugeLength_7cf53 0 = .ok (.iload_n 0, 1) := by decide +kernel
theorem dJ8_hugeLength_7cf53_1 : decode cJ8_hugeLength_7cf53 1 = .ok (.iload_n 1, 1) := by decide +kernel
theorem dJ8_hugeLength_7cf53_2 : decode cJ8_hugeLength_7cf53 2 = .ok (.iadd, 1) := by decide +kernel
theorem dJ8_hugeLength_7cf53_3 : decode cJ8_hugeLength_7cf53 3 = .ok (.istore_n 2, 1) := by decide +kernel
theorem dJ8_hugeLength_7cf53_4 : decode cJ8_hugeLength_7cf53 4 = .ok (.iload_n 2, 1) := by decide +kernel
theorem dJ8_hugeLength_7cf53_5 : decode cJ8_hugeLength_7cf53 5 = .ok (.ifCond .ge 44, 3) := by decide +kernel
theorem dJ8_hugeLength_7cf53_8 : decode cJ8_hugeLength_7cf53 8 = .ok (.new 204, 3) := by decide +kernel
theorem dJ8_hugeLength_7cf53_11 : decode cJ8_hugeLength_7cf53 11 = .ok (.dup, 1) := by decide +kernel
theorem dJ8_hugeLength_7cf53_12 : decode cJ8_hugeLength_7cf53 12 = .ok (.new 89, 3) := by decide +kernel
theorem dJ8_hugeLength_7cf53_15 : decode cJ8_hugeLength_7cf53 15 = .ok (.dup, 1) := by decide +kernel
theorem dJ8_hugeLength_7cf53_16 : decode cJ8_hugeLength_7cf53 16 = .ok (.invokespecial 91, 3) := by decide +kernel
theorem dJ8_hugeLength_7cf53_19 : decode cJ8_hugeLength_7cf53 19 = .ok (.ldc 206, 2) := by decide +kernel
theorem dJ8_hugeLength_7cf53_21 : decode cJ8_hugeLength_7cf53 21 = .ok (.invokevirtual 94, 3) := by decide +kernel
theorem dJ8_hugeLength_7cf53_24 : decode cJ8_hugeLength_7cf53 24 = .ok (.iload_n 0, 1) := by decide +kernel
theorem dJ8_hugeLength_7cf53_25 : decode cJ8_hugeLength_7cf53 25 = .ok (.invokevirtual 98, 3) := by decide +kernel
theorem dJ8_hugeLength_7cf53_28 : decode cJ8_hugeLength_7cf53 28 = .ok (.ldc 208, 2) := by decide +kernel
theorem dJ8_hugeLength_7cf53_30 : decode cJ8_hugeLength_7cf53 30 = .ok (.invokevirtual 94, 3) := by decide +kernel
theorem dJ8_hugeLength_7cf53_33 : decode cJ8_hugeLength_7cf53 33 = .ok (.iload_n 1, 1) := by decide +kernel
theorem dJ8_hugeLength_7cf53_34 : decode cJ8_hugeLength_7cf53 34 = .ok (.invokevirtual 98, 3) := by decide +kernel
theorem dJ8_hugeLength_7cf53_37 : decode cJ8_hugeLength_7cf53 37 = .ok (.ldc 210, 2) := by decide +kernel
theorem dJ8_hugeLength_7cf53_39 : decode cJ8_hugeLength_7cf53 39 = .ok (.invokevirtual 94, 3) := by decide +kernel
theorem dJ8_hugeLength_7cf53_42 : decode cJ8_hugeLength_7cf53 42 = .ok (.invokevirtual 101, 3) := by decide +kernel
theorem dJ8_hugeLength_7cf53_45 : decode cJ8_hugeLength_7cf53 45 = .ok (.invokespecial 212, 3) := by decide +kernel
theorem dJ8_hugeLength_7cf53_48 : decode cJ8_hugeLength_7cf53 48 = .ok (.athrow, 1) := by decide +kernel
theorem dJ8_hugeLength_7cf53_49 : decode cJ8_hugeLength_7cf53 49 = .ok (.iload_n 2, 1) := by decide +kernel
theorem dJ8_hugeLength_7cf53_50 : decode cJ8_hugeLength_7cf53 50 = .ok (.ldc 200, 2) := by decide +kernel
theorem dJ8_hugeLength_7cf53_52 : decode cJ8_hugeLength_7cf53 52 = .ok (.if_icmp .gt 6, 3) := by decide +kernel
theorem dJ8_hugeLength_7cf53_55 : decode cJ8_hugeLength_7cf53 55 = .ok (.ldc 200, 2) := by decide +kernel
theorem dJ8_hugeLength_7cf53_57 : decode cJ8_hugeLength_7cf53 57 = .ok (.ireturn, 1) := by decide +kernel
theorem dJ8_hugeLength_7cf53_58 : decode cJ8_hugeLength_7cf53 58 = .ok (.iload_n 2, 1) := by decide +kernel
theorem dJ8_hugeLength_7cf53_59 : decode cJ8_hugeLength_7cf53 59 = .ok (.ireturn, 1) := by decide +kernel
theorem dJ3_checkIndex_8e157_0 : decode cJ3_checkIndex_8e157 0 = .ok (.iload_n 0, 1) := by decide +kernel
theorem dJ3_checkIndex_8e157_1 : decode cJ3_checkIndex_8e157 1 = .ok (.ifCond .lt 8, 3) := by decide +kernel
theorem dJ3_checkIndex_8e157_4 : decode cJ3_checkIndex_8e157 4 = .ok (.iload_n 0, 1) := by decide +kernel
theorem dJ3_checkIndex_8e157_5 : decode cJ3_checkIndex_8e157 5 = .ok (.iload_n 1, 1) := by decide +kernel
theorem dJ3_checkIndex_8e157_6 : decode cJ3_checkIndex_8e157 6 = .ok (.if_icmp .lt 10, 3) := by decide +kernel
theorem dJ3_checkIndex_8e157_9 : decode cJ3_checkIndex_8e157 9 = .ok (.aload_n 2, 1) := by decide +kernel
theorem dJ3_checkIndex_8e157_10 : decode cJ3_checkIndex_8e157 10 = .ok (.iload_n 0, 1) := by decide +kernel
theorem dJ3_checkIndex_8e157_11 : decode cJ3_checkIndex_8e157 11 = .ok (.iload_n 1, 1) := by decide +kernel
theorem dJ3_checkIndex_8e157_12 : decode cJ3_checkIndex_8e157 12 = .ok (.invokestatic 95, 3) := by decide +kernel
theorem dJ3_checkIndex_8e157_15 : decode cJ3_checkIndex_8e157 15 = .ok (.athrow, 1) := by decide +kernel
theorem dJ3_checkIndex_8e157_16 : decode cJ3_checkIndex_8e157 16 = .ok (.iload_n 0, 1) := by decide +kernel
theorem dJ3_checkIndex_8e157_17 : decode cJ3_checkIndex_8e157 17 = .ok (.ireturn, 1) := by decide +kernel
theorem dJ3_checkFromToIndex_8c36e_0 : decode cJ3_checkFromToIndex_8c36e 0 = .ok (.iload_n 0, 1) := by decide +kernel
theorem dJ3_checkFromToIndex_8c36e_1 : decode cJ3_checkFromToIndex_8c36e 1 = .ok (.ifCond .lt 13, 3) := by decide +kernel
theorem dJ3_checkFromToIndex_8c36e_4 : decode cJ3_checkFromToIndex_8c36e 4 = .ok (.iload_n 0, 1) := by decide +kernel
theorem dJ3_checkFromToIndex_8c36e_5 : decode cJ3_checkFromToIndex_8c36e 5 = .ok (.iload_n 1, 1) := by decide +kernel
theorem dJ3_checkFromToIndex_8c36e_6 : decode cJ3_checkFromToIndex_8c36e 6 = .ok (.if_icmp .gt 8, 3) := by decide +kernel
theorem dJ3_checkFromToIndex_8c36e_9 : decode cJ3_checkFromToIndex_8c36e 9 = .ok (.iload_n 1, 1) := by decide +kernel
theorem dJ3_checkFromToIndex_8c36e_10 : decode cJ3_checkFromToIndex_8c36e 10 = .ok (.iload_n 2, 1) := by decide +kernel
theorem dJ3_checkFromToIndex_8c36e_11 : decode cJ3_checkFromToIndex_8c36e 11 = .ok (.if_icmp .le 11, 3) := by decide +kernel
theorem dJ3_checkFromToIndex_8c36e_14 : decode cJ3_checkFromToIndex_8c36e 14 = .ok (.aload_n 3, 1) := by decide +kernel
theorem dJ3_checkFromToIndex_8c36e_15 : decode cJ3_checkFromToIndex_8c36e 15 = .ok (.iload_n 0, 1) := by decide +kernel
theorem dJ3_checkFromToIndex_8c36e_16 : decode cJ3_checkFromToIndex_8c36e 16 = .ok (.iload_n 1, 1) := by decide +kernel
theorem dJ3_checkFromToIndex_8c36e_17 : decode cJ3_checkFromToIndex_8c36e 17 = .ok (.iload_n 2, 1) := by decide +kernel
theorem dJ3_checkFromToIndex_8c36e_18 : decode cJ3_checkFromToIndex_8c36e 18 = .ok (.invokestatic 99, 3) := by decide +kernel
theorem dJ3_checkFromToIndex_8c36e_21 : decode cJ3_checkFromToIndex_8c36e 21 = .ok (.athrow, 1) := by decide +kernel
theorem dJ3_checkFromToIndex_8c36e_22 : decode cJ3_checkFromToIndex_8c36e 22 = .ok (.iload_n 0, 1) := by decide +kernel
theorem dJ3_checkFromToIndex_8c36e_23 : decode cJ3_checkFromToIndex_8c36e 23 = .ok (.ireturn, 1) := by decide +kernel
theorem dJ3_checkFromIndexSize_8c36e_0 : decode cJ3_checkFromIndexSize_8c36e 0 = .ok (.iload_n 2, 1) := by decide +kernel
theorem dJ3_checkFromIndexSize_8c36e_1 : decode cJ3_checkFromIndexSize_8c36e 1 = .ok (.iload_n 0, 1) := by decide +kernel
theorem dJ3_checkFromIndexSize_8c36e_2 : decode cJ3_checkFromIndexSize_8c36e 2 = .ok (.ior, 1) := by decide +kernel
theorem dJ3_checkFromIndexSize_8c36e_3 : decode cJ3_checkFromIndexSize_8c36e 3 = .ok (.iload_n 1, 1) := by decide +kernel
theorem dJ3_checkFromIndexSize_8c36e_4 : decode cJ3_checkFromIndexSize_8c36e 4 = .ok (.ior, 1) := by decide +kernel
theorem dJ3_checkFromIndexSize_8c36e_5 : decode cJ3_checkFromIndexSize_8c36e 5 = .ok (.ifCond .lt 10, 3) := by decide +kernel
theorem dJ3_checkFromIndexSize_8c36e_8 : decode cJ3_checkFromIndexSize_8c36e 8 = .ok (.iload_n 1, 1) := by decide +kernel
theorem dJ3_checkFromIndexSize_8c36e_9 : decode cJ3_checkFromIndexSize_8c36e 9 = .ok (.iload_n 2, 1) := by decide +kernel
theorem dJ3_checkFromIndexSize_8c36e_10 : decode cJ3_checkFromIndexSize_8c36e 10 = .ok (.iload_n 0, 1) := by decide +kernel
theorem dJ3_checkFromIndexSize_8c36e_11 : decode cJ3_checkFromIndexSize_8c36e 11 = .ok (.isub, 1) := by decide +kernel
theorem dJ3_checkFromIndexSize_8c36e_12 : decode cJ3_checkFromIndexSize_8c36e 12 = .ok (.if_icmp .le 11, 3) := by decide +kernel
theorem dJ3_checkFromIndexSize_8c36e_15 : decode cJ3_checkFromIndexSize_8c36e 15 = .ok (.aload_n 3, 1) := by decide +kernel
theorem dJ3_checkFromIndexSize_8c36e_16 : decode cJ3_checkFromIndexSize_8c36e 16 = .ok (.iload_n 0, 1) := by decide +kernel
theorem dJ3_checkFromIndexSize_8c36e_17 : decode cJ3_checkFromIndexSize_8c36e 17 = .ok (.iload_n 1, 1) := by decide +kernel
theorem dJ3_checkFromIndexSize_8c36e_18 : decode cJ3_checkFromIndexSize_8c36e 18 = .ok (.iload_n 2, 1) := by decide +kernel
theorem dJ3_checkFromIndexSize_8c36e_19 : decode cJ3_checkFromIndexSize_8c36e 19 = .ok (.invokestatic 103, 3) := by decide +kernel
theorem dJ3_checkFromIndexSize_8c36e_22 : decode cJ3_checkFromIndexSize_8c36e 22 = .ok (.athrow, 1) := by decide +kernel
theorem dJ3_checkFromIndexSize_8c36e_23 : decode cJ3_checkFromIndexSize_8c36e 23 = .ok (.iload_n 0, 1) := by decide +kernel
theorem dJ3_checkFromIndexSize_8c36e_24 : decode cJ3_checkFromIndexSize_8c36e 24 = .ok (.ireturn, 1) := by decide +kernel
theorem dL_at_0 : decode cL_at 0 = .ok (.iload_n 1, 1) := by decide +kernel
theorem dL_at_1 : decode cL_at 1 = .ok (.aload_n 0, 1) := by decide +kernel
theorem dL_at_2 : decode cL_at 2 = .ok (.arraylength, 1) := by decide +kernel
theorem dL_at_3 : decode cL_at 3 = .ok (.if_icmp .ge 9, 3) := by decide +kernel
theorem dL_at_6 : decode cL_at 6 = .ok (.aload_n 0, 1) := by decide +kernel
theorem dL_at_7 : decode cL_at 7 = .ok (.iload_n 1, 1) := by decide +kernel
theorem dL_at_8 : decode cL_at 8 = .ok (.iaload, 1) := by decide +kernel
theorem dL_at_9 : decode cL_at 9 = .ok (.goto 4, 3) := by decide +kernel
theorem dL_at_12 : decode cL_at 12 = .ok (.iconst 0, 1) := by decide +kernel
theorem dL_at_13 : decode cL_at 13 = .ok (.ireturn, 1) := by decide +kernel
theorem dL_put_0 : decode cL_put 0 = .ok (.iconst 0, 1) := by decide +kernel
theorem dL_put_1 : decode cL_put 1 = .ok (.istore_n 2, 1) := by decide +kernel
theorem dL_put_2 : decode cL_put 2 = .ok (.iload_n 2, 1) := by decide +kernel
theorem dL_put_3 : decode cL_put 3 = .ok (.aload_n 1, 1) := by decide +kernel
theorem dL_put_4 : decode cL_put 4 = .ok (.invokevirtual 7, 3) := by decide +kernel
theorem dL_put_7 : decode cL_put 7 = .ok (.if_icmp .ge 19, 3) := by decide +kernel
theorem dL_put_10 : decode cL_put 10 = .ok (.aload_n 0, 1) := by decide +kernel
theorem dL_put_11 : decode cL_put 11 = .ok (.aload_n 1, 1) := by decide +kernel
theorem dL_put_12 : decode cL_put 12 = .ok (.iload_n 2, 1) := by decide +kernel
theorem dL_put_13 : decode cL_put 13 = .ok (.invokevirtual 13, 3) := by decide +kernel
theorem dL_put_16 : decode cL_put 16 = .ok (.invokevirtual 17, 3) := by decide +kernel
theorem dL_put_19 : decode cL_put 19 = .ok (.pop, 1) := by decide +kernel
theorem dL_put_20 : decode cL_put 20 = .ok (.iinc 2 1, 3) := by decide +kernel
theorem dL_put_23 : decode cL_put 23 = .ok (.goto (-21), 3) := by decide +kernel
theorem dL_put_26 : decode cL_put 26 = .ok (.return_, 1) := by decide +kernel
theorem dL_build_0 : decode cL_build 0 = .ok (.new 18, 3) := by decide +kernel
theorem dL_build_3 : decode cL_build 3 = .ok (.dup, 1) := by decide +kernel
theorem dL_build_4 : decode cL_build 4 = .ok (.invokespecial 23, 3) := by decide +kernel
theorem dL_build_7 : decode cL_build 7 = .ok (.astore_n 1, 1) := by decide +kernel
theorem dL_build_8 : decode cL_build 8 = .ok (.aload_n 1, 1) := by decide +kernel
theorem dL_build_9 : decode cL_build 9 = .ok (.iconst 5, 1) := by decide +kernel
theorem dL_build_10 : decode cL_build 10 = .ok (.aload_n 0, 1) := by decide +kernel
theorem dL_build_11 : decode cL_build 11 = .ok (.iconst 0, 1) := by decide +kernel
theorem dL_build_12 : decode cL_build 12 = .ok (.invokestatic 24, 3) := by decide +kernel
theorem dL_build_15 : decode cL_build 15 = .ok (.iconst 3, 1) := by decide +kernel
theorem dL_build_16 : decode cL_build 16 = .ok (.iand, 1) := by decide +kernel
theorem dL_build_17 : decode cL_build 17 = .ok (.iconst 3, 1) := by decide +kernel
theorem dL_build_18 : decode cL_build 18 = .ok (.irem, 1) := by decide +kernel
theorem dL_build_19 : decode cL_build 19 = .ok (.iconst 0, 1) := by decide +kernel
theorem dL_build_20 : decode cL_build 20 = .ok (.invokestatic 30, 3) := by decide +kernel
theorem dL_build_23 : decode cL_build 23 = .ok (.pop, 1) := by decide +kernel
theorem dL_build_24 : decode cL_build 24 = .ok (.iconst 1, 1) := by decide +kernel
theorem dL_build_25 : decode cL_build 25 = .ok (.istore_n 2, 1) := by decide +kernel
theorem dL_build_26 : decode cL_build 26 = .ok (.iload_n 2, 1) := by decide +kernel
theorem dL_build_27 : decode cL_build 27 = .ok (.bipush 13, 2) := by decide +kernel
theorem dL_build_29 : decode cL_build 29 = .ok (.if_icmp .ge 207, 3) := by decide +kernel
theorem dL_build_32 : decode cL_build 32 = .ok (.aload_n 0, 1) := by decide +kernel
theorem dL_build_33 : decode cL_build 33 = .ok (.iload_n 2, 1) := by decide +kernel
theorem dL_build_34 : decode cL_build 34 = .ok (.invokestatic 24, 3) := by decide +kernel
theorem dL_build_37 : decode cL_build 37 = .ok (.istore_n 3, 1) := by decide +kernel
theorem dL_build_38 : decode cL_build 38 = .ok (.aload_n 1, 1) := by decide +kernel
theorem dL_build_39 : decode cL_build 39 = .ok (.iconst 0, 1) := by decide +kernel
theorem dL_build_40 : decode cL_build 40 = .ok (.iload_n 3, 1) := by decide +kernel
theorem dL_build_41 : decode cL_build 41 = .ok (.iconst 3, 1) := by decide +kernel
theorem dL_build_42 : decode cL_build 42 = .ok (.iand, 1) := by decide +kernel
theorem dL_build_43 : decode cL_build 43 = .ok (.iconst 1, 1) := by decide +kernel
theorem dL_build_44 : decode cL_build 44 = .ok (.iload_n 3, 1) := by decide +kernel
theorem dL_build_45 : decode cL_build 45 = .ok (.iconst 2, 1) := by decide +kernel
theorem dL_build_46 : decode cL_build 46 = .ok (.ishr, 1) := by decide +kernel
theorem dL_build_47 : decode cL_build 47 = .ok (.bipush 15, 2) := by decide +kernel
theorem dL_build_49 : decode cL_build 49 = .ok (.iand, 1) := by decide +kernel
theorem dL_build_50 : decode cL_build 50 = .ok (.iadd, 1) := by decide +kernel
theorem dL_build_51 : decode cL_build 51 = .ok (.invokestatic 30, 3) := by decide +kernel
theorem dL_build_54 : decode cL_build 54 = .ok (.pop, 1) := by decide +kernel
theorem dL_build_55 : decode cL_build 55 = .ok (.aload_n 1, 1) := by decide +kernel
theorem dL_build_56 : decode cL_build 56 = .ok (.iload_n 3, 1) := by decide +kernel
theorem dL_build_57 : decode cL_build 57 = .ok (.bipush 6, 2) := by decide +kernel
theorem dL_build_59 : decode cL_build 59 = .ok (.ishr, 1) := by decide +kernel
theorem dL_build_60 : decode cL_build 60 = .ok (.iconst 1, 1) := by decide +kernel
theorem dL_build_61 : decode cL_build 61 = .ok (.iand, 1) := by decide +kernel
theorem dL_build_62 : decode cL_build 62 = .ok (.ifCond .ne 7, 3) := by decide +kernel
theorem dL_build_65 : decode cL_build 65 = .ok (.iconst 1, 1) := by decide +kernel
theorem dL_build_66 : decode cL_build 66 = .ok (.goto 4, 3) := by decide +kernel
theorem dL_build_69 : decode cL_build 69 = .ok (.iconst 0, 1) := by decide +kernel
theorem dL_build_70 : decode cL_build 70 = .ok (.iload_n 3, 1) := by decide +kernel
theorem dL_build_71 : decode cL_build 71 = .ok (.bipush 7, 2) := by decide +kernel
theorem dL_build_73 : decode cL_build 73 = .ok (.ishr, 1) := by decide +kernel
theorem dL_build_74 : decode cL_build 74 = .ok (.iconst 3, 1) := by decide +kernel
theorem dL_build_75 : decode cL_build 75 = .ok (.iand, 1) := by decide +kernel
theorem dL_build_76 : decode cL_build 76 = .ok (.iconst 1, 1) := by decide +kernel
theorem dL_build_77 : decode cL_build 77 = .ok (.iload_n 3, 1) := by decide +kernel
theorem dL_build_78 : decode cL_build 78 = .ok (.bipush 9, 2) := by decide +kernel
theorem dL_build_80 : decode cL_build 80 = .ok (.ishr, 1) := by decide +kernel
theorem dL_build_81 : decode cL_build 81 = .ok (.iload_n 3, 1) := by decide +kernel
theorem dL_build_82 : decode cL_build 82 = .ok (.bipush 13, 2) := by decide +kernel
theorem dL_build_84 : decode cL_build 84 = .ok (.ishr, 1) := by decide +kernel
theorem dL_build_85 : decode cL_build 85 = .ok (.iconst 1, 1) := by decide +kernel
theorem dL_build_86 : decode cL_build 86 = .ok (.iand, 1) := by decide +kernel
theorem dL_build_87 : decode cL_build 87 = .ok (.ifCond .ne 8, 3) := by decide +kernel
theorem dL_build_90 : decode cL_build 90 = .ok (.bipush 7, 2) := by decide +kernel
theorem dL_build_92 : decode cL_build 92 = .ok (.goto 5, 3) := by decide +kernel
theorem dL_build_95 : decode cL_build 95 = .ok (.bipush 31, 2) := by decide +kernel
theorem dL_build_97 : decode cL_build 97 = .ok (.iand, 1) := by decide +kernel
theorem dL_build_98 : decode cL_build 98 = .ok (.iadd, 1) := by decide +kernel
theorem dL_build_99 : decode cL_build 99 = .ok (.invokestatic 30, 3) := by decide +kernel
theorem dL_build_102 : decode cL_build 102 = .ok (.pop, 1) := by decide +kernel
theorem dL_build_103 : decode cL_build 103 = .ok (.iload_n 3, 1) := by decide +kernel
theorem dL_build_104 : decode cL_build 104 = .ok (.bipush 14, 2) := by decide +kernel
theorem dL_build_106 : decode cL_build 106 = .ok (.ishr, 1) := by decide +kernel
theorem dL_build_107 : decode cL_build 107 = .ok (.iconst 3, 1) := by decide +kernel
theorem dL_build_108 : decode cL_build 108 = .ok (.iand, 1) := by decide +kernel
theorem dL_build_109 : decode cL_build 109 = .ok (.ifCond .ne 17, 3) := by decide +kernel
theorem dL_build_112 : decode cL_build 112 = .ok (.aload_n 1, 1) := by decide +kernel
theorem dL_build_113 : decode cL_build 113 = .ok (.iconst 2, 1) := by decide +kernel
theorem dL_build_114 : decode cL_build 114 = .ok (.iload_n 3, 1) := by decide +kernel
theorem dL_build_115 : decode cL_build 115 = .ok (.bipush 16, 2) := by decide +kernel
theorem dL_build_117 : decode cL_build 117 = .ok (.ishr, 1) := by decide +kernel
theorem dL_build_118 : decode cL_build 118 = .ok (.bipush 7, 2) := by decide +kernel
theorem dL_build_120 : decode cL_build 120 = .ok (.iand, 1) := by decide +kernel
theorem dL_build_121 : decode cL_build 121 = .ok (.iconst 0, 1) := by decide +kernel
theorem dL_build_122 : decode cL_build 122 = .ok (.invokestatic 30, 3) := by decide +kernel
theorem dL_build_125 : decode cL_build 125 = .ok (.pop, 1) := by decide +kernel
theorem dL_build_126 : decode cL_build 126 = .ok (.iload_n 3, 1) := by decide +kernel
theorem dL_build_127 : decode cL_build 127 = .ok (.bipush 19, 2) := by decide +kernel
theorem dL_build_129 : decode cL_build 129 = .ok (.ishr, 1) := by decide +kernel
theorem dL_build_130 : decode cL_build 130 = .ok (.iconst 3, 1) := by decide +kernel
theorem dL_build_131 : decode cL_build 131 = .ok (.iand, 1) := by decide +kernel
theorem dL_build_132 : decode cL_build 132 = .ok (.ifCond .ne 25, 3) := by decide +kernel
theorem dL_build_135 : decode cL_build 135 = .ok (.aload_n 1, 1) := by decide +kernel
theorem dL_build_136 : decode cL_build 136 = .ok (.iconst 4, 1) := by decide +kernel
theorem dL_build_137 : decode cL_build 137 = .ok (.iload_n 3, 1) := by decide +kernel
theorem dL_build_138 : decode cL_build 138 = .ok (.bipush 21, 2) := by decide +kernel
theorem dL_build_140 : decode cL_build 140 = .ok (.ishr, 1) := by decide +kernel
theorem dL_build_141 : decode cL_build 141 = .ok (.bipush 7, 2) := by decide +kernel
theorem dL_build_143 : decode cL_build 143 = .ok (.iand, 1) := by decide +kernel
theorem dL_build_144 : decode cL_build 144 = .ok (.iconst 1, 1) := by decide +kernel
theorem dL_build_145 : decode cL_build 145 = .ok (.iload_n 3, 1) := by decide +kernel
theorem dL_build_146 : decode cL_build 146 = .ok (.bipush 24, 2) := by decide +kernel
theorem dL_build_148 : decode cL_build 148 = .ok (.ishr, 1) := by decide +kernel
theorem dL_build_149 : decode cL_build 149 = .ok (.bipush 31, 2) := by decide +kernel
theorem dL_build_151 : decode cL_build 151 = .ok (.iand, 1) := by decide +kernel
theorem dL_build_152 : decode cL_build 152 = .ok (.iadd, 1) := by decide +kernel
theorem dL_build_153 : decode cL_build 153 = .ok (.invokestatic 30, 3) := by decide +kernel
theorem dL_build_156 : decode cL_build 156 = .ok (.pop, 1) := by decide +kernel
theorem dL_build_157 : decode cL_build 157 = .ok (.iload_n 3, 1) := by decide +kernel
theorem dL_build_158 : decode cL_build 158 = .ok (.bipush 19, 2) := by decide +kernel
theorem dL_build_160 : decode cL_build 160 = .ok (.ishr, 1) := by decide +kernel
theorem dL_build_161 : decode cL_build 161 = .ok (.bipush 15, 2) := by decide +kernel
theorem dL_build_163 : decode cL_build 163 = .ok (.iand, 1) := by decide +kernel
theorem dL_build_164 : decode cL_build 164 = .ok (.iconst 1, 1) := by decide +kernel
theorem dL_build_165 : decode cL_build 165 = .ok (.if_icmp .ne 16, 3) := by decide +kernel
theorem dL_build_168 : decode cL_build 168 = .ok (.aload_n 1, 1) := by decide +kernel
theorem dL_build_169 : decode cL_build 169 = .ok (.iconst 3, 1) := by decide +kernel
theorem dL_build_170 : decode cL_build 170 = .ok (.iload_n 3, 1) := by decide +kernel
theorem dL_build_171 : decode cL_build 171 = .ok (.bipush 23, 2) := by decide +kernel
theorem dL_build_173 : decode cL_build 173 = .ok (.ishr, 1) := by decide +kernel
theorem dL_build_174 : decode cL_build 174 = .ok (.iconst 3, 1) := by decide +kernel
theorem dL_build_175 : decode cL_build 175 = .ok (.iand, 1) := by decide +kernel
theorem dL_build_176 : decode cL_build 176 = .ok (.iconst 0, 1) := by decide +kernel
theorem dL_build_177 : decode cL_build 177 = .ok (.invokestatic 30, 3) := by decide +kernel
theorem dL_build_180 : decode cL_build 180 = .ok (.pop, 1) := by decide +kernel
theorem dL_build_181 : decode cL_build 181 = .ok (.iload_n 3, 1) := by decide +kernel
theorem dL_build_182 : decode cL_build 182 = .ok (.bipush 25, 2) := by decide +kernel
theorem dL_build_184 : decode cL_build 184 = .ok (.ishr, 1) := by decide +kernel
theorem dL_build_185 : decode cL_build 185 = .ok (.bipush 15, 2) := by decide +kernel
theorem dL_build_187 : decode cL_build 187 = .ok (.iand, 1) := by decide +kernel
theorem dL_build_188 : decode cL_build 188 = .ok (.iconst 1, 1) := by decide +kernel
theorem dL_build_189 : decode cL_build 189 = .ok (.if_icmp .ne 17, 3) := by decide +kernel
theorem dL_build_192 : decode cL_build 192 = .ok (.aload_n 1, 1) := by decide +kernel
theorem dL_build_193 : decode cL_build 193 = .ok (.iconst 5, 1) := by decide +kernel
theorem dL_build_194 : decode cL_build 194 = .ok (.iload_n 3, 1) := by decide +kernel
theorem dL_build_195 : decode cL_build 195 = .ok (.iconst 2, 1) := by decide +kernel
theorem dL_build_196 : decode cL_build 196 = .ok (.ishr, 1) := by decide +kernel
theorem dL_build_197 : decode cL_build 197 = .ok (.iconst 3, 1) := by decide +kernel
theorem dL_build_198 : decode cL_build 198 = .ok (.iand, 1) := by decide +kernel
theorem dL_build_199 : decode cL_build 199 = .ok (.iconst 3, 1) := by decide +kernel
theorem dL_build_200 : decode cL_build 200 = .ok (.irem, 1) := by decide +kernel
theorem dL_build_201 : decode cL_build 201 = .ok (.iconst 0, 1) := by decide +kernel
theorem dL_build_202 : decode cL_build 202 = .ok (.invokestatic 30, 3) := by decide +kernel
theorem dL_build_205 : decode cL_build 205 = .ok (.pop, 1) := by decide +kernel
theorem dL_build_206 : decode cL_build 206 = .ok (.iload_n 3, 1) := by decide +kernel
theorem dL_build_207 : decode cL_build 207 = .ok (.bipush 25, 2) := by decide +kernel
theorem dL_build_209 : decode cL_build 209 = .ok (.ishr, 1) := by decide +kernel
theorem dL_build_210 : decode cL_build 210 = .ok (.bipush 15, 2) := by decide +kernel
theorem dL_build_212 : decode cL_build 212 = .ok (.iand, 1) := by decide +kernel
theorem dL_build_213 : decode cL_build 213 = .ok (.iconst 2, 1) := by decide +kernel
theorem dL_build_214 : decode cL_build 214 = .ok (.if_icmp .ne 16, 3) := by decide +kernel
theorem dL_build_217 : decode cL_build 217 = .ok (.aload_n 1, 1) := by decide +kernel
theorem dL_build_218 : decode cL_build 218 = .ok (.bipush 6, 2) := by decide +kernel
theorem dL_build_220 : decode cL_build 220 = .ok (.iload_n 3, 1) := by decide +kernel
theorem dL_build_221 : decode cL_build 221 = .ok (.iconst 2, 1) := by decide +kernel
theorem dL_build_222 : decode cL_build 222 = .ok (.ishr, 1) := by decide +kernel
theorem dL_build_223 : decode cL_build 223 = .ok (.iconst 3, 1) := by decide +kernel
theorem dL_build_224 : decode cL_build 224 = .ok (.iand, 1) := by decide +kernel
theorem dL_build_225 : decode cL_build 225 = .ok (.iconst 0, 1) := by decide +kernel
theorem dL_build_226 : decode cL_build 226 = .ok (.invokestatic 30, 3) := by decide +kernel
theorem dL_build_229 : decode cL_build 229 = .ok (.pop, 1) := by decide +kernel
theorem dL_build_230 : decode cL_build 230 = .ok (.iinc 2 1, 3) := by decide +kernel
theorem dL_build_233 : decode cL_build 233 = .ok (.goto (-207), 3) := by decide +kernel
theorem dL_build_236 : decode cL_build 236 = .ok (.aload_n 1, 1) := by decide +kernel
theorem dL_build_237 : decode cL_build 237 = .ok (.areturn, 1) := by decide +kernel
theorem dL_act_0 : decode cL_act 0 = .ok (.iload_n 1, 1) := by decide +kernel
theorem dL_act_1 : decode cL_act 1 = .ok (.tableswitch 78 0 5 #[39, 46, 53, 59, 65, 72], 39) := by decide +kernel
theorem dL_act_40 : decode cL_act 40 = .ok (.aload_n 0, 1) := by decide +kernel
theorem dL_act_41 : decode cL_act 41 = .ok (.iload_n 2, 1) := by decide +kernel
theorem dL_act_42 : decode cL_act 42 = .ok (.iload_n 3, 1) := by decide +kernel
theorem dL_act_43 : decode cL_act 43 = .ok (.invokevirtual 34, 3) := by decide +kernel
theorem dL_act_46 : decode cL_act 46 = .ok (.ireturn, 1) := by decide +kernel
theorem dL_act_47 : decode cL_act 47 = .ok (.aload_n 0, 1) := by decide +kernel
theorem dL_act_48 : decode cL_act 48 = .ok (.iload_n 2, 1) := by decide +kernel
theorem dL_act_49 : decode cL_act 49 = .ok (.iload_n 3, 1) := by decide +kernel
theorem dL_act_50 : decode cL_act 50 = .ok (.invokevirtual 38, 3) := by decide +kernel
theorem dL_act_53 : decode cL_act 53 = .ok (.ireturn, 1) := by decide +kernel
theorem dL_act_54 : decode cL_act 54 = .ok (.aload_n 0, 1) := by decide +kernel
theorem dL_act_55 : decode cL_act 55 = .ok (.iload_n 2, 1) := by decide +kernel
theorem dL_act_56 : decode cL_act 56 = .ok (.invokevirtual 41, 3) := by decide +kernel
theorem dL_act_59 : decode cL_act 59 = .ok (.ireturn, 1) := by decide +kernel
theorem dL_act_60 : decode cL_act 60 = .ok (.aload_n 0, 1) := by decide +kernel
theorem dL_act_61 : decode cL_act 61 = .ok (.iload_n 2, 1) := by decide +kernel
theorem dL_act_62 : decode cL_act 62 = .ok (.invokevirtual 45, 3) := by decide +kernel
theorem dL_act_65 : decode cL_act 65 = .ok (.ireturn, 1) := by decide +kernel
theorem dL_act_66 : decode cL_act 66 = .ok (.aload_n 0, 1) := by decide +kernel
theorem dL_act_67 : decode cL_act 67 = .ok (.iload_n 2, 1) := by decide +kernel
theorem dL_act_68 : decode cL_act 68 = .ok (.iload_n 3, 1) := by decide +kernel
theorem dL_act_69 : decode cL_act 69 = .ok (.invokevirtual 48, 3) := by decide +kernel
theorem dL_act_72 : decode cL_act 72 = .ok (.ireturn, 1) := by decide +kernel
theorem dL_act_73 : decode cL_act 73 = .ok (.aload_n 0, 1) := by decide +kernel
theorem dL_act_74 : decode cL_act 74 = .ok (.iload_n 2, 1) := by decide +kernel
theorem dL_act_75 : decode cL_act 75 = .ok (.invokevirtual 51, 3) := by decide +kernel
theorem dL_act_78 : decode cL_act 78 = .ok (.ireturn, 1) := by decide +kernel
theorem dL_act_79 : decode cL_act 79 = .ok (.aload_n 0, 1) := by decide +kernel
theorem dL_act_80 : decode cL_act 80 = .ok (.iload_n 2, 1) := by decide +kernel
theorem dL_act_81 : decode cL_act 81 = .ok (.invokevirtual 54, 3) := by decide +kernel
theorem dL_act_84 : decode cL_act 84 = .ok (.ireturn, 1) := by decide +kernel
theorem dL_act_85 : decode cL_act 85 = .ok (.astore 4, 2) := by decide +kernel
theorem dL_act_87 : decode cL_act 87 = .ok (.bipush (-2), 2) := by decide +kernel
theorem dL_act_89 : decode cL_act 89 = .ok (.ireturn, 1) := by decide +kernel
theorem dL_act_90 : decode cL_act 90 = .ok (.astore 4, 2) := by decide +kernel
theorem dL_act_92 : decode cL_act 92 = .ok (.bipush (-3), 2) := by decide +kernel
theorem dL_act_94 : decode cL_act 94 = .ok (.ireturn, 1) := by decide +kernel
theorem dL_act_95 : decode cL_act 95 = .ok (.astore 4, 2) := by decide +kernel
theorem dL_act_97 : decode cL_act 97 = .ok (.bipush (-3), 2) := by decide +kernel
theorem dL_act_99 : decode cL_act 99 = .ok (.ireturn, 1) := by decide +kernel
theorem dL_state_0 : decode cL_state 0 = .ok (.iconst 0, 1) := by decide +kernel
theorem dL_state_1 : decode cL_state 1 = .ok (.istore_n 1, 1) := by decide +kernel
theorem dL_state_2 : decode cL_state 2 = .ok (.iconst 0, 1) := by decide +kernel
theorem dL_state_3 : decode cL_state 3 = .ok (.istore_n 2, 1) := by decide +kernel
theorem dL_state_4 : decode cL_state 4 = .ok (.iload_n 2, 1) := by decide +kernel
theorem dL_state_5 : decode cL_state 5 = .ok (.bipush 9, 2) := by decide +kernel
theorem dL_state_7 : decode cL_state 7 = .ok (.if_icmp .ge 20, 3) := by decide +kernel
theorem dL_state_10 : decode cL_state 10 = .ok (.bipush 31, 2) := by decide +kernel
theorem dL_state_12 : decode cL_state 12 = .ok (.iload_n 1, 1) := by decide +kernel
theorem dL_state_13 : decode cL_state 13 = .ok (.imul, 1) := by decide +kernel
theorem dL_state_14 : decode cL_state 14 = .ok (.aload_n 0, 1) := by decide +kernel
theorem dL_state_15 : decode cL_state 15 = .ok (.iload_n 2, 1) := by decide +kernel
theorem dL_state_16 : decode cL_state 16 = .ok (.invokevirtual 63, 3) := by decide +kernel
theorem dL_state_19 : decode cL_state 19 = .ok (.iadd, 1) := by decide +kernel
theorem dL_state_20 : decode cL_state 20 = .ok (.istore_n 1, 1) := by decide +kernel
theorem dL_state_21 : decode cL_state 21 = .ok (.iinc 2 1, 3) := by decide +kernel
theorem dL_state_24 : decode cL_state 24 = .ok (.goto (-20), 3) := by decide +kernel
theorem dL_state_27 : decode cL_state 27 = .ok (.iconst 0, 1) := by decide +kernel
theorem dL_state_28 : decode cL_state 28 = .ok (.istore_n 2, 1) := by decide +kernel
theorem dL_state_29 : decode cL_state 29 = .ok (.iload_n 2, 1) := by decide +kernel
theorem dL_state_30 : decode cL_state 30 = .ok (.aload_n 0, 1) := by decide +kernel
theorem dL_state_31 : decode cL_state 31 = .ok (.iconst 0, 1) := by decide +kernel
theorem dL_state_32 : decode cL_state 32 = .ok (.invokevirtual 63, 3) := by decide +kernel
theorem dL_state_35 : decode cL_state 35 = .ok (.if_icmp .ge 34, 3) := by decide +kernel
theorem dL_state_38 : decode cL_state 38 = .ok (.iconst 0, 1) := by decide +kernel
theorem dL_state_39 : decode cL_state 39 = .ok (.istore_n 3, 1) := by decide +kernel
theorem dL_state_40 : decode cL_state 40 = .ok (.iload_n 3, 1) := by decide +kernel
theorem dL_state_41 : decode cL_state 41 = .ok (.iconst 4, 1) := by decide +kernel
theorem dL_state_42 : decode cL_state 42 = .ok (.if_icmp .ge 21, 3) := by decide +kernel
theorem dL_state_45 : decode cL_state 45 = .ok (.bipush 31, 2) := by decide +kernel
theorem dL_state_47 : decode cL_state 47 = .ok (.iload_n 1, 1) := by decide +kernel
theorem dL_state_48 : decode cL_state 48 = .ok (.imul, 1) := by decide +kernel
theorem dL_state_49 : decode cL_state 49 = .ok (.aload_n 0, 1) := by decide +kernel
theorem dL_state_50 : decode cL_state 50 = .ok (.iload_n 2, 1) := by decide +kernel
theorem dL_state_51 : decode cL_state 51 = .ok (.iload_n 3, 1) := by decide +kernel
theorem dL_state_52 : decode cL_state 52 = .ok (.invokevirtual 66, 3) := by decide +kernel
theorem dL_state_55 : decode cL_state 55 = .ok (.iadd, 1) := by decide +kernel
theorem dL_state_56 : decode cL_state 56 = .ok (.istore_n 1, 1) := by decide +kernel
theorem dL_state_57 : decode cL_state 57 = .ok (.iinc 3 1, 3) := by decide +kernel
theorem dL_state_60 : decode cL_state 60 = .ok (.goto (-20), 3) := by decide +kernel
theorem dL_state_63 : decode cL_state 63 = .ok (.iinc 2 1, 3) := by decide +kernel
theorem dL_state_66 : decode cL_state 66 = .ok (.goto (-37), 3) := by decide +kernel
theorem dL_state_69 : decode cL_state 69 = .ok (.iconst 0, 1) := by decide +kernel
theorem dL_state_70 : decode cL_state 70 = .ok (.istore_n 2, 1) := by decide +kernel
theorem dL_state_71 : decode cL_state 71 = .ok (.iload_n 2, 1) := by decide +kernel
theorem dL_state_72 : decode cL_state 72 = .ok (.aload_n 0, 1) := by decide +kernel
theorem dL_state_73 : decode cL_state 73 = .ok (.iconst 4, 1) := by decide +kernel
theorem dL_state_74 : decode cL_state 74 = .ok (.invokevirtual 63, 3) := by decide +kernel
theorem dL_state_77 : decode cL_state 77 = .ok (.if_icmp .ge 34, 3) := by decide +kernel
theorem dL_state_80 : decode cL_state 80 = .ok (.iconst 0, 1) := by decide +kernel
theorem dL_state_81 : decode cL_state 81 = .ok (.istore_n 3, 1) := by decide +kernel
theorem dL_state_82 : decode cL_state 82 = .ok (.iload_n 3, 1) := by decide +kernel
theorem dL_state_83 : decode cL_state 83 = .ok (.iconst 2, 1) := by decide +kernel
theorem dL_state_84 : decode cL_state 84 = .ok (.if_icmp .ge 21, 3) := by decide +kernel
theorem dL_state_87 : decode cL_state 87 = .ok (.bipush 31, 2) := by decide +kernel
theorem dL_state_89 : decode cL_state 89 = .ok (.iload_n 1, 1) := by decide +kernel
theorem dL_state_90 : decode cL_state 90 = .ok (.imul, 1) := by decide +kernel
theorem dL_state_91 : decode cL_state 91 = .ok (.aload_n 0, 1) := by decide +kernel
theorem dL_state_92 : decode cL_state 92 = .ok (.iload_n 2, 1) := by decide +kernel
theorem dL_state_93 : decode cL_state 93 = .ok (.iload_n 3, 1) := by decide +kernel
theorem dL_state_94 : decode cL_state 94 = .ok (.invokevirtual 69, 3) := by decide +kernel
theorem dL_state_97 : decode cL_state 97 = .ok (.iadd, 1) := by decide +kernel
theorem dL_state_98 : decode cL_state 98 = .ok (.istore_n 1, 1) := by decide +kernel
theorem dL_state_99 : decode cL_state 99 = .ok (.iinc 3 1, 3) := by decide +kernel
theorem dL_state_102 : decode cL_state 102 = .ok (.goto (-20), 3) := by decide +kernel
theorem dL_state_105 : decode cL_state 105 = .ok (.iinc 2 1, 3) := by decide +kernel
theorem dL_state_108 : decode cL_state 108 = .ok (.goto (-37), 3) := by decide +kernel
theorem dL_state_111 : decode cL_state 111 = .ok (.iconst 0, 1) := by decide +kernel
theorem dL_state_112 : decode cL_state 112 = .ok (.istore_n 2, 1) := by decide +kernel
theorem dL_state_113 : decode cL_state 113 = .ok (.iload_n 2, 1) := by decide +kernel
theorem dL_state_114 : decode cL_state 114 = .ok (.bipush 64, 2) := by decide +kernel
theorem dL_state_116 : decode cL_state 116 = .ok (.if_icmp .ge 21, 3) := by decide +kernel
theorem dL_state_119 : decode cL_state 119 = .ok (.bipush 31, 2) := by decide +kernel
theorem dL_state_121 : decode cL_state 121 = .ok (.iload_n 1, 1) := by decide +kernel
theorem dL_state_122 : decode cL_state 122 = .ok (.imul, 1) := by decide +kernel
theorem dL_state_123 : decode cL_state 123 = .ok (.aload_n 0, 1) := by decide +kernel
theorem dL_state_124 : decode cL_state 124 = .ok (.iload_n 2, 1) := by decide +kernel
theorem dL_state_125 : decode cL_state 125 = .ok (.iconst 1, 1) := by decide +kernel
theorem dL_state_126 : decode cL_state 126 = .ok (.invokevirtual 72, 3) := by decide +kernel
theorem dL_state_129 : decode cL_state 129 = .ok (.iadd, 1) := by decide +kernel
theorem dL_state_130 : decode cL_state 130 = .ok (.istore_n 1, 1) := by decide +kernel
theorem dL_state_131 : decode cL_state 131 = .ok (.iinc 2 1, 3) := by decide +kernel
theorem dL_state_134 : decode cL_state 134 = .ok (.goto (-21), 3) := by decide +kernel
theorem dL_state_137 : decode cL_state 137 = .ok (.iload_n 1, 1) := by decide +kernel
theorem dL_state_138 : decode cL_state 138 = .ok (.ireturn, 1) := by decide +kernel
theorem dL_law_0 : decode cL_law 0 = .ok (.aload_n 0, 1) := by decide +kernel
theorem dL_law_1 : decode cL_law 1 = .ok (.invokestatic 132, 3) := by decide +kernel
theorem dL_law_4 : decode cL_law 4 = .ok (.astore_n 1, 1) := by decide +kernel
theorem dL_law_5 : decode cL_law 5 = .ok (.aload_n 0, 1) := by decide +kernel
theorem dL_law_6 : decode cL_law 6 = .ok (.invokestatic 132, 3) := by decide +kernel
theorem dL_law_9 : decode cL_law 9 = .ok (.astore_n 2, 1) := by decide +kernel
theorem dL_law_10 : decode cL_law 10 = .ok (.aload_n 1, 1) := by decide +kernel
theorem dL_law_11 : decode cL_law 11 = .ok (.invokevirtual 136, 3) := by decide +kernel
theorem dL_law_14 : decode cL_law 14 = .ok (.istore_n 3, 1) := by decide +kernel
theorem dL_law_15 : decode cL_law 15 = .ok (.aload_n 1, 1) := by decide +kernel
theorem dL_law_16 : decode cL_law 16 = .ok (.invokestatic 139, 3) := by decide +kernel
theorem dL_law_19 : decode cL_law 19 = .ok (.istore 4, 2) := by decide +kernel
theorem dL_law_21 : decode cL_law 21 = .ok (.aload_n 1, 1) := by decide +kernel
theorem dL_law_22 : decode cL_law 22 = .ok (.bipush 8, 2) := by decide +kernel
theorem dL_law_24 : decode cL_law 24 = .ok (.invokevirtual 63, 3) := by decide +kernel
theorem dL_law_27 : decode cL_law 27 = .ok (.istore 5, 2) := by decide +kernel
theorem dL_law_29 : decode cL_law 29 = .ok (.iload 5, 2) := by decide +kernel
theorem dL_law_31 : decode cL_law 31 = .ok (.iconst 1, 1) := by decide +kernel
theorem dL_law_32 : decode cL_law 32 = .ok (.iadd, 1) := by decide +kernel
theorem dL_law_33 : decode cL_law 33 = .ok (.iconst 3, 1) := by decide +kernel
theorem dL_law_34 : decode cL_law 34 = .ok (.irem, 1) := by decide +kernel
theorem dL_law_35 : decode cL_law 35 = .ok (.istore 6, 2) := by decide +kernel
theorem dL_law_37 : decode cL_law 37 = .ok (.aload_n 1, 1) := by decide +kernel
theorem dL_law_38 : decode cL_law 38 = .ok (.new 143, 3) := by decide +kernel
theorem dL_law_41 : decode cL_law 41 = .ok (.dup, 1) := by decide +kernel
theorem dL_law_42 : decode cL_law 42 = .ok (.invokespecial 145, 3) := by decide +kernel
theorem dL_law_45 : decode cL_law 45 = .ok (.ldc 146, 2) := by decide +kernel
theorem dL_law_47 : decode cL_law 47 = .ok (.invokevirtual 148, 3) := by decide +kernel
theorem dL_law_50 : decode cL_law 50 = .ok (.iload 6, 2) := by decide +kernel
theorem dL_law_52 : decode cL_law 52 = .ok (.invokevirtual 151, 3) := by decide +kernel
theorem dL_law_55 : decode cL_law 55 = .ok (.ldc 154, 2) := by decide +kernel
theorem dL_law_57 : decode cL_law 57 = .ok (.invokevirtual 148, 3) := by decide +kernel
theorem dL_law_60 : decode cL_law 60 = .ok (.iload 5, 2) := by decide +kernel
theorem dL_law_62 : decode cL_law 62 = .ok (.invokevirtual 151, 3) := by decide +kernel
theorem dL_law_65 : decode cL_law 65 = .ok (.ldc 154, 2) := by decide +kernel
theorem dL_law_67 : decode cL_law 67 = .ok (.invokevirtual 148, 3) := by decide +kernel
theorem dL_law_70 : decode cL_law 70 = .ok (.iload 6, 2) := by decide +kernel
theorem dL_law_72 : decode cL_law 72 = .ok (.invokevirtual 151, 3) := by decide +kernel
theorem dL_law_75 : decode cL_law 75 = .ok (.invokevirtual 156, 3) := by decide +kernel
theorem dL_law_78 : decode cL_law 78 = .ok (.invokestatic 160, 3) := by decide +kernel
theorem dL_law_81 : decode cL_law 81 = .ok (.aload_n 1, 1) := by decide +kernel
theorem dL_law_82 : decode cL_law 82 = .ok (.invokevirtual 164, 3) := by decide +kernel
theorem dL_law_85 : decode cL_law 85 = .ok (.iconst 3, 1) := by decide +kernel
theorem dL_law_86 : decode cL_law 86 = .ok (.if_icmp .ne 64, 3) := by decide +kernel
theorem dL_law_89 : decode cL_law 89 = .ok (.aload_n 2, 1) := by decide +kernel
theorem dL_law_90 : decode cL_law 90 = .ok (.iload 6, 2) := by decide +kernel
theorem dL_law_92 : decode cL_law 92 = .ok (.invokevirtual 51, 3) := by decide +kernel
theorem dL_law_95 : decode cL_law 95 = .ok (.iload 5, 2) := by decide +kernel
theorem dL_law_97 : decode cL_law 97 = .ok (.if_icmp .ne 53, 3) := by decide +kernel
theorem dL_law_100 : decode cL_law 100 = .ok (.aload_n 2, 1) := by decide +kernel
theorem dL_law_101 : decode cL_law 101 = .ok (.iload 5, 2) := by decide +kernel
theorem dL_law_103 : decode cL_law 103 = .ok (.invokevirtual 51, 3) := by decide +kernel
theorem dL_law_106 : decode cL_law 106 = .ok (.iload 6, 2) := by decide +kernel
theorem dL_law_108 : decode cL_law 108 = .ok (.if_icmp .ne 42, 3) := by decide +kernel
theorem dL_law_111 : decode cL_law 111 = .ok (.aload_n 2, 1) := by decide +kernel
theorem dL_law_112 : decode cL_law 112 = .ok (.iload 6, 2) := by decide +kernel
theorem dL_law_114 : decode cL_law 114 = .ok (.invokevirtual 51, 3) := by decide +kernel
theorem dL_law_117 : decode cL_law 117 = .ok (.iload 5, 2) := by decide +kernel
theorem dL_law_119 : decode cL_law 119 = .ok (.if_icmp .ne 31, 3) := by decide +kernel
theorem dL_law_122 : decode cL_law 122 = .ok (.aload_n 1, 1) := by decide +kernel
theorem dL_law_123 : decode cL_law 123 = .ok (.invokestatic 139, 3) := by decide +kernel
theorem dL_law_126 : decode cL_law 126 = .ok (.aload_n 2, 1) := by decide +kernel
theorem dL_law_127 : decode cL_law 127 = .ok (.invokestatic 139, 3) := by decide +kernel
theorem dL_law_130 : decode cL_law 130 = .ok (.if_icmp .ne 20, 3) := by decide +kernel
theorem dL_law_133 : decode cL_law 133 = .ok (.aload_n 1, 1) := by decide +kernel
theorem dL_law_134 : decode cL_law 134 = .ok (.bipush 9, 2) := by decide +kernel
theorem dL_law_136 : decode cL_law 136 = .ok (.invokevirtual 63, 3) := by decide +kernel
theorem dL_law_139 : decode cL_law 139 = .ok (.ifCond .ne 11, 3) := by decide +kernel
theorem dL_law_142 : decode cL_law 142 = .ok (.aload_n 1, 1) := by decide +kernel
theorem dL_law_143 : decode cL_law 143 = .ok (.invokevirtual 167, 3) := by decide +kernel
theorem dL_law_146 : decode cL_law 146 = .ok (.iconst (-1), 1) := by decide +kernel
theorem dL_law_147 : decode cL_law 147 = .ok (.if_icmp .eq 5, 3) := by decide +kernel
theorem dL_law_150 : decode cL_law 150 = .ok (.iconst 0, 1) := by decide +kernel
theorem dL_law_151 : decode cL_law 151 = .ok (.ireturn, 1) := by decide +kernel
theorem dL_law_152 : decode cL_law 152 = .ok (.aload_n 1, 1) := by decide +kernel
theorem dL_law_153 : decode cL_law 153 = .ok (.bipush 10, 2) := by decide +kernel
theorem dL_law_155 : decode cL_law 155 = .ok (.invokevirtual 63, 3) := by decide +kernel
theorem dL_law_158 : decode cL_law 158 = .ok (.istore 7, 2) := by decide +kernel
theorem dL_law_160 : decode cL_law 160 = .ok (.aload_n 1, 1) := by decide +kernel
theorem dL_law_161 : decode cL_law 161 = .ok (.invokevirtual 170, 3) := by decide +kernel
theorem dL_law_164 : decode cL_law 164 = .ok (.iload 7, 2) := by decide +kernel
theorem dL_law_166 : decode cL_law 166 = .ok (.iconst 1, 1) := by decide +kernel
theorem dL_law_167 : decode cL_law 167 = .ok (.isub, 1) := by decide +kernel
theorem dL_law_168 : decode cL_law 168 = .ok (.if_icmp .ne 42, 3) := by decide +kernel
theorem dL_law_171 : decode cL_law 171 = .ok (.aload_n 1, 1) := by decide +kernel
theorem dL_law_172 : decode cL_law 172 = .ok (.invokestatic 139, 3) := by decide +kernel
theorem dL_law_175 : decode cL_law 175 = .ok (.iload 4, 2) := by decide +kernel
theorem dL_law_177 : decode cL_law 177 = .ok (.if_icmp .ne 33, 3) := by decide +kernel
theorem dL_law_180 : decode cL_law 180 = .ok (.aload_n 2, 1) := by decide +kernel
theorem dL_law_181 : decode cL_law 181 = .ok (.invokevirtual 170, 3) := by decide +kernel
theorem dL_law_184 : decode cL_law 184 = .ok (.ifCond .lt 26, 3) := by decide +kernel
theorem dL_law_187 : decode cL_law 187 = .ok (.aload_n 2, 1) := by decide +kernel
theorem dL_law_188 : decode cL_law 188 = .ok (.invokevirtual 170, 3) := by decide +kernel
theorem dL_law_191 : decode cL_law 191 = .ok (.ifCond .lt 19, 3) := by decide +kernel
theorem dL_law_194 : decode cL_law 194 = .ok (.aload_n 2, 1) := by decide +kernel
theorem dL_law_195 : decode cL_law 195 = .ok (.invokevirtual 170, 3) := by decide +kernel
theorem dL_law_198 : decode cL_law 198 = .ok (.ifCond .lt 12, 3) := by decide +kernel
theorem dL_law_201 : decode cL_law 201 = .ok (.aload_n 2, 1) := by decide +kernel
theorem dL_law_202 : decode cL_law 202 = .ok (.invokestatic 139, 3) := by decide +kernel
theorem dL_law_205 : decode cL_law 205 = .ok (.iload 4, 2) := by decide +kernel
theorem dL_law_207 : decode cL_law 207 = .ok (.if_icmp .eq 5, 3) := by decide +kernel
theorem dL_law_210 : decode cL_law 210 = .ok (.iconst 0, 1) := by decide +kernel
theorem dL_law_211 : decode cL_law 211 = .ok (.ireturn, 1) := by decide +kernel
theorem dL_law_212 : decode cL_law 212 = .ok (.aload_n 1, 1) := by decide +kernel
theorem dL_law_213 : decode cL_law 213 = .ok (.new 143, 3) := by decide +kernel
theorem dL_law_216 : decode cL_law 216 = .ok (.dup, 1) := by decide +kernel
theorem dL_law_217 : decode cL_law 217 = .ok (.invokespecial 145, 3) := by decide +kernel
theorem dL_law_220 : decode cL_law 220 = .ok (.ldc 146, 2) := by decide +kernel
theorem dL_law_222 : decode cL_law 222 = .ok (.invokevirtual 148, 3) := by decide +kernel
theorem dL_law_225 : decode cL_law 225 = .ok (.iload 6, 2) := by decide +kernel
theorem dL_law_227 : decode cL_law 227 = .ok (.invokevirtual 151, 3) := by decide +kernel
theorem dL_law_230 : decode cL_law 230 = .ok (.ldc 154, 2) := by decide +kernel
theorem dL_law_232 : decode cL_law 232 = .ok (.invokevirtual 148, 3) := by decide +kernel
theorem dL_law_235 : decode cL_law 235 = .ok (.iload 6, 2) := by decide +kernel
theorem dL_law_237 : decode cL_law 237 = .ok (.invokevirtual 151, 3) := by decide +kernel
theorem dL_law_240 : decode cL_law 240 = .ok (.invokevirtual 156, 3) := by decide +kernel
theorem dL_law_243 : decode cL_law 243 = .ok (.invokestatic 160, 3) := by decide +kernel
theorem dL_law_246 : decode cL_law 246 = .ok (.aload_n 1, 1) := by decide +kernel
theorem dL_law_247 : decode cL_law 247 = .ok (.invokestatic 173, 3) := by decide +kernel
theorem dL_law_250 : decode cL_law 250 = .ok (.bipush (-2), 2) := by decide +kernel
theorem dL_law_252 : decode cL_law 252 = .ok (.if_icmp .ne 39, 3) := by decide +kernel
theorem dL_law_255 : decode cL_law 255 = .ok (.aload_n 1, 1) := by decide +kernel
theorem dL_law_256 : decode cL_law 256 = .ok (.iconst 0, 1) := by decide +kernel
theorem dL_law_257 : decode cL_law 257 = .ok (.invokevirtual 176, 3) := by decide +kernel
theorem dL_law_260 : decode cL_law 260 = .ok (.iconst 5, 1) := by decide +kernel
theorem dL_law_261 : decode cL_law 261 = .ok (.if_icmp .ne 30, 3) := by decide +kernel
theorem dL_law_264 : decode cL_law 264 = .ok (.aload_n 1, 1) := by decide +kernel
theorem dL_law_265 : decode cL_law 265 = .ok (.iconst 1, 1) := by decide +kernel
theorem dL_law_266 : decode cL_law 266 = .ok (.invokevirtual 176, 3) := by decide +kernel
theorem dL_law_269 : decode cL_law 269 = .ok (.iload 6, 2) := by decide +kernel
theorem dL_law_271 : decode cL_law 271 = .ok (.if_icmp .ne 20, 3) := by decide +kernel
theorem dL_law_274 : decode cL_law 274 = .ok (.aload_n 1, 1) := by decide +kernel
theorem dL_law_275 : decode cL_law 275 = .ok (.invokevirtual 167, 3) := by decide +kernel
theorem dL_law_278 : decode cL_law 278 = .ok (.iconst (-1), 1) := by decide +kernel
theorem dL_law_279 : decode cL_law 279 = .ok (.if_icmp .ne 12, 3) := by decide +kernel
theorem dL_law_282 : decode cL_law 282 = .ok (.aload_n 1, 1) := by decide +kernel
theorem dL_law_283 : decode cL_law 283 = .ok (.invokestatic 139, 3) := by decide +kernel
theorem dL_law_286 : decode cL_law 286 = .ok (.iload 4, 2) := by decide +kernel
theorem dL_law_288 : decode cL_law 288 = .ok (.if_icmp .eq 5, 3) := by decide +kernel
theorem dL_law_291 : decode cL_law 291 = .ok (.iconst 0, 1) := by decide +kernel
theorem dL_law_292 : decode cL_law 292 = .ok (.ireturn, 1) := by decide +kernel
theorem dL_law_293 : decode cL_law 293 = .ok (.aload_n 1, 1) := by decide +kernel
theorem dL_law_294 : decode cL_law 294 = .ok (.new 143, 3) := by decide +kernel
theorem dL_law_297 : decode cL_law 297 = .ok (.dup, 1) := by decide +kernel
theorem dL_law_298 : decode cL_law 298 = .ok (.invokespecial 145, 3) := by decide +kernel
theorem dL_law_301 : decode cL_law 301 = .ok (.ldc 146, 2) := by decide +kernel
theorem dL_law_303 : decode cL_law 303 = .ok (.invokevirtual 148, 3) := by decide +kernel
theorem dL_law_306 : decode cL_law 306 = .ok (.iload 6, 2) := by decide +kernel
theorem dL_law_308 : decode cL_law 308 = .ok (.invokevirtual 151, 3) := by decide +kernel
theorem dL_law_311 : decode cL_law 311 = .ok (.ldc 180, 2) := by decide +kernel
theorem dL_law_313 : decode cL_law 313 = .ok (.invokevirtual 148, 3) := by decide +kernel
theorem dL_law_316 : decode cL_law 316 = .ok (.invokevirtual 156, 3) := by decide +kernel
theorem dL_law_319 : decode cL_law 319 = .ok (.invokestatic 160, 3) := by decide +kernel
theorem dL_law_322 : decode cL_law 322 = .ok (.aload_n 1, 1) := by decide +kernel
theorem dL_law_323 : decode cL_law 323 = .ok (.invokestatic 173, 3) := by decide +kernel
theorem dL_law_326 : decode cL_law 326 = .ok (.iconst (-1), 1) := by decide +kernel
theorem dL_law_327 : decode cL_law 327 = .ok (.if_icmp .ne 20, 3) := by decide +kernel
theorem dL_law_330 : decode cL_law 330 = .ok (.aload_n 1, 1) := by decide +kernel
theorem dL_law_331 : decode cL_law 331 = .ok (.invokevirtual 167, 3) := by decide +kernel
theorem dL_law_334 : decode cL_law 334 = .ok (.iconst (-1), 1) := by decide +kernel
theorem dL_law_335 : decode cL_law 335 = .ok (.if_icmp .ne 12, 3) := by decide +kernel
theorem dL_law_338 : decode cL_law 338 = .ok (.aload_n 1, 1) := by decide +kernel
theorem dL_law_339 : decode cL_law 339 = .ok (.invokestatic 139, 3) := by decide +kernel
theorem dL_law_342 : decode cL_law 342 = .ok (.iload 4, 2) := by decide +kernel
theorem dL_law_344 : decode cL_law 344 = .ok (.if_icmp .eq 5, 3) := by decide +kernel
theorem dL_law_347 : decode cL_law 347 = .ok (.iconst 0, 1) := by decide +kernel
theorem dL_law_348 : decode cL_law 348 = .ok (.ireturn, 1) := by decide +kernel
theorem dL_law_349 : decode cL_law 349 = .ok (.aload_n 1, 1) := by decide +kernel
theorem dL_law_350 : decode cL_law 350 = .ok (.ldc 182, 2) := by decide +kernel
theorem dL_law_352 : decode cL_law 352 = .ok (.invokestatic 160, 3) := by decide +kernel
theorem dL_law_355 : decode cL_law 355 = .ok (.aload_n 1, 1) := by decide +kernel
theorem dL_law_356 : decode cL_law 356 = .ok (.invokestatic 173, 3) := by decide +kernel
theorem dL_law_359 : decode cL_law 359 = .ok (.iconst (-1), 1) := by decide +kernel
theorem dL_law_360 : decode cL_law 360 = .ok (.if_icmp .ne 11, 3) := by decide +kernel
theorem dL_law_363 : decode cL_law 363 = .ok (.aload_n 1, 1) := by decide +kernel
theorem dL_law_364 : decode cL_law 364 = .ok (.invokevirtual 167, 3) := by decide +kernel
theorem dL_law_367 : decode cL_law 367 = .ok (.iconst (-1), 1) := by decide +kernel
theorem dL_law_368 : decode cL_law 368 = .ok (.if_icmp .eq 5, 3) := by decide +kernel
theorem dL_law_371 : decode cL_law 371 = .ok (.iconst 0, 1) := by decide +kernel
theorem dL_law_372 : decode cL_law 372 = .ok (.ireturn, 1) := by decide +kernel
theorem dL_law_373 : decode cL_law 373 = .ok (.aload_n 1, 1) := by decide +kernel
theorem dL_law_374 : decode cL_law 374 = .ok (.ldc 184, 2) := by decide +kernel
theorem dL_law_376 : decode cL_law 376 = .ok (.invokestatic 160, 3) := by decide +kernel
theorem dL_law_379 : decode cL_law 379 = .ok (.aload_n 1, 1) := by decide +kernel
theorem dL_law_380 : decode cL_law 380 = .ok (.invokestatic 173, 3) := by decide +kernel
theorem dL_law_383 : decode cL_law 383 = .ok (.bipush (-2), 2) := by decide +kernel
theorem dL_law_385 : decode cL_law 385 = .ok (.if_icmp .ne 29, 3) := by decide +kernel
theorem dL_law_388 : decode cL_law 388 = .ok (.aload_n 1, 1) := by decide +kernel
theorem dL_law_389 : decode cL_law 389 = .ok (.iconst 0, 1) := by decide +kernel
theorem dL_law_390 : decode cL_law 390 = .ok (.invokevirtual 176, 3) := by decide +kernel
theorem dL_law_393 : decode cL_law 393 = .ok (.iconst 4, 1) := by decide +kernel
theorem dL_law_394 : decode cL_law 394 = .ok (.if_icmp .ne 20, 3) := by decide +kernel
theorem dL_law_397 : decode cL_law 397 = .ok (.aload_n 1, 1) := by decide +kernel
theorem dL_law_398 : decode cL_law 398 = .ok (.iconst 1, 1) := by decide +kernel
theorem dL_law_399 : decode cL_law 399 = .ok (.invokevirtual 176, 3) := by decide +kernel
theorem dL_law_402 : decode cL_law 402 = .ok (.ifCond .ne 12, 3) := by decide +kernel
theorem dL_law_405 : decode cL_law 405 = .ok (.aload_n 1, 1) := by decide +kernel
theorem dL_law_406 : decode cL_law 406 = .ok (.invokestatic 139, 3) := by decide +kernel
theorem dL_law_409 : decode cL_law 409 = .ok (.iload 4, 2) := by decide +kernel
theorem dL_law_411 : decode cL_law 411 = .ok (.if_icmp .eq 5, 3) := by decide +kernel
theorem dL_law_414 : decode cL_law 414 = .ok (.iconst 0, 1) := by decide +kernel
theorem dL_law_415 : decode cL_law 415 = .ok (.ireturn, 1) := by decide +kernel
theorem dL_law_416 : decode cL_law 416 = .ok (.aload_n 1, 1) := by decide +kernel
theorem dL_law_417 : decode cL_law 417 = .ok (.ldc 186, 2) := by decide +kernel
theorem dL_law_419 : decode cL_law 419 = .ok (.iconst 5, 1) := by decide +kernel
theorem dL_law_420 : decode cL_law 420 = .ok (.invokestatic 188, 3) := by decide +kernel
theorem dL_law_423 : decode cL_law 423 = .ok (.ifCond .eq 92, 3) := by decide +kernel
theorem dL_law_426 : decode cL_law 426 = .ok (.aload_n 1, 1) := by decide +kernel
theorem dL_law_427 : decode cL_law 427 = .ok (.ldc 192, 2) := by decide +kernel
theorem dL_law_429 : decode cL_law 429 = .ok (.iconst 2, 1) := by decide +kernel
theorem dL_law_430 : decode cL_law 430 = .ok (.invokestatic 188, 3) := by decide +kernel
theorem dL_law_433 : decode cL_law 433 = .ok (.ifCond .eq 82, 3) := by decide +kernel
theorem dL_law_436 : decode cL_law 436 = .ok (.aload_n 1, 1) := by decide +kernel
theorem dL_law_437 : decode cL_law 437 = .ok (.ldc 194, 2) := by decide +kernel
theorem dL_law_439 : decode cL_law 439 = .ok (.iconst 1, 1) := by decide +kernel
theorem dL_law_440 : decode cL_law 440 = .ok (.invokestatic 188, 3) := by decide +kernel
theorem dL_law_443 : decode cL_law 443 = .ok (.ifCond .eq 72, 3) := by decide +kernel
theorem dL_law_446 : decode cL_law 446 = .ok (.aload_n 1, 1) := by decide +kernel
theorem dL_law_447 : decode cL_law 447 = .ok (.ldc 196, 2) := by decide +kernel
theorem dL_law_449 : decode cL_law 449 = .ok (.iconst 2, 1) := by decide +kernel
theorem dL_law_450 : decode cL_law 450 = .ok (.invokestatic 188, 3) := by decide +kernel
theorem dL_law_453 : decode cL_law 453 = .ok (.ifCond .eq 62, 3) := by decide +kernel
theorem dL_law_456 : decode cL_law 456 = .ok (.aload_n 1, 1) := by decide +kernel
theorem dL_law_457 : decode cL_law 457 = .ok (.ldc 198, 2) := by decide +kernel
theorem dL_law_459 : decode cL_law 459 = .ok (.iconst 0, 1) := by decide +kernel
theorem dL_law_460 : decode cL_law 460 = .ok (.invokestatic 188, 3) := by decide +kernel
theorem dL_law_463 : decode cL_law 463 = .ok (.ifCond .eq 52, 3) := by decide +kernel
theorem dL_law_466 : decode cL_law 466 = .ok (.aload_n 1, 1) := by decide +kernel
theorem dL_law_467 : decode cL_law 467 = .ok (.ldc 200, 2) := by decide +kernel
theorem dL_law_469 : decode cL_law 469 = .ok (.iconst 3, 1) := by decide +kernel
theorem dL_law_470 : decode cL_law 470 = .ok (.invokestatic 188, 3) := by decide +kernel
theorem dL_law_473 : decode cL_law 473 = .ok (.ifCond .eq 42, 3) := by decide +kernel
theorem dL_law_476 : decode cL_law 476 = .ok (.aload_n 1, 1) := by decide +kernel
theorem dL_law_477 : decode cL_law 477 = .ok (.ldc 202, 2) := by decide +kernel
theorem dL_law_479 : decode cL_law 479 = .ok (.iconst 3, 1) := by decide +kernel
theorem dL_law_480 : decode cL_law 480 = .ok (.invokestatic 188, 3) := by decide +kernel
theorem dL_law_483 : decode cL_law 483 = .ok (.ifCond .eq 32, 3) := by decide +kernel
theorem dL_law_486 : decode cL_law 486 = .ok (.aload_n 1, 1) := by decide +kernel
theorem dL_law_487 : decode cL_law 487 = .ok (.ldc 204, 2) := by decide +kernel
theorem dL_law_489 : decode cL_law 489 = .ok (.iconst 2, 1) := by decide +kernel
theorem dL_law_490 : decode cL_law 490 = .ok (.invokestatic 188, 3) := by decide +kernel
theorem dL_law_493 : decode cL_law 493 = .ok (.ifCond .eq 22, 3) := by decide +kernel
theorem dL_law_496 : decode cL_law 496 = .ok (.aload_n 1, 1) := by decide +kernel
theorem dL_law_497 : decode cL_law 497 = .ok (.ldc 206, 2) := by decide +kernel
theorem dL_law_499 : decode cL_law 499 = .ok (.iconst 0, 1) := by decide +kernel
theorem dL_law_500 : decode cL_law 500 = .ok (.invokestatic 188, 3) := by decide +kernel
theorem dL_law_503 : decode cL_law 503 = .ok (.ifCond .eq 12, 3) := by decide +kernel
theorem dL_law_506 : decode cL_law 506 = .ok (.aload_n 1, 1) := by decide +kernel
theorem dL_law_507 : decode cL_law 507 = .ok (.invokestatic 139, 3) := by decide +kernel
theorem dL_law_510 : decode cL_law 510 = .ok (.iload 4, 2) := by decide +kernel
theorem dL_law_512 : decode cL_law 512 = .ok (.if_icmp .eq 5, 3) := by decide +kernel
theorem dL_law_515 : decode cL_law 515 = .ok (.iconst 0, 1) := by decide +kernel
theorem dL_law_516 : decode cL_law 516 = .ok (.ireturn, 1) := by decide +kernel
theorem dL_law_517 : decode cL_law 517 = .ok (.aload_n 0, 1) := by decide +kernel
theorem dL_law_518 : decode cL_law 518 = .ok (.bipush 13, 2) := by decide +kernel
theorem dL_law_520 : decode cL_law 520 = .ok (.invokestatic 24, 3) := by decide +kernel
theorem dL_law_523 : decode cL_law 523 = .ok (.istore 8, 2) := by decide +kernel
theorem dL_law_525 : decode cL_law 525 = .ok (.bipush 9, 2) := by decide +kernel
theorem dL_law_527 : decode cL_law 527 = .ok (.iload 8, 2) := by decide +kernel
theorem dL_law_529 : decode cL_law 529 = .ok (.bipush 7, 2) := by decide +kernel
theorem dL_law_531 : decode cL_law 531 = .ok (.iand, 1) := by decide +kernel
theorem dL_law_532 : decode cL_law 532 = .ok (.iadd, 1) := by decide +kernel
theorem dL_law_533 : decode cL_law 533 = .ok (.istore 9, 2) := by decide +kernel
theorem dL_law_535 : decode cL_law 535 = .ok (.iconst 3, 1) := by decide +kernel
theorem dL_law_536 : decode cL_law 536 = .ok (.iload 8, 2) := by decide +kernel
theorem dL_law_538 : decode cL_law 538 = .ok (.iconst 3, 1) := by decide +kernel
theorem dL_law_539 : decode cL_law 539 = .ok (.ishr, 1) := by decide +kernel
theorem dL_law_540 : decode cL_law 540 = .ok (.iconst 1, 1) := by decide +kernel
theorem dL_law_541 : decode cL_law 541 = .ok (.iand, 1) := by decide +kernel
theorem dL_law_542 : decode cL_law 542 = .ok (.iadd, 1) := by decide +kernel
theorem dL_law_543 : decode cL_law 543 = .ok (.istore 10, 2) := by decide +kernel
theorem dL_law_545 : decode cL_law 545 = .ok (.new 18, 3) := by decide +kernel
theorem dL_law_548 : decode cL_law 548 = .ok (.dup, 1) := by decide +kernel
theorem dL_law_549 : decode cL_law 549 = .ok (.invokespecial 23, 3) := by decide +kernel
theorem dL_law_552 : decode cL_law 552 = .ok (.astore 11, 2) := by decide +kernel
theorem dL_law_554 : decode cL_law 554 = .ok (.aload 11, 2) := by decide +kernel
theorem dL_law_556 : decode cL_law 556 = .ok (.invokevirtual 208, 3) := by decide +kernel
theorem dL_law_559 : decode cL_law 559 = .ok (.iconst 3, 1) := by decide +kernel
theorem dL_law_560 : decode cL_law 560 = .ok (.if_icmp .ne 78, 3) := by decide +kernel
theorem dL_law_563 : decode cL_law 563 = .ok (.aload 11, 2) := by decide +kernel
theorem dL_law_565 : decode cL_law 565 = .ok (.iconst 2, 1) := by decide +kernel
theorem dL_law_566 : decode cL_law 566 = .ok (.invokevirtual 211, 3) := by decide +kernel
theorem dL_law_569 : decode cL_law 569 = .ok (.bipush 46, 2) := by decide +kernel
theorem dL_law_571 : decode cL_law 571 = .ok (.if_icmp .ne 67, 3) := by decide +kernel
theorem dL_law_574 : decode cL_law 574 = .ok (.aload 11, 2) := by decide +kernel
theorem dL_law_576 : decode cL_law 576 = .ok (.invokevirtual 214, 3) := by decide +kernel
theorem dL_law_579 : decode cL_law 579 = .ok (.bipush 64, 2) := by decide +kernel
theorem dL_law_581 : decode cL_law 581 = .ok (.if_icmp .ne 57, 3) := by decide +kernel
theorem dL_law_584 : decode cL_law 584 = .ok (.aload 11, 2) := by decide +kernel
theorem dL_law_586 : decode cL_law 586 = .ok (.bipush 9, 2) := by decide +kernel
theorem dL_law_588 : decode cL_law 588 = .ok (.iconst 3, 1) := by decide +kernel
theorem dL_law_589 : decode cL_law 589 = .ok (.invokevirtual 72, 3) := by decide +kernel
theorem dL_law_592 : decode cL_law 592 = .ok (.iconst (-1), 1) := by decide +kernel
theorem dL_law_593 : decode cL_law 593 = .ok (.if_icmp .ne 45, 3) := by decide +kernel
theorem dL_law_596 : decode cL_law 596 = .ok (.aload 11, 2) := by decide +kernel
theorem dL_law_598 : decode cL_law 598 = .ok (.iconst 1, 1) := by decide +kernel
theorem dL_law_599 : decode cL_law 599 = .ok (.invokevirtual 217, 3) := by decide +kernel
theorem dL_law_602 : decode cL_law 602 = .ok (.bipush 6, 2) := by decide +kernel
theorem dL_law_604 : decode cL_law 604 = .ok (.if_icmp .ne 34, 3) := by decide +kernel
theorem dL_law_607 : decode cL_law 607 = .ok (.aload 11, 2) := by decide +kernel
theorem dL_law_609 : decode cL_law 609 = .ok (.bipush 33, 2) := by decide +kernel
theorem dL_law_611 : decode cL_law 611 = .ok (.invokevirtual 220, 3) := by decide +kernel
theorem dL_law_614 : decode cL_law 614 = .ok (.iconst 1, 1) := by decide +kernel
theorem dL_law_615 : decode cL_law 615 = .ok (.if_icmp .ne 23, 3) := by decide +kernel
theorem dL_law_618 : decode cL_law 618 = .ok (.aload 11, 2) := by decide +kernel
theorem dL_law_620 : decode cL_law 620 = .ok (.bipush 64, 2) := by decide +kernel
theorem dL_law_622 : decode cL_law 622 = .ok (.invokevirtual 223, 3) := by decide +kernel
theorem dL_law_625 : decode cL_law 625 = .ok (.ifCond .ne 13, 3) := by decide +kernel
theorem dL_law_628 : decode cL_law 628 = .ok (.aload 11, 2) := by decide +kernel
theorem dL_law_630 : decode cL_law 630 = .ok (.invokevirtual 226, 3) := by decide +kernel
theorem dL_law_633 : decode cL_law 633 = .ok (.fconst 0, 1) := by decide +kernel
theorem dL_law_634 : decode cL_law 634 = .ok (.fcmp .l, 1) := by decide +kernel
theorem dL_law_635 : decode cL_law 635 = .ok (.ifCond .eq 5, 3) := by decide +kernel
theorem dL_law_638 : decode cL_law 638 = .ok (.iconst 0, 1) := by decide +kernel
theorem dL_law_639 : decode cL_law 639 = .ok (.ireturn, 1) := by decide +kernel
theorem dL_law_640 : decode cL_law 640 = .ok (.aload 11, 2) := by decide +kernel
theorem dL_law_642 : decode cL_law 642 = .ok (.new 143, 3) := by decide +kernel
theorem dL_law_645 : decode cL_law 645 = .ok (.dup, 1) := by decide +kernel
theorem dL_law_646 : decode cL_law 646 = .ok (.invokespecial 145, 3) := by decide +kernel
theorem dL_law_649 : decode cL_law 649 = .ok (.ldc 230, 2) := by decide +kernel
theorem dL_law_651 : decode cL_law 651 = .ok (.invokevirtual 148, 3) := by decide +kernel
theorem dL_law_654 : decode cL_law 654 = .ok (.iload 9, 2) := by decide +kernel
theorem dL_law_656 : decode cL_law 656 = .ok (.invokevirtual 151, 3) := by decide +kernel
theorem dL_law_659 : decode cL_law 659 = .ok (.ldc 232, 2) := by decide +kernel
theorem dL_law_661 : decode cL_law 661 = .ok (.invokevirtual 148, 3) := by decide +kernel
theorem dL_law_664 : decode cL_law 664 = .ok (.iload 10, 2) := by decide +kernel
theorem dL_law_666 : decode cL_law 666 = .ok (.invokevirtual 151, 3) := by decide +kernel
theorem dL_law_669 : decode cL_law 669 = .ok (.ldc 234, 2) := by decide +kernel
theorem dL_law_671 : decode cL_law 671 = .ok (.invokevirtual 148, 3) := by decide +kernel
theorem dL_law_674 : decode cL_law 674 = .ok (.iload 10, 2) := by decide +kernel
theorem dL_law_676 : decode cL_law 676 = .ok (.invokevirtual 151, 3) := by decide +kernel
theorem dL_law_679 : decode cL_law 679 = .ok (.invokevirtual 156, 3) := by decide +kernel
theorem dL_law_682 : decode cL_law 682 = .ok (.invokestatic 160, 3) := by decide +kernel
theorem dL_law_685 : decode cL_law 685 = .ok (.aload 11, 2) := by decide +kernel
theorem dL_law_687 : decode cL_law 687 = .ok (.invokevirtual 164, 3) := by decide +kernel
theorem dL_law_690 : decode cL_law 690 = .ok (.iconst 4, 1) := by decide +kernel
theorem dL_law_691 : decode cL_law 691 = .ok (.if_icmp .ne 126, 3) := by decide +kernel
theorem dL_law_694 : decode cL_law 694 = .ok (.aload 11, 2) := by decide +kernel
theorem dL_law_696 : decode cL_law 696 = .ok (.aload 11, 2) := by decide +kernel
theorem dL_law_698 : decode cL_law 698 = .ok (.invokevirtual 208, 3) := by decide +kernel
theorem dL_law_701 : decode cL_law 701 = .ok (.ldc 236, 2) := by decide +kernel
theorem dL_law_703 : decode cL_law 703 = .ok (.invokestatic 238, 3) := by decide +kernel
theorem dL_law_706 : decode cL_law 706 = .ok (.ifCond .eq 111, 3) := by decide +kernel
theorem dL_law_709 : decode cL_law 709 = .ok (.aload 11, 2) := by decide +kernel
theorem dL_law_711 : decode cL_law 711 = .ok (.bipush 6, 2) := by decide +kernel
theorem dL_law_713 : decode cL_law 713 = .ok (.invokevirtual 63, 3) := by decide +kernel
theorem dL_law_716 : decode cL_law 716 = .ok (.bipush 6, 2) := by decide +kernel
theorem dL_law_718 : decode cL_law 718 = .ok (.if_icmp .ne 99, 3) := by decide +kernel
theorem dL_law_721 : decode cL_law 721 = .ok (.aload 11, 2) := by decide +kernel
theorem dL_law_723 : decode cL_law 723 = .ok (.bipush 7, 2) := by decide +kernel
theorem dL_law_725 : decode cL_law 725 = .ok (.invokevirtual 63, 3) := by decide +kernel
theorem dL_law_728 : decode cL_law 728 = .ok (.ifCond .ne 89, 3) := by decide +kernel
theorem dL_law_731 : decode cL_law 731 = .ok (.aload 11, 2) := by decide +kernel
theorem dL_law_733 : decode cL_law 733 = .ok (.iconst 1, 1) := by decide +kernel
theorem dL_law_734 : decode cL_law 734 = .ok (.invokevirtual 242, 3) := by decide +kernel
theorem dL_law_737 : decode cL_law 737 = .ok (.bipush 22, 2) := by decide +kernel
theorem dL_law_739 : decode cL_law 739 = .ok (.if_icmp .ne 78, 3) := by decide +kernel
theorem dL_law_742 : decode cL_law 742 = .ok (.aload 11, 2) := by decide +kernel
theorem dL_law_744 : decode cL_law 744 = .ok (.iconst 4, 1) := by decide +kernel
theorem dL_law_745 : decode cL_law 745 = .ok (.invokevirtual 242, 3) := by decide +kernel
theorem dL_law_748 : decode cL_law 748 = .ok (.bipush 28, 2) := by decide +kernel
theorem dL_law_750 : decode cL_law 750 = .ok (.if_icmp .ne 67, 3) := by decide +kernel
theorem dL_law_753 : decode cL_law 753 = .ok (.aload 11, 2) := by decide +kernel
theorem dL_law_755 : decode cL_law 755 = .ok (.iconst 5, 1) := by decide +kernel
theorem dL_law_756 : decode cL_law 756 = .ok (.invokevirtual 217, 3) := by decide +kernel
theorem dL_law_759 : decode cL_law 759 = .ok (.iconst 2, 1) := by decide +kernel
theorem dL_law_760 : decode cL_law 760 = .ok (.if_icmp .ne 57, 3) := by decide +kernel
theorem dL_law_763 : decode cL_law 763 = .ok (.aload 11, 2) := by decide +kernel
theorem dL_law_765 : decode cL_law 765 = .ok (.iconst 4, 1) := by decide +kernel
theorem dL_law_766 : decode cL_law 766 = .ok (.invokevirtual 220, 3) := by decide +kernel
theorem dL_law_769 : decode cL_law 769 = .ok (.bipush 9, 2) := by decide +kernel
theorem dL_law_771 : decode cL_law 771 = .ok (.if_icmp .ne 46, 3) := by decide +kernel
theorem dL_law_774 : decode cL_law 774 = .ok (.aload 11, 2) := by decide +kernel
theorem dL_law_776 : decode cL_law 776 = .ok (.bipush 32, 2) := by decide +kernel
theorem dL_law_778 : decode cL_law 778 = .ok (.invokevirtual 223, 3) := by decide +kernel
theorem dL_law_781 : decode cL_law 781 = .ok (.ifCond .ne 36, 3) := by decide +kernel
theorem dL_law_784 : decode cL_law 784 = .ok (.aload 11, 2) := by decide +kernel
theorem dL_law_786 : decode cL_law 786 = .ok (.bipush 64, 2) := by decide +kernel
theorem dL_law_788 : decode cL_law 788 = .ok (.invokevirtual 223, 3) := by decide +kernel
theorem dL_law_791 : decode cL_law 791 = .ok (.iconst 4, 1) := by decide +kernel
theorem dL_law_792 : decode cL_law 792 = .ok (.if_icmp .ne 25, 3) := by decide +kernel
theorem dL_law_795 : decode cL_law 795 = .ok (.aload 11, 2) := by decide +kernel
theorem dL_law_797 : decode cL_law 797 = .ok (.iconst 5, 1) := by decide +kernel
theorem dL_law_798 : decode cL_law 798 = .ok (.invokevirtual 63, 3) := by decide +kernel
theorem dL_law_801 : decode cL_law 801 = .ok (.bipush 16, 2) := by decide +kernel
theorem dL_law_803 : decode cL_law 803 = .ok (.iload 9, 2) := by decide +kernel
theorem dL_law_805 : decode cL_law 805 = .ok (.isub, 1) := by decide +kernel
theorem dL_law_806 : decode cL_law 806 = .ok (.bipush 8, 2) := by decide +kernel
theorem dL_law_808 : decode cL_law 808 = .ok (.iadd, 1) := by decide +kernel
theorem dL_law_809 : decode cL_law 809 = .ok (.iconst 2, 1) := by decide +kernel
theorem dL_law_810 : decode cL_law 810 = .ok (.iload 10, 2) := by decide +kernel
theorem dL_law_812 : decode cL_law 812 = .ok (.imul, 1) := by decide +kernel
theorem dL_law_813 : decode cL_law 813 = .ok (.isub, 1) := by decide +kernel
theorem dL_law_814 : decode cL_law 814 = .ok (.if_icmp .eq 5, 3) := by decide +kernel
theorem dL_law_817 : decode cL_law 817 = .ok (.iconst 0, 1) := by decide +kernel
theorem dL_law_818 : decode cL_law 818 = .ok (.ireturn, 1) := by decide +kernel
theorem dL_law_819 : decode cL_law 819 = .ok (.aload 11, 2) := by decide +kernel
theorem dL_law_821 : decode cL_law 821 = .ok (.iconst 4, 1) := by decide +kernel
theorem dL_law_822 : decode cL_law 822 = .ok (.bipush 64, 2) := by decide +kernel
theorem dL_law_824 : decode cL_law 824 = .ok (.invokevirtual 38, 3) := by decide +kernel
theorem dL_law_827 : decode cL_law 827 = .ok (.iconst (-1), 1) := by decide +kernel
theorem dL_law_828 : decode cL_law 828 = .ok (.if_icmp .ne 108, 3) := by decide +kernel
theorem dL_law_831 : decode cL_law 831 = .ok (.aload 11, 2) := by decide +kernel
theorem dL_law_833 : decode cL_law 833 = .ok (.iconst 1, 1) := by decide +kernel
theorem dL_law_834 : decode cL_law 834 = .ok (.invokevirtual 41, 3) := by decide +kernel
theorem dL_law_837 : decode cL_law 837 = .ok (.ifCond .ne 99, 3) := by decide +kernel
theorem dL_law_840 : decode cL_law 840 = .ok (.aload 11, 2) := by decide +kernel
theorem dL_law_842 : decode cL_law 842 = .ok (.aload 11, 2) := by decide +kernel
theorem dL_law_844 : decode cL_law 844 = .ok (.invokevirtual 208, 3) := by decide +kernel
theorem dL_law_847 : decode cL_law 847 = .ok (.ldc 245, 2) := by decide +kernel
theorem dL_law_849 : decode cL_law 849 = .ok (.invokestatic 238, 3) := by decide +kernel
theorem dL_law_852 : decode cL_law 852 = .ok (.ifCond .eq 84, 3) := by decide +kernel
theorem dL_law_855 : decode cL_law 855 = .ok (.aload 11, 2) := by decide +kernel
theorem dL_law_857 : decode cL_law 857 = .ok (.iconst 1, 1) := by decide +kernel
theorem dL_law_858 : decode cL_law 858 = .ok (.iconst 1, 1) := by decide +kernel
theorem dL_law_859 : decode cL_law 859 = .ok (.invokevirtual 48, 3) := by decide +kernel
theorem dL_law_862 : decode cL_law 862 = .ok (.bipush 20, 2) := by decide +kernel
theorem dL_law_864 : decode cL_law 864 = .ok (.if_icmp .ne 72, 3) := by decide +kernel
theorem dL_law_867 : decode cL_law 867 = .ok (.aload 11, 2) := by decide +kernel
theorem dL_law_869 : decode cL_law 869 = .ok (.aload 11, 2) := by decide +kernel
theorem dL_law_871 : decode cL_law 871 = .ok (.invokevirtual 208, 3) := by decide +kernel
theorem dL_law_874 : decode cL_law 874 = .ok (.ldc 247, 2) := by decide +kernel
theorem dL_law_876 : decode cL_law 876 = .ok (.invokestatic 238, 3) := by decide +kernel
theorem dL_law_879 : decode cL_law 879 = .ok (.ifCond .eq 57, 3) := by decide +kernel
theorem dL_law_882 : decode cL_law 882 = .ok (.aload 11, 2) := by decide +kernel
theorem dL_law_884 : decode cL_law 884 = .ok (.iconst 1, 1) := by decide +kernel
theorem dL_law_885 : decode cL_law 885 = .ok (.iconst 4, 1) := by decide +kernel
theorem dL_law_886 : decode cL_law 886 = .ok (.invokevirtual 48, 3) := by decide +kernel
theorem dL_law_889 : decode cL_law 889 = .ok (.bipush 28, 2) := by decide +kernel
theorem dL_law_891 : decode cL_law 891 = .ok (.if_icmp .ne 45, 3) := by decide +kernel
theorem dL_law_894 : decode cL_law 894 = .ok (.aload 11, 2) := by decide +kernel
theorem dL_law_896 : decode cL_law 896 = .ok (.aload 11, 2) := by decide +kernel
theorem dL_law_898 : decode cL_law 898 = .ok (.invokevirtual 208, 3) := by decide +kernel
theorem dL_law_901 : decode cL_law 901 = .ok (.ldc 249, 2) := by decide +kernel
theorem dL_law_903 : decode cL_law 903 = .ok (.invokestatic 238, 3) := by decide +kernel
theorem dL_law_906 : decode cL_law 906 = .ok (.ifCond .eq 30, 3) := by decide +kernel
theorem dL_law_909 : decode cL_law 909 = .ok (.aload 11, 2) := by decide +kernel
theorem dL_law_911 : decode cL_law 911 = .ok (.iconst 1, 1) := by decide +kernel
theorem dL_law_912 : decode cL_law 912 = .ok (.iconst 5, 1) := by decide +kernel
theorem dL_law_913 : decode cL_law 913 = .ok (.invokevirtual 48, 3) := by decide +kernel
theorem dL_law_916 : decode cL_law 916 = .ok (.bipush 16, 2) := by decide +kernel
theorem dL_law_918 : decode cL_law 918 = .ok (.if_icmp .ne 18, 3) := by decide +kernel
theorem dL_law_921 : decode cL_law 921 = .ok (.aload 11, 2) := by decide +kernel
theorem dL_law_923 : decode cL_law 923 = .ok (.aload 11, 2) := by decide +kernel
theorem dL_law_925 : decode cL_law 925 = .ok (.invokevirtual 208, 3) := by decide +kernel
theorem dL_law_928 : decode cL_law 928 = .ok (.ldc 251, 2) := by decide +kernel
theorem dL_law_930 : decode cL_law 930 = .ok (.invokestatic 238, 3) := by decide +kernel
theorem dL_law_933 : decode cL_law 933 = .ok (.ifCond .ne 5, 3) := by decide +kernel
theorem dL_law_936 : decode cL_law 936 = .ok (.iconst 0, 1) := by decide +kernel
theorem dL_law_937 : decode cL_law 937 = .ok (.ireturn, 1) := by decide +kernel
theorem dL_law_938 : decode cL_law 938 = .ok (.aload 11, 2) := by decide +kernel
theorem dL_law_940 : decode cL_law 940 = .ok (.iconst 2, 1) := by decide +kernel
theorem dL_law_941 : decode cL_law 941 = .ok (.invokevirtual 41, 3) := by decide +kernel
theorem dL_law_944 : decode cL_law 944 = .ok (.ifCond .ne 136, 3) := by decide +kernel
theorem dL_law_947 : decode cL_law 947 = .ok (.aload 11, 2) := by decide +kernel
theorem dL_law_949 : decode cL_law 949 = .ok (.aload 11, 2) := by decide +kernel
theorem dL_law_951 : decode cL_law 951 = .ok (.invokevirtual 208, 3) := by decide +kernel
theorem dL_law_954 : decode cL_law 954 = .ok (.ldc 253, 2) := by decide +kernel
theorem dL_law_956 : decode cL_law 956 = .ok (.invokestatic 238, 3) := by decide +kernel
theorem dL_law_959 : decode cL_law 959 = .ok (.ifCond .eq 121, 3) := by decide +kernel
theorem dL_law_962 : decode cL_law 962 = .ok (.aload 11, 2) := by decide +kernel
theorem dL_law_964 : decode cL_law 964 = .ok (.iconst 1, 1) := by decide +kernel
theorem dL_law_965 : decode cL_law 965 = .ok (.invokevirtual 45, 3) := by decide +kernel
theorem dL_law_968 : decode cL_law 968 = .ok (.iconst 2, 1) := by decide +kernel
theorem dL_law_969 : decode cL_law 969 = .ok (.if_icmp .ne 111, 3) := by decide +kernel
theorem dL_law_972 : decode cL_law 972 = .ok (.aload 11, 2) := by decide +kernel
theorem dL_law_974 : decode cL_law 974 = .ok (.aload 11, 2) := by decide +kernel
theorem dL_law_976 : decode cL_law 976 = .ok (.invokevirtual 208, 3) := by decide +kernel
theorem dL_law_979 : decode cL_law 979 = .ok (.ldc 255, 2) := by decide +kernel
theorem dL_law_981 : decode cL_law 981 = .ok (.invokestatic 238, 3) := by decide +kernel
theorem dL_law_984 : decode cL_law 984 = .ok (.ifCond .eq 96, 3) := by decide +kernel
theorem dL_law_987 : decode cL_law 987 = .ok (.aload 11, 2) := by decide +kernel
theorem dL_law_989 : decode cL_law 989 = .ok (.iconst 0, 1) := by decide +kernel
theorem dL_law_990 : decode cL_law 990 = .ok (.iconst 0, 1) := by decide +kernel
theorem dL_law_991 : decode cL_law 991 = .ok (.invokevirtual 66, 3) := by decide +kernel
theorem dL_law_994 : decode cL_law 994 = .ok (.iconst 4, 1) := by decide +kernel
theorem dL_law_995 : decode cL_law 995 = .ok (.if_icmp .ne 85, 3) := by decide +kernel
theorem dL_law_998 : decode cL_law 998 = .ok (.aload 11, 2) := by decide +kernel
theorem dL_law_1000 : decode cL_law 1000 = .ok (.iconst 4, 1) := by decide +kernel
theorem dL_law_1001 : decode cL_law 1001 = .ok (.invokevirtual 63, 3) := by decide +kernel
theorem dL_law_1004 : decode cL_law 1004 = .ok (.ifCond .ne 76, 3) := by decide +kernel
theorem dL_law_1007 : decode cL_law 1007 = .ok (.aload 11, 2) := by decide +kernel
theorem dL_law_1009 : decode cL_law 1009 = .ok (.iconst 0, 1) := by decide +kernel
theorem dL_law_1010 : decode cL_law 1010 = .ok (.iconst 5, 1) := by decide +kernel
theorem dL_law_1011 : decode cL_law 1011 = .ok (.iconst 1, 1) := by decide +kernel
theorem dL_law_1012 : decode cL_law 1012 = .ok (.invokestatic 30, 3) := by decide +kernel
theorem dL_law_1015 : decode cL_law 1015 = .ok (.bipush (-2), 2) := by decide +kernel
theorem dL_law_1017 : decode cL_law 1017 = .ok (.if_icmp .ne 63, 3) := by decide +kernel
theorem dL_law_1020 : decode cL_law 1020 = .ok (.aload 11, 2) := by decide +kernel
theorem dL_law_1022 : decode cL_law 1022 = .ok (.iconst 0, 1) := by decide +kernel
theorem dL_law_1023 : decode cL_law 1023 = .ok (.invokevirtual 176, 3) := by decide +kernel
theorem dL_law_1026 : decode cL_law 1026 = .ok (.iconst 2, 1) := by decide +kernel
theorem dL_law_1027 : decode cL_law 1027 = .ok (.if_icmp .ne 53, 3) := by decide +kernel
theorem dL_law_1030 : decode cL_law 1030 = .ok (.aload 11, 2) := by decide +kernel
theorem dL_law_1032 : decode cL_law 1032 = .ok (.iconst 1, 1) := by decide +kernel
theorem dL_law_1033 : decode cL_law 1033 = .ok (.invokevirtual 176, 3) := by decide +kernel
theorem dL_law_1036 : decode cL_law 1036 = .ok (.ifCond .ne 44, 3) := by decide +kernel
theorem dL_law_1039 : decode cL_law 1039 = .ok (.aload 11, 2) := by decide +kernel
theorem dL_law_1041 : decode cL_law 1041 = .ok (.iconst 0, 1) := by decide +kernel
theorem dL_law_1042 : decode cL_law 1042 = .ok (.iconst 2, 1) := by decide +kernel
theorem dL_law_1043 : decode cL_law 1043 = .ok (.invokevirtual 48, 3) := by decide +kernel
theorem dL_law_1046 : decode cL_law 1046 = .ok (.ifCond .ne 34, 3) := by decide +kernel
theorem dL_law_1049 : decode cL_law 1049 = .ok (.aload 11, 2) := by decide +kernel
theorem dL_law_1051 : decode cL_law 1051 = .ok (.iconst 1, 1) := by decide +kernel
theorem dL_law_1052 : decode cL_law 1052 = .ok (.invokevirtual 51, 3) := by decide +kernel
theorem dL_law_1055 : decode cL_law 1055 = .ok (.ifCond .ne 25, 3) := by decide +kernel
theorem dL_law_1058 : decode cL_law 1058 = .ok (.aload 11, 2) := by decide +kernel
theorem dL_law_1060 : decode cL_law 1060 = .ok (.iconst 5, 1) := by decide +kernel
theorem dL_law_1061 : decode cL_law 1061 = .ok (.iconst 2, 1) := by decide +kernel
theorem dL_law_1062 : decode cL_law 1062 = .ok (.invokevirtual 34, 3) := by decide +kernel
theorem dL_law_1065 : decode cL_law 1065 = .ok (.iconst 1, 1) := by decide +kernel
theorem dL_law_1066 : decode cL_law 1066 = .ok (.if_icmp .ne 14, 3) := by decide +kernel
theorem dL_law_1069 : decode cL_law 1069 = .ok (.aload 11, 2) := by decide +kernel
theorem dL_law_1071 : decode cL_law 1071 = .ok (.iconst 1, 1) := by decide +kernel
theorem dL_law_1072 : decode cL_law 1072 = .ok (.iconst 2, 1) := by decide +kernel
theorem dL_law_1073 : decode cL_law 1073 = .ok (.invokevirtual 66, 3) := by decide +kernel
theorem dL_law_1076 : decode cL_law 1076 = .ok (.iconst 2, 1) := by decide +kernel
theorem dL_law_1077 : decode cL_law 1077 = .ok (.if_icmp .eq 5, 3) := by decide +kernel
theorem dL_law_1080 : decode cL_law 1080 = .ok (.iconst 0, 1) := by decide +kernel
theorem dL_law_1081 : decode cL_law 1081 = .ok (.ireturn, 1) := by decide +kernel
theorem dL_law_1082 : decode cL_law 1082 = .ok (.aload 11, 2) := by decide +kernel
theorem dL_law_1084 : decode cL_law 1084 = .ok (.iconst 2, 1) := by decide +kernel
theorem dL_law_1085 : decode cL_law 1085 = .ok (.invokevirtual 51, 3) := by decide +kernel
theorem dL_law_1088 : decode cL_law 1088 = .ok (.iconst 1, 1) := by decide +kernel
theorem dL_law_1089 : decode cL_law 1089 = .ok (.if_icmp .ne 81, 3) := by decide +kernel
theorem dL_law_1092 : decode cL_law 1092 = .ok (.aload 11, 2) := by decide +kernel
theorem dL_law_1094 : decode cL_law 1094 = .ok (.bipush 6, 2) := by decide +kernel
theorem dL_law_1096 : decode cL_law 1096 = .ok (.iconst 2, 1) := by decide +kernel
theorem dL_law_1097 : decode cL_law 1097 = .ok (.invokevirtual 38, 3) := by decide +kernel
theorem dL_law_1100 : decode cL_law 1100 = .ok (.bipush 32, 2) := by decide +kernel
theorem dL_law_1102 : decode cL_law 1102 = .ok (.if_icmp .ne 68, 3) := by decide +kernel
theorem dL_law_1105 : decode cL_law 1105 = .ok (.aload 11, 2) := by decide +kernel
theorem dL_law_1107 : decode cL_law 1107 = .ok (.invokevirtual 257, 3) := by decide +kernel
theorem dL_law_1110 : decode cL_law 1110 = .ok (.iconst 1, 1) := by decide +kernel
theorem dL_law_1111 : decode cL_law 1111 = .ok (.if_icmp .ne 59, 3) := by decide +kernel
theorem dL_law_1114 : decode cL_law 1114 = .ok (.aload 11, 2) := by decide +kernel
theorem dL_law_1116 : decode cL_law 1116 = .ok (.iconst 0, 1) := by decide +kernel
theorem dL_law_1117 : decode cL_law 1117 = .ok (.invokevirtual 41, 3) := by decide +kernel
theorem dL_law_1120 : decode cL_law 1120 = .ok (.ifCond .ne 50, 3) := by decide +kernel
theorem dL_law_1123 : decode cL_law 1123 = .ok (.aload 11, 2) := by decide +kernel
theorem dL_law_1125 : decode cL_law 1125 = .ok (.aload 11, 2) := by decide +kernel
theorem dL_law_1127 : decode cL_law 1127 = .ok (.invokevirtual 208, 3) := by decide +kernel
theorem dL_law_1130 : decode cL_law 1130 = .ok (.ldc_w 261, 3) := by decide +kernel
theorem dL_law_1133 : decode cL_law 1133 = .ok (.invokestatic 238, 3) := by decide +kernel
theorem dL_law_1136 : decode cL_law 1136 = .ok (.ifCond .eq 34, 3) := by decide +kernel
theorem dL_law_1139 : decode cL_law 1139 = .ok (.aload 11, 2) := by decide +kernel
theorem dL_law_1141 : decode cL_law 1141 = .ok (.iconst 1, 1) := by decide +kernel
theorem dL_law_1142 : decode cL_law 1142 = .ok (.invokevirtual 242, 3) := by decide +kernel
theorem dL_law_1145 : decode cL_law 1145 = .ok (.bipush 16, 2) := by decide +kernel
theorem dL_law_1147 : decode cL_law 1147 = .ok (.if_icmp .ne 23, 3) := by decide +kernel
theorem dL_law_1150 : decode cL_law 1150 = .ok (.aload 11, 2) := by decide +kernel
theorem dL_law_1152 : decode cL_law 1152 = .ok (.iconst 0, 1) := by decide +kernel
theorem dL_law_1153 : decode cL_law 1153 = .ok (.invokevirtual 263, 3) := by decide +kernel
theorem dL_law_1156 : decode cL_law 1156 = .ok (.iconst 5, 1) := by decide +kernel
theorem dL_law_1157 : decode cL_law 1157 = .ok (.if_icmp .ne 13, 3) := by decide +kernel
theorem dL_law_1160 : decode cL_law 1160 = .ok (.aload 11, 2) := by decide +kernel
theorem dL_law_1162 : decode cL_law 1162 = .ok (.invokevirtual 266, 3) := by decide +kernel
theorem dL_law_1165 : decode cL_law 1165 = .ok (.dconst 0, 1) := by decide +kernel
theorem dL_law_1166 : decode cL_law 1166 = .ok (.dcmp .l, 1) := by decide +kernel
theorem dL_law_1167 : decode cL_law 1167 = .ok (.ifCond .eq 5, 3) := by decide +kernel
theorem dL_law_1170 : decode cL_law 1170 = .ok (.iconst 0, 1) := by decide +kernel
theorem dL_law_1171 : decode cL_law 1171 = .ok (.ireturn, 1) := by decide +kernel
theorem dL_law_1172 : decode cL_law 1172 = .ok (.aload_n 1, 1) := by decide +kernel
theorem dL_law_1173 : decode cL_law 1173 = .ok (.invokevirtual 270, 3) := by decide +kernel
theorem dL_law_1176 : decode cL_law 1176 = .ok (.iload_n 3, 1) := by decide +kernel
theorem dL_law_1177 : decode cL_law 1177 = .ok (.if_icmp .ne 25, 3) := by decide +kernel
theorem dL_law_1180 : decode cL_law 1180 = .ok (.aload_n 1, 1) := by decide +kernel
theorem dL_law_1181 : decode cL_law 1181 = .ok (.bipush 10, 2) := by decide +kernel
theorem dL_law_1183 : decode cL_law 1183 = .ok (.invokevirtual 63, 3) := by decide +kernel
theorem dL_law_1186 : decode cL_law 1186 = .ok (.ifCond .ne 16, 3) := by decide +kernel
theorem dL_law_1189 : decode cL_law 1189 = .ok (.aload_n 1, 1) := by decide +kernel
theorem dL_law_1190 : decode cL_law 1190 = .ok (.invokestatic 139, 3) := by decide +kernel
theorem dL_law_1193 : decode cL_law 1193 = .ok (.iload 4, 2) := by decide +kernel
theorem dL_law_1195 : decode cL_law 1195 = .ok (.if_icmp .ne 7, 3) := by decide +kernel
theorem dL_law_1198 : decode cL_law 1198 = .ok (.iconst 1, 1) := by decide +kernel
theorem dL_law_1199 : decode cL_law 1199 = .ok (.goto 4, 3) := by decide +kernel
theorem dL_law_1202 : decode cL_law 1202 = .ok (.iconst 0, 1) := by decide +kernel
theorem dL_law_1203 : decode cL_law 1203 = .ok (.ireturn, 1) := by decide +kernel
theorem dL_isLine_0 : decode cL_isLine 0 = .ok (.iload_n 1, 1) := by decide +kernel
theorem dL_isLine_1 : decode cL_isLine 1 = .ok (.aload_n 2, 1) := by decide +kernel
theorem dL_isLine_2 : decode cL_isLine 2 = .ok (.invokevirtual 7, 3) := by decide +kernel
theorem dL_isLine_5 : decode cL_isLine 5 = .ok (.if_icmp .eq 5, 3) := by decide +kernel
theorem dL_isLine_8 : decode cL_isLine 8 = .ok (.iconst 0, 1) := by decide +kernel
theorem dL_isLine_9 : decode cL_isLine 9 = .ok (.ireturn, 1) := by decide +kernel
theorem dL_isLine_10 : decode cL_isLine 10 = .ok (.iconst 0, 1) := by decide +kernel
theorem dL_isLine_11 : decode cL_isLine 11 = .ok (.istore_n 3, 1) := by decide +kernel
theorem dL_isLine_12 : decode cL_isLine 12 = .ok (.iload_n 3, 1) := by decide +kernel
theorem dL_isLine_13 : decode cL_isLine 13 = .ok (.iload_n 1, 1) := by decide +kernel
theorem dL_isLine_14 : decode cL_isLine 14 = .ok (.if_icmp .ge 24, 3) := by decide +kernel
theorem dL_isLine_17 : decode cL_isLine 17 = .ok (.aload_n 0, 1) := by decide +kernel
theorem dL_isLine_18 : decode cL_isLine 18 = .ok (.iload_n 3, 1) := by decide +kernel
theorem dL_isLine_19 : decode cL_isLine 19 = .ok (.invokevirtual 211, 3) := by decide +kernel
theorem dL_isLine_22 : decode cL_isLine 22 = .ok (.aload_n 2, 1) := by decide +kernel
theorem dL_isLine_23 : decode cL_isLine 23 = .ok (.iload_n 3, 1) := by decide +kernel
theorem dL_isLine_24 : decode cL_isLine 24 = .ok (.invokevirtual 13, 3) := by decide +kernel
theorem dL_isLine_27 : decode cL_isLine 27 = .ok (.if_icmp .eq 5, 3) := by decide +kernel
theorem dL_isLine_30 : decode cL_isLine 30 = .ok (.iconst 0, 1) := by decide +kernel
theorem dL_isLine_31 : decode cL_isLine 31 = .ok (.ireturn, 1) := by decide +kernel
theorem dL_isLine_32 : decode cL_isLine 32 = .ok (.iinc 3 1, 3) := by decide +kernel
theorem dL_isLine_35 : decode cL_isLine 35 = .ok (.goto (-23), 3) := by decide +kernel
theorem dL_isLine_38 : decode cL_isLine 38 = .ok (.iconst 1, 1) := by decide +kernel
theorem dL_isLine_39 : decode cL_isLine 39 = .ok (.ireturn, 1) := by decide +kernel
theorem dL_runs_0 : decode cL_runs 0 = .ok (.aload_n 0, 1) := by decide +kernel
theorem dL_runs_1 : decode cL_runs 1 = .ok (.invokevirtual 164, 3) := by decide +kernel
theorem dL_runs_4 : decode cL_runs 4 = .ok (.ireturn, 1) := by decide +kernel
theorem dL_runs_5 : decode cL_runs 5 = .ok (.astore_n 1, 1) := by decide +kernel
theorem dL_runs_6 : decode cL_runs 6 = .ok (.iconst (-1), 1) := by decide +kernel
theorem dL_runs_7 : decode cL_runs 7 = .ok (.ireturn, 1) := by decide +kernel
theorem dL_runs_8 : decode cL_runs 8 = .ok (.astore_n 1, 1) := by decide +kernel
theorem dL_runs_9 : decode cL_runs 9 = .ok (.bipush (-2), 2) := by decide +kernel
theorem dL_runs_11 : decode cL_runs 11 = .ok (.ireturn, 1) := by decide +kernel
theorem dL_faults_0 : decode cL_faults 0 = .ok (.aload_n 0, 1) := by decide +kernel
theorem dL_faults_1 : decode cL_faults 1 = .ok (.aload_n 1, 1) := by decide +kernel
theorem dL_faults_2 : decode cL_faults 2 = .ok (.invokestatic 160, 3) := by decide +kernel
theorem dL_faults_5 : decode cL_faults 5 = .ok (.aload_n 0, 1) := by decide +kernel
theorem dL_faults_6 : decode cL_faults 6 = .ok (.invokestatic 173, 3) := by decide +kernel
theorem dL_faults_9 : decode cL_faults 9 = .ok (.iconst (-1), 1) := by decide +kernel
theorem dL_faults_10 : decode cL_faults 10 = .ok (.if_icmp .ne 15, 3) := by decide +kernel
theorem dL_faults_13 : decode cL_faults 13 = .ok (.aload_n 0, 1) := by decide +kernel
theorem dL_faults_14 : decode cL_faults 14 = .ok (.invokevirtual 167, 3) := by decide +kernel
theorem dL_faults_17 : decode cL_faults 17 = .ok (.iload_n 2, 1) := by decide +kernel
theorem dL_faults_18 : decode cL_faults 18 = .ok (.if_icmp .ne 7, 3) := by decide +kernel
theorem dL_faults_21 : decode cL_faults 21 = .ok (.iconst 1, 1) := by decide +kernel
theorem dL_faults_22 : decode cL_faults 22 = .ok (.goto 4, 3) := by decide +kernel
theorem dL_faults_25 : decode cL_faults 25 = .ok (.iconst 0, 1) := by decide +kernel
theorem dL_faults_26 : decode cL_faults 26 = .ok (.ireturn, 1) := by decide +kernel
